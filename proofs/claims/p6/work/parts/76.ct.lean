/-! THE CLASS's methods answer (written by wip/tot) -/
set_option maxHeartbeats 4000000 in
theorem ct_Border_geese_B {n : Nat} (hn : gb_N ≤ n) {σ : gb_S} {k0 : Nat} (hT : gb_TC σ) (hk0 : gb_kB k0 = true) : gb_tc (cs_Border_geese_B n σ k0) (fun s r => s = σ ∧ gb_iv 0 8 r) := by
  unfold cs_Border_geese_B
  refine gc_kk hk0 ?_
  refine gc_lti (lo := 0) (hi := 8) (gc_rd (c := 1) (lo := 0) (hi := 8) hT (gc_catB hk0) (by decide)) (fun x_2 ex_2 ix_2 => ?_)
  exact gc_some ⟨rfl, ix_2⟩
set_option maxHeartbeats 4000000 in
theorem ct_Border_paths_B {n : Nat} (hn : gb_N ≤ n) {σ : gb_S} {k0 : Nat} (hT : gb_TC σ) (hk0 : gb_kB k0 = true) : gb_tc (cs_Border_paths_B n σ k0) (fun s r => s = σ ∧ gb_iv 0 5 r) := by
  unfold cs_Border_paths_B
  refine gc_kk hk0 ?_
  refine gc_lti (lo := 0) (hi := 5) (gc_rd (c := 1) (lo := 0) (hi := 5) hT (gc_catB hk0) (by decide)) (fun x_2 ex_2 ix_2 => ?_)
  exact gc_some ⟨rfl, ix_2⟩
set_option maxHeartbeats 4000000 in
theorem ct_Border_cap_B {n : Nat} (hn : gb_N ≤ n) {σ : gb_S} {k0 : Nat} (hT : gb_TC σ) (hk0 : gb_kB k0 = true) : gb_tc (cs_Border_cap_B n σ k0) (fun s r => s = σ ∧ gb_iv (-2147483648) 2147483647 r) := by
  unfold cs_Border_cap_B
  refine gc_kk hk0 ?_
  refine gc_lti (lo := (-2147483648)) (hi := 2147483647) (gb_it _) (fun x_2 ex_2 ix_2 => ?_)
  exact gc_some ⟨rfl, (gb_it _)⟩
set_option maxHeartbeats 4000000 in
theorem ct_Border_hasPath_B {n : Nat} (hn : gb_N ≤ n) {σ : gb_S} {k0 : Nat} {p1 : Int32} (hT : gb_TC σ) (hk0 : gb_kB k0 = true) : gb_tc (cs_Border_hasPath_B n σ k0 p1) (fun s r => s = σ ∧ (gb_iv 0 1 r ∧ (¬ r = 0 → gb_iv 0 4 p1))) := by
  unfold cs_Border_hasPath_B
  refine gc_kk hk0 ?_
  refine gc_if (fun c_8 => ?_) (fun c_8 => ?_)
  · have j_9 : gb_iv (-2147483648) (-1) p1 := (gb_rU (lo := (-2147483648)) (hi := (-1)) (gb_dlt c_8) (gb_it _) (gb_ic (a := 0) (by decide)) (by decide))
    exact gc_some ⟨rfl, ⟨(gb_iw (lo := 0) (hi := 1) (gb_ic (a := 0) (by decide)) (by decide)), (fun h => absurd rfl h)⟩⟩
  · have j_10 : gb_iv 0 2147483647 p1 := (gb_rL (lo := 0) (hi := 2147483647) (gb_dnlt c_8) (gb_it _) (gb_ic (a := 0) (by decide)) (by decide))
    refine gc_cdP (ct_Border_paths_B hn hT hk0) (fun r_4 qr_4 h_11 => ?_)
    refine gc_if (fun c_12 => ?_) (fun c_12 => ?_)
    · exact gc_some ⟨rfl, ⟨(gb_iw (lo := 0) (hi := 1) (gb_ic (a := 0) (by decide)) (by decide)), (fun h => absurd rfl h)⟩⟩
    · have j_13 : gb_iv 0 4 p1 := (gb_rU (lo := 0) (hi := 4) (gb_dnle c_12) j_10 h_11 (by decide))
      have j_14 : gb_iv 1 5 r_4 := (gb_rL (lo := 1) (hi := 5) (gb_dnle c_12) h_11 j_13 (by decide))
      exact gc_some ⟨rfl, ⟨(gb_iw (lo := 0) (hi := 1) (gb_ic (a := 1) (by decide)) (by decide)), (fun _ => j_13)⟩⟩
set_option maxHeartbeats 4000000 in
theorem ct_Border_hasGoose_B {n : Nat} (hn : gb_N ≤ n) {σ : gb_S} {k0 : Nat} {p1 : Int32} (hT : gb_TC σ) (hk0 : gb_kB k0 = true) : gb_tc (cs_Border_hasGoose_B n σ k0 p1) (fun s r => s = σ ∧ (gb_iv 0 1 r ∧ (¬ r = 0 → gb_iv 0 7 p1))) := by
  unfold cs_Border_hasGoose_B
  refine gc_kk hk0 ?_
  refine gc_if (fun c_22 => ?_) (fun c_22 => ?_)
  · have j_23 : gb_iv (-2147483648) (-1) p1 := (gb_rU (lo := (-2147483648)) (hi := (-1)) (gb_dlt c_22) (gb_it _) (gb_ic (a := 0) (by decide)) (by decide))
    exact gc_some ⟨rfl, ⟨(gb_iw (lo := 0) (hi := 1) (gb_ic (a := 0) (by decide)) (by decide)), (fun h => absurd rfl h)⟩⟩
  · have j_24 : gb_iv 0 2147483647 p1 := (gb_rL (lo := 0) (hi := 2147483647) (gb_dnlt c_22) (gb_it _) (gb_ic (a := 0) (by decide)) (by decide))
    refine gc_cdP (ct_Border_geese_B hn hT hk0) (fun r_4 qr_4 h_25 => ?_)
    refine gc_if (fun c_26 => ?_) (fun c_26 => ?_)
    · exact gc_some ⟨rfl, ⟨(gb_iw (lo := 0) (hi := 1) (gb_ic (a := 0) (by decide)) (by decide)), (fun h => absurd rfl h)⟩⟩
    · have j_27 : gb_iv 0 7 p1 := (gb_rU (lo := 0) (hi := 7) (gb_dnle c_26) j_24 h_25 (by decide))
      have j_28 : gb_iv 1 8 r_4 := (gb_rL (lo := 1) (hi := 8) (gb_dnle c_26) h_25 j_27 (by decide))
      exact gc_some ⟨rfl, ⟨(gb_iw (lo := 0) (hi := 1) (gb_ic (a := 1) (by decide)) (by decide)), (fun _ => j_27)⟩⟩
set_option maxHeartbeats 4000000 in
theorem ct_Border_numberTold_B {n : Nat} (hn : gb_N ≤ n) {σ : gb_S} {k0 : Nat} {p1 : Int32} (hT : gb_TC σ) (hk0 : gb_kB k0 = true) : gb_tc (cs_Border_numberTold_B n σ k0 p1) (fun s r => s = σ ∧ gb_iv (-2147483648) 2147483647 r) := by
  unfold cs_Border_numberTold_B
  refine gc_kk hk0 ?_
  refine gc_if (fun c_48 => ?_) (fun c_48 => ?_)
  · have j_49 : gb_iv (-2147483648) 9 p1 := (gb_rU (lo := (-2147483648)) (hi := 9) (gb_dlt c_48) (gb_it _) (gb_ic (a := 10) (by decide)) (by decide))
    exact gc_some ⟨rfl, (gb_iw (lo := (-2147483648)) (hi := 2147483647) (gb_ic (a := (-2)) (by decide)) (by decide))⟩
  · have j_50 : gb_iv 10 2147483647 p1 := (gb_rL (lo := 10) (hi := 2147483647) (gb_dnlt c_48) (gb_it _) (gb_ic (a := 10) (by decide)) (by decide))
    refine gc_if (fun c_51 => ?_) (fun c_51 => ?_)
    · have j_52 : gb_iv 10 89 p1 := (gb_rU (lo := 10) (hi := 89) (gb_dle c_51) j_50 (gb_ic (a := 89) (by decide)) (by decide))
      refine gc_lti (lo := 1) (hi := 8) (gb_idivc (v := 10) (lo := 1) (hi := 8) j_52 (by decide) (by decide)) (fun x_4 ex_4 ix_4 => ?_)
      refine gc_lti (lo := 0) (hi := 9) (gb_irem (lo := 0) (hi := 9) j_52 (gb_ic (a := 10) (by decide)) (by decide)) (fun x_5 ex_5 ix_5 => ?_)
      refine gc_if (fun c_53 => ?_) (fun c_53 => ?_)
      · have j_54 : gb_iv 4 8 x_4 := (gb_rL (lo := 4) (hi := 8) (gb_dlt c_53) ix_4 (gb_ic (a := 3) (by decide)) (by decide))
        refine gc_lti (lo := 0) (hi := 4) (gb_isub (lo := 0) (hi := 4) (gb_isub (lo := 3) (hi := 7) j_54 (gb_ic (a := 1) (by decide)) (by decide)) (gb_ic (a := 3) (by decide)) (by decide)) (fun x_7 ex_7 ix_7 => ?_)
        refine gc_cdP (ct_Border_hasGoose_B hn hT hk0) (fun r_9 qr_9 h_55 => ?_)
        refine gc_if (fun c_56 => ?_) (fun c_56 => ?_)
        · have j_57 : gb_iv 0 0 r_9 := (gb_rU (lo := 0) (hi := 0) (gb_deq c_56) h_55.1 (gb_ic (a := 0) (by decide)) (by decide))
          exact gc_some ⟨rfl, (gb_iw (lo := (-2147483648)) (hi := 2147483647) (gb_ic (a := (-2)) (by decide)) (by decide))⟩
        · have j_58 : gb_iv 1 1 r_9 := (gb_rN (lo := 1) (hi := 1) (v := 0) c_56 h_55.1 (by decide) (by decide))
          have j_59 : gb_iv 0 7 x_5 := (h_55.2 c_56)
          refine gc_ck (gb_iadd (lo := 18) (hi := 57) (gb_iadd (lo := 18) (hi := 53) (gb_ic (a := 18) (by decide)) (gb_imul (lo := 0) (hi := 35) j_59 (gb_ic (a := 5) (by decide)) (by decide)) (by decide)) ix_7 (by decide)) (by decide) ?_
          refine gc_lti (lo := (-2147483648)) (hi := 2147483647) (gb_it _) (fun x_14 ex_14 ix_14 => ?_)
          exact gc_some ⟨rfl, (gb_it _)⟩
      · have j_60 : gb_iv 1 3 x_4 := (gb_rU (lo := 1) (hi := 3) (gb_dnlt c_53) ix_4 (gb_ic (a := 3) (by decide)) (by decide))
        refine gc_cdP (ct_Border_hasPath_B hn hT hk0) (fun r_16 qr_16 h_61 => ?_)
        refine gc_if (fun c_62 => ?_) (fun c_62 => ?_)
        · have j_63 : gb_iv 0 0 r_16 := (gb_rU (lo := 0) (hi := 0) (gb_deq c_62) h_61.1 (gb_ic (a := 0) (by decide)) (by decide))
          exact gc_some ⟨rfl, (gb_iw (lo := (-2147483648)) (hi := 2147483647) (gb_ic (a := (-2)) (by decide)) (by decide))⟩
        · have j_64 : gb_iv 1 1 r_16 := (gb_rN (lo := 1) (hi := 1) (v := 0) c_62 h_61.1 (by decide) (by decide))
          have j_65 : gb_iv 0 4 x_5 := (h_61.2 c_62)
          refine gc_ck (gb_isub (lo := 3) (hi := 17) (gb_iadd (lo := 4) (hi := 18) (gb_iadd (lo := 3) (hi := 15) (gb_ic (a := 3) (by decide)) (gb_imul (lo := 0) (hi := 12) j_65 (gb_ic (a := 3) (by decide)) (by decide)) (by decide)) j_60 (by decide)) (gb_ic (a := 1) (by decide)) (by decide)) (by decide) ?_
          refine gc_lti (lo := (-2147483648)) (hi := 2147483647) (gb_it _) (fun x_21 ex_21 ix_21 => ?_)
          exact gc_some ⟨rfl, (gb_it _)⟩
    · have j_66 : gb_iv 90 2147483647 p1 := (gb_rL (lo := 90) (hi := 2147483647) (gb_dnle c_51) j_50 (gb_ic (a := 89) (by decide)) (by decide))
      exact gc_some ⟨rfl, (gb_iw (lo := (-2147483648)) (hi := 2147483647) (gb_ic (a := (-2)) (by decide)) (by decide))⟩
set_option maxHeartbeats 4000000 in
theorem ct_Border_miles_B {n : Nat} (hn : gb_N ≤ n) {σ : gb_S} {k0 : Nat} {p1 : Int32} (hT : gb_TC σ) (hk0 : gb_kB k0 = true) (ip1 : gb_iv 0 4 p1) : gb_tc (cs_Border_miles_B n σ k0 p1) (fun s r => s = σ ∧ gb_iv (-2147483648) 2147483647 r) := by
  unfold cs_Border_miles_B
  refine gc_kk hk0 ?_
  refine gc_ck (gb_iadd (lo := 3) (hi := 15) (gb_ic (a := 3) (by decide)) (gb_imul (lo := 0) (hi := 12) ip1 (gb_ic (a := 3) (by decide)) (by decide)) (by decide)) (by decide) ?_
  refine gc_lti (lo := (-2147483648)) (hi := 2147483647) (gb_it _) (fun x_3 ex_3 ix_3 => ?_)
  exact gc_some ⟨rfl, (gb_it _)⟩
set_option maxHeartbeats 4000000 in
theorem ct_Border_rate_B {n : Nat} (hn : gb_N ≤ n) {σ : gb_S} {k0 : Nat} {p1 : Int32} (hT : gb_TC σ) (hk0 : gb_kB k0 = true) (ip1 : gb_iv 0 4 p1) : gb_tc (cs_Border_rate_B n σ k0 p1) (fun s r => s = σ ∧ gb_iv (-2147483648) 2147483647 r) := by
  unfold cs_Border_rate_B
  refine gc_kk hk0 ?_
  refine gc_ck (gb_iadd (lo := 4) (hi := 16) (gb_iadd (lo := 3) (hi := 15) (gb_ic (a := 3) (by decide)) (gb_imul (lo := 0) (hi := 12) ip1 (gb_ic (a := 3) (by decide)) (by decide)) (by decide)) (gb_ic (a := 1) (by decide)) (by decide)) (by decide) ?_
  refine gc_lti (lo := (-2147483648)) (hi := 2147483647) (gb_it _) (fun x_3 ex_3 ix_3 => ?_)
  exact gc_some ⟨rfl, (gb_it _)⟩
set_option maxHeartbeats 4000000 in
theorem ct_Border_pad_B {n : Nat} (hn : gb_N ≤ n) {σ : gb_S} {k0 : Nat} {p1 : Int32} (hT : gb_TC σ) (hk0 : gb_kB k0 = true) (ip1 : gb_iv 0 4 p1) : gb_tc (cs_Border_pad_B n σ k0 p1) (fun s r => s = σ ∧ gb_iv (-2147483648) 2147483647 r) := by
  unfold cs_Border_pad_B
  refine gc_kk hk0 ?_
  refine gc_ck (gb_iadd (lo := 5) (hi := 17) (gb_iadd (lo := 3) (hi := 15) (gb_ic (a := 3) (by decide)) (gb_imul (lo := 0) (hi := 12) ip1 (gb_ic (a := 3) (by decide)) (by decide)) (by decide)) (gb_ic (a := 2) (by decide)) (by decide)) (by decide) ?_
  refine gc_lti (lo := (-2147483648)) (hi := 2147483647) (gb_it _) (fun x_3 ex_3 ix_3 => ?_)
  exact gc_some ⟨rfl, (gb_it _)⟩
set_option maxHeartbeats 4000000 in
theorem ct_Border_toes_B {n : Nat} (hn : gb_N ≤ n) {σ : gb_S} {k0 : Nat} {p1 : Int32} (hT : gb_TC σ) (hk0 : gb_kB k0 = true) (ip1 : gb_iv 0 7 p1) : gb_tc (cs_Border_toes_B n σ k0 p1) (fun s r => s = σ ∧ gb_iv (-2147483648) 2147483647 r) := by
  unfold cs_Border_toes_B
  refine gc_kk hk0 ?_
  refine gc_lti (lo := 18) (hi := 53) (gb_iadd (lo := 18) (hi := 53) (gb_ic (a := 18) (by decide)) (gb_imul (lo := 0) (hi := 35) ip1 (gb_ic (a := 5) (by decide)) (by decide)) (by decide)) (fun x_2 ex_2 ix_2 => ?_)
  refine gc_ck ix_2 (by decide) ?_
  refine gc_lti (lo := (-2147483648)) (hi := 2147483647) (gb_it _) (fun x_4 ex_4 ix_4 => ?_)
  refine gc_ck (gb_iadd (lo := 19) (hi := 54) ix_2 (gb_ic (a := 1) (by decide)) (by decide)) (by decide) ?_
  refine gc_lti (lo := (-2147483648)) (hi := 2147483647) (gb_it _) (fun x_6 ex_6 ix_6 => ?_)
  exact gc_some ⟨rfl, (gb_it _)⟩
set_option maxHeartbeats 4000000 in
theorem ct_Border_boots_B {n : Nat} (hn : gb_N ≤ n) {σ : gb_S} {k0 : Nat} {p1 : Int32} (hT : gb_TC σ) (hk0 : gb_kB k0 = true) (ip1 : gb_iv 0 7 p1) : gb_tc (cs_Border_boots_B n σ k0 p1) (fun s r => s = σ ∧ gb_iv (-2147483648) 2147483647 r) := by
  unfold cs_Border_boots_B
  refine gc_kk hk0 ?_
  refine gc_ck (gb_iadd (lo := 20) (hi := 55) (gb_iadd (lo := 18) (hi := 53) (gb_ic (a := 18) (by decide)) (gb_imul (lo := 0) (hi := 35) ip1 (gb_ic (a := 5) (by decide)) (by decide)) (by decide)) (gb_ic (a := 2) (by decide)) (by decide)) (by decide) ?_
  refine gc_lti (lo := (-2147483648)) (hi := 2147483647) (gb_it _) (fun x_3 ex_3 ix_3 => ?_)
  exact gc_some ⟨rfl, (gb_it _)⟩
set_option maxHeartbeats 4000000 in
theorem ct_Border_limps_B {n : Nat} (hn : gb_N ≤ n) {σ : gb_S} {k0 : Nat} {p1 : Int32} (hT : gb_TC σ) (hk0 : gb_kB k0 = true) (ip1 : gb_iv 0 7 p1) : gb_tc (cs_Border_limps_B n σ k0 p1) (fun s r => s = σ ∧ gb_iv 0 1 r) := by
  unfold cs_Border_limps_B
  refine gc_kk hk0 ?_
  refine gc_ck (gb_iadd (lo := 21) (hi := 56) (gb_iadd (lo := 18) (hi := 53) (gb_ic (a := 18) (by decide)) (gb_imul (lo := 0) (hi := 35) ip1 (gb_ic (a := 5) (by decide)) (by decide)) (by decide)) (gb_ic (a := 3) (by decide)) (by decide)) (by decide) ?_
  refine gc_lti (lo := (-2147483648)) (hi := 2147483647) (gb_it _) (fun x_3 ex_3 ix_3 => ?_)
  refine gc_if (fun c_70 => ?_) (fun c_70 => ?_)
  · have j_71 : gb_iv (-2147483648) 1 x_3 := (gb_rU (lo := (-2147483648)) (hi := 1) (gb_deq c_70) (gb_it _) (gb_ic (a := 1) (by decide)) (by decide))
    have j_72 : gb_iv 1 1 x_3 := (gb_rL (lo := 1) (hi := 1) (gb_deq2 c_70) j_71 (gb_ic (a := 1) (by decide)) (by decide))
    exact gc_some ⟨rfl, (gb_iw (lo := 0) (hi := 1) (gb_ic (a := 1) (by decide)) (by decide))⟩
  · exact gc_some ⟨rfl, (gb_iw (lo := 0) (hi := 1) (gb_ic (a := 0) (by decide)) (by decide))⟩
set_option maxHeartbeats 4000000 in
theorem ct_Border_worth_B {n : Nat} (hn : gb_N ≤ n) {σ : gb_S} {k0 : Nat} {p1 : Int32} (hT : gb_TC σ) (hk0 : gb_kB k0 = true) (ip1 : gb_iv 0 7 p1) : gb_tc (cs_Border_worth_B n σ k0 p1) (fun s r => s = σ ∧ gb_iv (-2147483648) 2147483647 r) := by
  unfold cs_Border_worth_B
  refine gc_kk hk0 ?_
  refine gc_ck (gb_iadd (lo := 22) (hi := 57) (gb_iadd (lo := 18) (hi := 53) (gb_ic (a := 18) (by decide)) (gb_imul (lo := 0) (hi := 35) ip1 (gb_ic (a := 5) (by decide)) (by decide)) (by decide)) (gb_ic (a := 4) (by decide)) (by decide)) (by decide) ?_
  refine gc_lti (lo := (-2147483648)) (hi := 2147483647) (gb_it _) (fun x_3 ex_3 ix_3 => ?_)
  exact gc_some ⟨rfl, (gb_it _)⟩
set_option maxHeartbeats 4000000 in
theorem ct_Border_worthOf_B_4 {n : Nat} (hn : gb_N ≤ n) {Q : gb_S → Int32 → Prop} {σ : gb_S} (hT : gb_TC σ) (hret : ∀ (r : Int32), gb_iv (-2147483648) 2147483647 r → Q σ r) : ∀ (mm : Nat) (v0 : Nat) (v1 : Int32) (v2 : Int32) (v3 : Int32), gb_kB v0 = true → gb_iv (-2147483648) 2147483647 v1 → gb_iv (-2147483648) 2147483647 v2 → gb_iv 0 8 v3 → (8 - v3.toInt).toNat < mm → gb_tc (cs_Border_worthOf_B_4 n mm σ v0 v1 v2 v3) Q := by
  intro mm
  induction mm with
  | zero =>
    intro v0 v1 v2 v3 hv0 iv1 iv2 iv3 hm
    exact absurd hm (Nat.not_lt_zero _)
  | succ mm ih =>
    intro v0 v1 v2 v3 hv0 iv1 iv2 iv3 hm
    rw [cs_Border_worthOf_B_4]
    refine gc_kk hv0 ?_
    refine gc_cdP (ct_Border_geese_B hn hT hv0) (fun r_4 qr_4 h_313 => ?_)
    refine gc_if (fun c_314 => ?_) (fun c_314 => ?_)
    · exact gc_some (hret _ (gb_it _))
    · have j_315 : gb_iv 0 7 v3 := (gb_rU (lo := 0) (hi := 7) (gb_dnle c_314) iv3 h_313 (by decide))
      have j_316 : gb_iv 1 8 r_4 := (gb_rL (lo := 1) (hi := 8) (gb_dnle c_314) h_313 j_315 (by decide))
      refine gc_if (fun c_317 => ?_) (fun c_317 => ?_)
      · have j_318 : gb_iv 1 1 ((v1 >>> (v3 &&& 31)) &&& 1) := (gb_rL (lo := 1) (hi := 1) (gb_deq2 c_317) (gb_iandr (lo := 0) (hi := 1) (gb_iw (lo := 0) (hi := 1) (gb_ic (a := 1) (by decide)) (by decide)) (by decide)) (gb_ic (a := 1) (by decide)) (by decide))
        refine gc_cdP (ct_Border_worth_B hn hT hv0 j_315) (fun r_11 qr_11 h_319 => ?_)
        refine gc_lti (lo := (-2147483648)) (hi := 2147483647) (gb_it _) (fun x_14 ex_14 ix_14 => ?_)
        refine gc_lti (lo := 1) (hi := 8) (gb_iadd (lo := 1) (hi := 8) j_315 (gb_ic (a := 1) (by decide)) (by decide)) (fun x_15 ex_15 ix_15 => ?_)
        exact ih _ _ _ _ hv0 (gb_it _) (gb_it _) (gb_iw (lo := 0) (hi := 8) ix_15 (by decide)) (gb_mup ex_15 j_315 (by decide) hm)
      · have j_320 : gb_iv 0 0 ((v1 >>> (v3 &&& 31)) &&& 1) := (gb_rN (lo := 0) (hi := 0) (v := 1) c_317 (gb_iandr (lo := 0) (hi := 1) (gb_iw (lo := 0) (hi := 1) (gb_ic (a := 1) (by decide)) (by decide)) (by decide)) (by decide) (by decide))
        refine gc_lti (lo := 1) (hi := 8) (gb_iadd (lo := 1) (hi := 8) j_315 (gb_ic (a := 1) (by decide)) (by decide)) (fun x_9 ex_9 ix_9 => ?_)
        exact ih _ _ _ _ hv0 (gb_it _) (gb_it _) (gb_iw (lo := 0) (hi := 8) ix_9 (by decide)) (gb_mup ex_9 j_315 (by decide) hm)
set_option maxHeartbeats 4000000 in
theorem ct_Border_worthOf_B {n : Nat} (hn : gb_N ≤ n) {σ : gb_S} {k0 : Nat} {p1 : Int32} (hT : gb_TC σ) (hk0 : gb_kB k0 = true) : gb_tc (cs_Border_worthOf_B n σ k0 p1) (fun s r => s = σ ∧ gb_iv (-2147483648) 2147483647 r) := by
  unfold cs_Border_worthOf_B
  refine gc_kk hk0 ?_
  exact ct_Border_worthOf_B_4 hn hT (fun _ h => ⟨rfl, h⟩) n _ _ _ _ hk0 (gb_it _) (gb_iw (lo := (-2147483648)) (hi := 2147483647) (gb_ic (a := 0) (by decide)) (by decide)) (gb_iw (lo := 0) (hi := 8) (gb_ic (a := 0) (by decide)) (by decide)) (gb_fuu hn (gb_iw (lo := 0) (hi := 8) (gb_ic (a := 0) (by decide)) (by decide)) (by decide))
set_option maxHeartbeats 4000000 in
theorem ct_Border_marksOver_B_20 {n : Nat} (hn : gb_N ≤ n) {Q : gb_S → Int32 → Prop} {σ : gb_S} (hT : gb_TC σ) (hret : ∀ (r : Int32), gb_iv (-2147483648) 2147483647 r → Q σ r) : ∀ (v0 : Nat) (v1 : Int32) (v2 : Int32) (v5 : Int32) (t0 : Int32), gb_kB v0 = true → gb_iv 0 7 v1 → gb_iv (-2147483648) 2147483647 v2 → gb_iv (-2147483648) 2147483647 v5 → gb_iv (-2147483648) 2147483647 t0 → gb_tc (cs_Border_marksOver_B_20 n σ v0 v1 v2 v5 t0) Q := by
  intro v0 v1 v2 v5 t0 hv0 iv1 iv2 iv5 it0
  unfold cs_Border_marksOver_B_20
  refine gc_kk hv0 ?_
  refine gc_cdP (ct_Border_toes_B hn hT hv0 iv1) (fun r_6 qr_6 h_337 => ?_)
  refine gc_lti (lo := (-2147483648)) (hi := 2147483647) (gb_it _) (fun x_9 ex_9 ix_9 => ?_)
  refine gc_cdP (ct_Border_limps_B hn hT hv0 iv1) (fun r_11 qr_11 h_338 => ?_)
  refine gc_if (fun c_339 => ?_) (fun c_339 => ?_)
  · have j_340 : gb_iv 0 0 r_11 := (gb_rU (lo := 0) (hi := 0) (gb_deq c_339) h_338 (gb_ic (a := 0) (by decide)) (by decide))
    exact gc_some (hret _ (gb_it _))
  · have j_341 : gb_iv 1 1 r_11 := (gb_rN (lo := 1) (hi := 1) (v := 0) c_339 h_338 (by decide) (by decide))
    exact gc_some (hret _ (gb_it _))
set_option maxHeartbeats 4000000 in
theorem ct_Border_marksOver_B_20_i1 {n : Nat} (hn : gb_N ≤ n) {Q : gb_S → Int32 → Prop} {σ : gb_S} (hT : gb_TC σ) (hret : ∀ (r : Int32), gb_iv (-2147483648) 2147483647 r → Q σ r) : ∀ (v0 : Nat) (v1 : Int32) (v2 : Int32) (v5 : Int32) (t0 : Int32), gb_kB v0 = true → gb_iv 0 7 v1 → gb_iv (-2147483648) 2147483647 v2 → gb_iv (-2147483648) 2147483647 v5 → gb_iv 0 0 t0 → gb_tc (cs_Border_marksOver_B_20 n σ v0 v1 v2 v5 t0) Q := by
  intro v0 v1 v2 v5 t0 hv0 iv1 iv2 iv5 it0
  unfold cs_Border_marksOver_B_20
  refine gc_kk hv0 ?_
  refine gc_cdP (ct_Border_toes_B hn hT hv0 iv1) (fun r_6 qr_6 h_342 => ?_)
  refine gc_lti (lo := (-2147483648)) (hi := 2147483647) (gb_iadd (lo := (-2147483648)) (hi := 2147483647) it0 (gb_it _) (by decide)) (fun x_9 ex_9 ix_9 => ?_)
  refine gc_cdP (ct_Border_limps_B hn hT hv0 iv1) (fun r_11 qr_11 h_343 => ?_)
  refine gc_if (fun c_344 => ?_) (fun c_344 => ?_)
  · have j_345 : gb_iv 0 0 r_11 := (gb_rU (lo := 0) (hi := 0) (gb_deq c_344) h_343 (gb_ic (a := 0) (by decide)) (by decide))
    exact gc_some (hret _ (gb_it _))
  · have j_346 : gb_iv 1 1 r_11 := (gb_rN (lo := 1) (hi := 1) (v := 0) c_344 h_343 (by decide) (by decide))
    exact gc_some (hret _ (gb_it _))
set_option maxHeartbeats 4000000 in
theorem ct_Border_marksOver_B {n : Nat} (hn : gb_N ≤ n) {σ : gb_S} {k0 : Nat} {p1 : Int32} {p2 : Int32} {p3 : Int32} {p4 : Int32} (hT : gb_TC σ) (hk0 : gb_kB k0 = true) (ip1 : gb_iv 0 7 p1) : gb_tc (cs_Border_marksOver_B n σ k0 p1 p2 p3 p4) (fun s r => s = σ ∧ gb_iv (-2147483648) 2147483647 r) := by
  unfold cs_Border_marksOver_B
  refine gc_kk hk0 ?_
  refine gc_lti (lo := (-2147483648)) (hi := 2147483647) (gb_imin (lo := (-2147483648)) (hi := 2147483647) (gb_it _) (gb_it _) (by decide)) (fun x_2 ex_2 ix_2 => ?_)
  refine gc_if (fun c_334 => ?_) (fun c_334 => ?_)
  · have j_335 : gb_iv (-2147483648) 0 p4 := (gb_rU (lo := (-2147483648)) (hi := 0) (gb_deq c_334) (gb_it _) (gb_ic (a := 0) (by decide)) (by decide))
    have j_336 : gb_iv 0 0 p4 := (gb_rL (lo := 0) (hi := 0) (gb_deq2 c_334) j_335 (gb_ic (a := 0) (by decide)) (by decide))
    exact ct_Border_marksOver_B_20 hn hT (fun _ h => ⟨rfl, h⟩) _ _ _ _ _ hk0 ip1 (gb_it _) (gb_it _) (gb_it _)
  · exact ct_Border_marksOver_B_20_i1 hn hT (fun _ h => ⟨rfl, h⟩) _ _ _ _ _ hk0 ip1 (gb_it _) (gb_it _) (gb_ic (a := 0) (by decide))
set_option maxHeartbeats 4000000 in
theorem ct_Border_marksFirst_B {n : Nat} (hn : gb_N ≤ n) {σ : gb_S} {k0 : Nat} {p1 : Int32} {p2 : Int32} (hT : gb_TC σ) (hk0 : gb_kB k0 = true) (ip1 : gb_iv 0 7 p1) (ip2 : gb_iv 0 4 p2) : gb_tc (cs_Border_marksFirst_B n σ k0 p1 p2) (fun s r => s = σ ∧ gb_iv (-2147483648) 2147483647 r) := by
  unfold cs_Border_marksFirst_B
  refine gc_kk hk0 ?_
  refine gc_cdP (ct_Border_miles_B hn hT hk0 ip2) (fun r_3 qr_3 h_350 => ?_)
  refine gc_cdP (ct_Border_boots_B hn hT hk0 ip1) (fun r_7 qr_7 h_351 => ?_)
  refine gc_cdP (ct_Border_marksOver_B hn hT hk0 ip1) (fun r_11 qr_11 h_352 => ?_)
  exact gc_some ⟨rfl, (gb_it _)⟩
set_option maxHeartbeats 4000000 in
theorem ct_Border_padded_B {n : Nat} (hn : gb_N ≤ n) {σ : gb_S} {k0 : Nat} {p1 : Int32} {p2 : Int32} (hT : gb_TC σ) (hk0 : gb_kB k0 = true) (ip1 : gb_iv 0 4 p1) : gb_tc (cs_Border_padded_B n σ k0 p1 p2) (fun s r => s = σ ∧ gb_iv (-2147483648) 2147483647 r) := by
  unfold cs_Border_padded_B
  refine gc_kk hk0 ?_
  refine gc_cdP (ct_Border_pad_B hn hT hk0 ip1) (fun r_3 qr_3 h_354 => ?_)
  refine gc_lti (lo := (-2147483648)) (hi := 2147483647) (gb_it _) (fun x_6 ex_6 ix_6 => ?_)
  exact gc_some ⟨rfl, (gb_it _)⟩
set_option maxHeartbeats 4000000 in
theorem ct_Border_payOf_B {n : Nat} (hn : gb_N ≤ n) {σ : gb_S} {k0 : Nat} {p1 : Int32} {p2 : Int32} (hT : gb_TC σ) (hk0 : gb_kB k0 = true) (ip1 : gb_iv 0 4 p1) : gb_tc (cs_Border_payOf_B n σ k0 p1 p2) (fun s r => s = σ ∧ gb_iv (-2147483648) 2147483647 r) := by
  unfold cs_Border_payOf_B
  refine gc_kk hk0 ?_
  refine gc_cdP (ct_Border_rate_B hn hT hk0 ip1) (fun r_3 qr_3 h_357 => ?_)
  refine gc_cdP (ct_Border_padded_B hn hT hk0 ip1) (fun r_7 qr_7 h_358 => ?_)
  exact gc_some ⟨rfl, (gb_it _)⟩
set_option maxHeartbeats 4000000 in
theorem ct_Border_barefoot_B_4 {n : Nat} (hn : gb_N ≤ n) {Q : gb_S → Int32 → Prop} {σ : gb_S} (hT : gb_TC σ) (hret : ∀ (r : Int32), gb_iv (-2147483648) 2147483647 r → Q σ r) : ∀ (mm : Nat) (v0 : Nat) (v1 : Int32) (v2 : Int32) (v3 : Int32), gb_kB v0 = true → gb_iv 0 4 v1 → gb_iv (-2147483648) 2147483647 v2 → gb_iv 0 8 v3 → (8 - v3.toInt).toNat < mm → gb_tc (cs_Border_barefoot_B_4 n mm σ v0 v1 v2 v3) Q := by
  intro mm
  induction mm with
  | zero =>
    intro v0 v1 v2 v3 hv0 iv1 iv2 iv3 hm
    exact absurd hm (Nat.not_lt_zero _)
  | succ mm ih =>
    intro v0 v1 v2 v3 hv0 iv1 iv2 iv3 hm
    rw [cs_Border_barefoot_B_4]
    refine gc_kk hv0 ?_
    refine gc_cdP (ct_Border_geese_B hn hT hv0) (fun r_4 qr_4 h_539 => ?_)
    refine gc_if (fun c_540 => ?_) (fun c_540 => ?_)
    · exact gc_some (hret _ (gb_it _))
    · have j_541 : gb_iv 0 7 v3 := (gb_rU (lo := 0) (hi := 7) (gb_dnle c_540) iv3 h_539 (by decide))
      have j_542 : gb_iv 1 8 r_4 := (gb_rL (lo := 1) (hi := 8) (gb_dnle c_540) h_539 j_541 (by decide))
      refine gc_cdP (ct_Border_miles_B hn hT hv0 iv1) (fun r_9 qr_9 h_543 => ?_)
      refine gc_cdP (ct_Border_marksOver_B hn hT hv0 j_541) (fun r_13 qr_13 h_544 => ?_)
      refine gc_lti (lo := (-2147483648)) (hi := 2147483647) (gb_it _) (fun x_16 ex_16 ix_16 => ?_)
      refine gc_lti (lo := 1) (hi := 8) (gb_iadd (lo := 1) (hi := 8) j_541 (gb_ic (a := 1) (by decide)) (by decide)) (fun x_17 ex_17 ix_17 => ?_)
      exact ih _ _ _ _ hv0 iv1 (gb_it _) (gb_iw (lo := 0) (hi := 8) ix_17 (by decide)) (gb_mup ex_17 j_541 (by decide) hm)
set_option maxHeartbeats 4000000 in
theorem ct_Border_barefoot_B {n : Nat} (hn : gb_N ≤ n) {σ : gb_S} {k0 : Nat} {p1 : Int32} (hT : gb_TC σ) (hk0 : gb_kB k0 = true) (ip1 : gb_iv 0 4 p1) : gb_tc (cs_Border_barefoot_B n σ k0 p1) (fun s r => s = σ ∧ gb_iv (-2147483648) 2147483647 r) := by
  unfold cs_Border_barefoot_B
  refine gc_kk hk0 ?_
  exact ct_Border_barefoot_B_4 hn hT (fun _ h => ⟨rfl, h⟩) n _ _ _ _ hk0 ip1 (gb_iw (lo := (-2147483648)) (hi := 2147483647) (gb_ic (a := 0) (by decide)) (by decide)) (gb_iw (lo := 0) (hi := 8) (gb_ic (a := 0) (by decide)) (by decide)) (gb_fuu hn (gb_iw (lo := 0) (hi := 8) (gb_ic (a := 0) (by decide)) (by decide)) (by decide))
set_option maxHeartbeats 4000000 in
theorem ct_Border_milesThatSpare_B_5 {n : Nat} (hn : gb_N ≤ n) {Q : gb_S → Int32 → Prop} {σ : gb_S} (hT : gb_TC σ) (hret : ∀ (r : Int32), gb_iv (-2147483648) 2147483647 r → Q σ r) : ∀ (mm : Nat) (v0 : Nat) (v1 : Int32) (v2 : Int32) (v3 : Int32) (v4 : Int32), gb_kB v0 = true → gb_iv 0 4 v1 → gb_iv (-2147483648) 2147483647 v2 → gb_iv (-2147483648) 2147483647 v3 → gb_iv 0 8 v4 → (8 - v4.toInt).toNat < mm → gb_tc (cs_Border_milesThatSpare_B_5 n mm σ v0 v1 v2 v3 v4) Q := by
  intro mm
  induction mm with
  | zero =>
    intro v0 v1 v2 v3 v4 hv0 iv1 iv2 iv3 iv4 hm
    exact absurd hm (Nat.not_lt_zero _)
  | succ mm ih =>
    intro v0 v1 v2 v3 v4 hv0 iv1 iv2 iv3 iv4 hm
    rw [cs_Border_milesThatSpare_B_5]
    refine gc_kk hv0 ?_
    refine gc_cdP (ct_Border_geese_B hn hT hv0) (fun r_4 qr_4 h_935 => ?_)
    refine gc_if (fun c_936 => ?_) (fun c_936 => ?_)
    · exact gc_some (hret _ (gb_it _))
    · have j_937 : gb_iv 0 7 v4 := (gb_rU (lo := 0) (hi := 7) (gb_dnle c_936) iv4 h_935 (by decide))
      have j_938 : gb_iv 1 8 r_4 := (gb_rL (lo := 1) (hi := 8) (gb_dnle c_936) h_935 j_937 (by decide))
      refine gc_cdP (ct_Border_toes_B hn hT hv0 j_937) (fun r_9 qr_9 h_939 => ?_)
      refine gc_cdP (ct_Border_limps_B hn hT hv0 j_937) (fun r_13 qr_13 h_940 => ?_)
      refine gc_if (fun c_941 => ?_) (fun c_941 => ?_)
      · have j_942 : gb_iv 0 0 r_13 := (gb_rU (lo := 0) (hi := 0) (gb_deq c_941) h_940 (gb_ic (a := 0) (by decide)) (by decide))
        refine gc_lti (lo := (-2147483648)) (hi := 2147483647) (gb_it _) (fun x_17 ex_17 ix_17 => ?_)
        refine gc_if (fun c_943 => ?_) (fun c_943 => ?_)
        · refine gc_cdP (ct_Border_miles_B hn hT hv0 iv1) (fun r_21 qr_21 h_944 => ?_)
          refine gc_lti (lo := (-2147483648)) (hi := 2147483647) (gb_it _) (fun x_24 ex_24 ix_24 => ?_)
          refine gc_lti (lo := 1) (hi := 8) (gb_iadd (lo := 1) (hi := 8) j_937 (gb_ic (a := 1) (by decide)) (by decide)) (fun x_25 ex_25 ix_25 => ?_)
          exact ih _ _ _ _ _ hv0 iv1 (gb_it _) (gb_it _) (gb_iw (lo := 0) (hi := 8) ix_25 (by decide)) (gb_mup ex_25 j_937 (by decide) hm)
        · refine gc_lti (lo := 1) (hi := 8) (gb_iadd (lo := 1) (hi := 8) j_937 (gb_ic (a := 1) (by decide)) (by decide)) (fun x_19 ex_19 ix_19 => ?_)
          exact ih _ _ _ _ _ hv0 iv1 (gb_it _) (gb_it _) (gb_iw (lo := 0) (hi := 8) ix_19 (by decide)) (gb_mup ex_19 j_937 (by decide) hm)
      · have j_945 : gb_iv 1 1 r_13 := (gb_rN (lo := 1) (hi := 1) (v := 0) c_941 h_940 (by decide) (by decide))
        refine gc_lti (lo := (-2147483648)) (hi := 2147483647) (gb_it _) (fun x_26 ex_26 ix_26 => ?_)
        refine gc_if (fun c_946 => ?_) (fun c_946 => ?_)
        · refine gc_cdP (ct_Border_miles_B hn hT hv0 iv1) (fun r_30 qr_30 h_947 => ?_)
          refine gc_lti (lo := (-2147483648)) (hi := 2147483647) (gb_it _) (fun x_33 ex_33 ix_33 => ?_)
          refine gc_lti (lo := 1) (hi := 8) (gb_iadd (lo := 1) (hi := 8) j_937 (gb_ic (a := 1) (by decide)) (by decide)) (fun x_34 ex_34 ix_34 => ?_)
          exact ih _ _ _ _ _ hv0 iv1 (gb_it _) (gb_it _) (gb_iw (lo := 0) (hi := 8) ix_34 (by decide)) (gb_mup ex_34 j_937 (by decide) hm)
        · refine gc_lti (lo := 1) (hi := 8) (gb_iadd (lo := 1) (hi := 8) j_937 (gb_ic (a := 1) (by decide)) (by decide)) (fun x_28 ex_28 ix_28 => ?_)
          exact ih _ _ _ _ _ hv0 iv1 (gb_it _) (gb_it _) (gb_iw (lo := 0) (hi := 8) ix_28 (by decide)) (gb_mup ex_28 j_937 (by decide) hm)
set_option maxHeartbeats 4000000 in
theorem ct_Border_milesThatSpare_B {n : Nat} (hn : gb_N ≤ n) {σ : gb_S} {k0 : Nat} {p1 : Int32} {p2 : Int32} (hT : gb_TC σ) (hk0 : gb_kB k0 = true) (ip1 : gb_iv 0 4 p1) : gb_tc (cs_Border_milesThatSpare_B n σ k0 p1 p2) (fun s r => s = σ ∧ gb_iv (-2147483648) 2147483647 r) := by
  unfold cs_Border_milesThatSpare_B
  refine gc_kk hk0 ?_
  exact ct_Border_milesThatSpare_B_5 hn hT (fun _ h => ⟨rfl, h⟩) n _ _ _ _ _ hk0 ip1 (gb_it _) (gb_iw (lo := (-2147483648)) (hi := 2147483647) (gb_ic (a := 0) (by decide)) (by decide)) (gb_iw (lo := 0) (hi := 8) (gb_ic (a := 0) (by decide)) (by decide)) (gb_fuu hn (gb_iw (lo := 0) (hi := 8) (gb_ic (a := 0) (by decide)) (by decide)) (by decide))
set_option maxHeartbeats 4000000 in
theorem ct_Face_end {n : Nat} (hn : gb_N ≤ n) {σ : gb_S} {p1 : Int32} (hT : gb_TC σ) : gb_tc (cs_Face_end n σ p1) (fun s r => gb_TC s ∧ gb_iv (-1) 600 r) := by
  unfold cs_Face_end
  refine gc_if (fun c_959 => ?_) (fun c_959 => ?_)
  · have j_960 : gb_iv (-2147483648) (-1) p1 := (gb_rU (lo := (-2147483648)) (hi := (-1)) (gb_dlt c_959) (gb_it _) (gb_ic (a := 0) (by decide)) (by decide))
    exact gc_some ⟨hT, (gb_iw (lo := (-1)) (hi := 600) (gb_ic (a := (-1)) (by decide)) (by decide))⟩
  · have j_961 : gb_iv 0 2147483647 p1 := (gb_rL (lo := 0) (hi := 2147483647) (gb_dnlt c_959) (gb_it _) (gb_ic (a := 0) (by decide)) (by decide))
    refine gc_if (fun c_962 => ?_) (fun c_962 => ?_)
    · have j_963 : gb_iv 0 600 p1 := (gb_rU (lo := 0) (hi := 600) (gb_dle c_962) j_961 (gc_rd (c := 7) (lo := 0) (hi := 600) hT (rfl : gc_cat 1 = 7) (by decide)) (by decide))
      refine gc_ltT (gc_su (c := 7) (lo := 0) (hi := 600) hT (rfl : gc_cat 1 = 7) j_963 (by decide)) (fun s_3 es_3 hTs_3 => ?_)
      exact gc_some ⟨hTs_3, (gb_iw (lo := (-1)) (hi := 600) j_963 (by decide))⟩
    · have j_964 : gb_iv 1 2147483647 p1 := (gb_rL (lo := 1) (hi := 2147483647) (gb_dnle c_962) j_961 (gc_rd (c := 7) (lo := 0) (hi := 600) hT (rfl : gc_cat 1 = 7) (by decide)) (by decide))
      exact gc_some ⟨hT, (gb_iw (lo := (-1)) (hi := 600) (gb_ic (a := (-1)) (by decide)) (by decide))⟩
set_option maxHeartbeats 4000000 in
theorem ct_Lines_size_D {n : Nat} (hn : gb_N ≤ n) {σ : gb_S} {k0 : Nat} (hT : gb_TC σ) (hk0 : gb_kD k0 = true) : gb_tc (cs_Lines_size_D n σ k0) (fun s r => s = σ ∧ gb_iv 0 5 r) := by
  unfold cs_Lines_size_D
  refine gc_kk hk0 ?_
  refine gc_lti (lo := 0) (hi := 5) (gc_rd (c := 4) (lo := 0) (hi := 5) hT (gc_catD hk0) (by decide)) (fun x_2 ex_2 ix_2 => ?_)
  exact gc_some ⟨rfl, ix_2⟩
set_option maxHeartbeats 4000000 in
theorem ct_Lines_cell_D {n : Nat} (hn : gb_N ≤ n) {σ : gb_S} {k0 : Nat} {p1 : Int32} {p2 : Int32} (hT : gb_TC σ) (hk0 : gb_kD k0 = true) (ip1 : gb_iv 0 4 p1) (ip2 : gb_iv 0 2 p2) : gb_tc (cs_Lines_cell_D n σ k0 p1 p2) (fun s r => s = σ ∧ gb_iv (-2147483648) 2147483647 r) := by
  unfold cs_Lines_cell_D
  refine gc_kk hk0 ?_
  refine gc_ck (gb_iadd (lo := 1) (hi := 15) (gb_iadd (lo := 1) (hi := 13) (gb_ic (a := 1) (by decide)) (gb_imul (lo := 0) (hi := 12) ip1 (gb_iadd (lo := 3) (hi := 3) (gb_ic (a := 2) (by decide)) (gb_ic (a := 1) (by decide)) (by decide)) (by decide)) (by decide)) ip2 (by decide)) (by decide) ?_
  refine gc_lti (lo := (-2147483648)) (hi := 2147483647) (gb_it _) (fun x_3 ex_3 ix_3 => ?_)
  exact gc_some ⟨rfl, (gb_it _)⟩
set_option maxHeartbeats 4000000 in
theorem ct_Dawn_pathSeen_D {n : Nat} (hn : gb_N ≤ n) {σ : gb_S} {k0 : Nat} {p1 : Int32} (hT : gb_TC σ) (hk0 : gb_kD k0 = true) (ip1 : gb_iv 0 4 p1) : gb_tc (cs_Dawn_pathSeen_D n σ k0 p1) (fun s r => s = σ ∧ gb_iv (-2147483648) 2147483647 r) := by
  unfold cs_Dawn_pathSeen_D
  refine gc_kk hk0 ?_
  refine gc_cdP (ct_Lines_cell_D hn hT hk0 ip1 (gb_iw (lo := 0) (hi := 2) (gb_ic (a := 1) (by decide)) (by decide))) (fun r_3 qr_3 h_966 => ?_)
  exact gc_some ⟨rfl, (gb_it _)⟩
set_option maxHeartbeats 4000000 in
theorem ct_Face_fault {n : Nat} (hn : gb_N ≤ n) {σ : gb_S} {p1 : Int32} (hT : gb_TC σ) : gb_tc (cs_Face_fault n σ p1) (fun s r => s = σ ∧ gb_iv (-2147483648) 2147483647 r) := by
  unfold cs_Face_fault
  refine gc_if (fun c_973 => ?_) (fun c_973 => ?_)
  · have j_974 : gb_iv (-2147483648) 0 p1 := (gb_rU (lo := (-2147483648)) (hi := 0) (gb_deq c_973) (gb_it _) (gb_ic (a := 0) (by decide)) (by decide))
    have j_975 : gb_iv 0 0 p1 := (gb_rL (lo := 0) (hi := 0) (gb_deq2 c_973) j_974 (gb_ic (a := 0) (by decide)) (by decide))
    exact gc_some ⟨rfl, (gb_it _)⟩
  · refine gc_if (fun c_976 => ?_) (fun c_976 => ?_)
    · have j_977 : gb_iv (-2147483648) 1 p1 := (gb_rU (lo := (-2147483648)) (hi := 1) (gb_deq c_976) (gb_it _) (gb_ic (a := 1) (by decide)) (by decide))
      have j_978 : gb_iv 1 1 p1 := (gb_rL (lo := 1) (hi := 1) (gb_deq2 c_976) j_977 (gb_ic (a := 1) (by decide)) (by decide))
      exact gc_some ⟨rfl, (gb_it _)⟩
    · exact gc_some ⟨rfl, (gb_iw (lo := (-2147483648)) (hi := 2147483647) (gb_ic (a := (-1)) (by decide)) (by decide))⟩
set_option maxHeartbeats 4000000 in
theorem ct_Face_count {n : Nat} (hn : gb_N ≤ n) {σ : gb_S} {p1 : Int32} (hT : gb_TC σ) : gb_tc (cs_Face_count n σ p1) (fun s r => s = σ ∧ gb_iv (-2) 2 r) := by
  unfold cs_Face_count
  refine gc_if (fun c_985 => ?_) (fun c_985 => ?_)
  · have j_986 : gb_iv (-2147483648) (-1) p1 := (gb_rU (lo := (-2147483648)) (hi := (-1)) (gb_dlt c_985) (gb_it _) (gb_ic (a := 0) (by decide)) (by decide))
    exact gc_some ⟨rfl, (gb_iw (lo := (-2)) (hi := 2) (gb_ic (a := (-2)) (by decide)) (by decide))⟩
  · have j_987 : gb_iv 0 2147483647 p1 := (gb_rL (lo := 0) (hi := 2147483647) (gb_dnlt c_985) (gb_it _) (gb_ic (a := 0) (by decide)) (by decide))
    refine gc_if (fun c_988 => ?_) (fun c_988 => ?_)
    · have j_989 : gb_iv 4 2147483647 p1 := (gb_rL (lo := 4) (hi := 2147483647) (gb_dle c_988) j_987 (gb_ic (a := 4) (by decide)) (by decide))
      exact gc_some ⟨rfl, (gb_iw (lo := (-2)) (hi := 2) (gb_ic (a := (-2)) (by decide)) (by decide))⟩
    · have j_990 : gb_iv 0 3 p1 := (gb_rU (lo := 0) (hi := 3) (gb_dnle c_988) j_987 (gb_ic (a := 4) (by decide)) (by decide))
      refine gc_ck j_990 (by decide) ?_
      refine gc_lti (lo := 0) (hi := 2) (gc_rd (c := 5) (lo := 0) (hi := 2) hT (rfl : gc_cat 22 = 5) ⟨Int.le_refl _, Int.le_refl _⟩) (fun x_4 ex_4 ix_4 => ?_)
      exact gc_some ⟨rfl, (gb_iw (lo := (-2)) (hi := 2) ix_4 (by decide))⟩
set_option maxHeartbeats 4000000 in
theorem ct_Face_borderAt {n : Nat} (hn : gb_N ≤ n) {σ : gb_S} {p1 : Int32} (hT : gb_TC σ) : gb_tc (cs_Face_borderAt n σ p1) (fun s r => s = σ ∧ (r = 0 ∨ gb_kB r = true)) := by
  unfold cs_Face_borderAt
  refine gc_if (fun c_998 => ?_) (fun c_998 => ?_)
  · have j_999 : gb_iv (-2147483648) (-1) p1 := (gb_rU (lo := (-2147483648)) (hi := (-1)) (gb_dlt c_998) (gb_it _) (gb_ic (a := 0) (by decide)) (by decide))
    exact gc_some ⟨rfl, (Or.inl rfl)⟩
  · have j_1000 : gb_iv 0 2147483647 p1 := (gb_rL (lo := 0) (hi := 2147483647) (gb_dnlt c_998) (gb_it _) (gb_ic (a := 0) (by decide)) (by decide))
    refine gc_lti (lo := 0) (hi := 2) (gc_rd (c := 5) (lo := 0) (hi := 2) hT (rfl : gc_cat 22 = 5) (by decide)) (fun x_2 ex_2 ix_2 => ?_)
    refine gc_if (fun c_1001 => ?_) (fun c_1001 => ?_)
    · exact gc_some ⟨rfl, (Or.inl rfl)⟩
    · have j_1002 : gb_iv 0 1 p1 := (gb_rU (lo := 0) (hi := 1) (gb_dnle c_1001) j_1000 ix_2 (by decide))
      have j_1003 : gb_iv 1 2 x_2 := (gb_rL (lo := 1) (hi := 2) (gb_dnle c_1001) ix_2 j_1002 (by decide))
      refine gc_ck j_1002 (by decide) ?_
      refine gc_lt (fun a_5 ea_5 => ?_)
      have k_1004 : gb_kB a_5 = true := by rw [ea_5]; exact gc_gB j_1002
      refine gc_kk k_1004 ?_
      exact gc_some ⟨rfl, (Or.inr k_1004)⟩
set_option maxHeartbeats 4000000 in
theorem ct_Face_border {n : Nat} (hn : gb_N ≤ n) {σ : gb_S} {p1 : Int32} {p2 : Int32} (hT : gb_TC σ) : gb_tc (cs_Face_border n σ p1 p2) (fun s r => s = σ ∧ gb_iv (-2147483648) 2147483647 r) := by
  unfold cs_Face_border
  refine gc_cdP (ct_Face_borderAt hn hT) (fun r_2 qr_2 h_1020 => ?_)
  refine gc_if (fun c_1021 => ?_) (fun c_1021 => ?_)
  · exact gc_some ⟨rfl, (gb_iw (lo := (-2147483648)) (hi := 2147483647) (gb_ic (a := (-2)) (by decide)) (by decide))⟩
  · refine gc_kk (Or.resolve_left h_1020 c_1021) ?_
    refine gc_if (fun c_1022 => ?_) (fun c_1022 => ?_)
    · have j_1023 : gb_iv (-2147483648) 0 p2 := (gb_rU (lo := (-2147483648)) (hi := 0) (gb_deq c_1022) (gb_it _) (gb_ic (a := 0) (by decide)) (by decide))
      have j_1024 : gb_iv 0 0 p2 := (gb_rL (lo := 0) (hi := 0) (gb_deq2 c_1022) j_1023 (gb_ic (a := 0) (by decide)) (by decide))
      refine gc_cdP (ct_Border_paths_B hn hT (Or.resolve_left h_1020 c_1021)) (fun r_9 qr_9 h_1025 => ?_)
      exact gc_some ⟨rfl, (gb_iw (lo := (-2147483648)) (hi := 2147483647) h_1025 (by decide))⟩
    · refine gc_if (fun c_1026 => ?_) (fun c_1026 => ?_)
      · have j_1027 : gb_iv (-2147483648) 1 p2 := (gb_rU (lo := (-2147483648)) (hi := 1) (gb_deq c_1026) (gb_it _) (gb_ic (a := 1) (by decide)) (by decide))
        have j_1028 : gb_iv 1 1 p2 := (gb_rL (lo := 1) (hi := 1) (gb_deq2 c_1026) j_1027 (gb_ic (a := 1) (by decide)) (by decide))
        refine gc_cdP (ct_Border_geese_B hn hT (Or.resolve_left h_1020 c_1021)) (fun r_14 qr_14 h_1029 => ?_)
        exact gc_some ⟨rfl, (gb_iw (lo := (-2147483648)) (hi := 2147483647) h_1029 (by decide))⟩
      · refine gc_if (fun c_1030 => ?_) (fun c_1030 => ?_)
        · have j_1031 : gb_iv (-2147483648) 2 p2 := (gb_rU (lo := (-2147483648)) (hi := 2) (gb_deq c_1030) (gb_it _) (gb_ic (a := 2) (by decide)) (by decide))
          have j_1032 : gb_iv 2 2 p2 := (gb_rL (lo := 2) (hi := 2) (gb_deq2 c_1030) j_1031 (gb_ic (a := 2) (by decide)) (by decide))
          refine gc_cdP (ct_Border_cap_B hn hT (Or.resolve_left h_1020 c_1021)) (fun r_19 qr_19 h_1033 => ?_)
          exact gc_some ⟨rfl, (gb_it _)⟩
        · refine gc_cdP (ct_Border_numberTold_B hn hT (Or.resolve_left h_1020 c_1021)) (fun r_23 qr_23 h_1034 => ?_)
          exact gc_some ⟨rfl, (gb_it _)⟩
set_option maxHeartbeats 4000000 in
theorem ct_Face_marks {n : Nat} (hn : gb_N ≤ n) {σ : gb_S} {p1 : Int32} {p2 : Int32} {p3 : Int32} {p4 : Int32} (hT : gb_TC σ) : gb_tc (cs_Face_marks n σ p1 p2 p3 p4) (fun s r => s = σ ∧ gb_iv (-2147483648) 2147483647 r) := by
  unfold cs_Face_marks
  refine gc_cdP (ct_Face_borderAt hn hT) (fun r_2 qr_2 h_1050 => ?_)
  refine gc_if (fun c_1051 => ?_) (fun c_1051 => ?_)
  · exact gc_some ⟨rfl, (gb_iw (lo := (-2147483648)) (hi := 2147483647) (gb_ic (a := (-1)) (by decide)) (by decide))⟩
  · refine gc_kk (Or.resolve_left h_1050 c_1051) ?_
    refine gc_cdP (ct_Border_hasGoose_B hn hT (Or.resolve_left h_1050 c_1051)) (fun r_8 qr_8 h_1052 => ?_)
    refine gc_if (fun c_1053 => ?_) (fun c_1053 => ?_)
    · have j_1054 : gb_iv 0 0 r_8 := (gb_rU (lo := 0) (hi := 0) (gb_deq c_1053) h_1052.1 (gb_ic (a := 0) (by decide)) (by decide))
      exact gc_some ⟨rfl, (gb_iw (lo := (-2147483648)) (hi := 2147483647) (gb_ic (a := (-1)) (by decide)) (by decide))⟩
    · have j_1055 : gb_iv 1 1 r_8 := (gb_rN (lo := 1) (hi := 1) (v := 0) c_1053 h_1052.1 (by decide) (by decide))
      have j_1056 : gb_iv 0 7 p2 := (h_1052.2 c_1053)
      refine gc_cdP (ct_Border_hasPath_B hn hT (Or.resolve_left h_1050 c_1051)) (fun r_13 qr_13 h_1057 => ?_)
      refine gc_if (fun c_1058 => ?_) (fun c_1058 => ?_)
      · have j_1059 : gb_iv 0 0 r_13 := (gb_rU (lo := 0) (hi := 0) (gb_deq c_1058) h_1057.1 (gb_ic (a := 0) (by decide)) (by decide))
        exact gc_some ⟨rfl, (gb_iw (lo := (-2147483648)) (hi := 2147483647) (gb_ic (a := (-1)) (by decide)) (by decide))⟩
      · have j_1060 : gb_iv 1 1 r_13 := (gb_rN (lo := 1) (hi := 1) (v := 0) c_1058 h_1057.1 (by decide) (by decide))
        have j_1061 : gb_iv 0 4 p3 := (h_1057.2 c_1058)
        refine gc_cdP (ct_Border_miles_B hn hT (Or.resolve_left h_1050 c_1051) j_1061) (fun r_18 qr_18 h_1062 => ?_)
        refine gc_cdP (ct_Border_boots_B hn hT (Or.resolve_left h_1050 c_1051) j_1056) (fun r_22 qr_22 h_1063 => ?_)
        refine gc_cdP (ct_Border_marksOver_B hn hT (Or.resolve_left h_1050 c_1051) j_1056) (fun r_26 qr_26 h_1064 => ?_)
        exact gc_some ⟨rfl, (gb_it _)⟩
set_option maxHeartbeats 4000000 in
theorem ct_Face_nightAt {n : Nat} (hn : gb_N ≤ n) {σ : gb_S} {p1 : Int32} (hT : gb_TC σ) : gb_tc (cs_Face_nightAt n σ p1) (fun s r => s = σ ∧ (r = 0 ∨ gb_kN r = true)) := by
  unfold cs_Face_nightAt
  refine gc_if (fun c_1072 => ?_) (fun c_1072 => ?_)
  · have j_1073 : gb_iv (-2147483648) (-1) p1 := (gb_rU (lo := (-2147483648)) (hi := (-1)) (gb_dlt c_1072) (gb_it _) (gb_ic (a := 0) (by decide)) (by decide))
    exact gc_some ⟨rfl, (Or.inl rfl)⟩
  · have j_1074 : gb_iv 0 2147483647 p1 := (gb_rL (lo := 0) (hi := 2147483647) (gb_dnlt c_1072) (gb_it _) (gb_ic (a := 0) (by decide)) (by decide))
    refine gc_lti (lo := 0) (hi := 2) (gc_rd (c := 5) (lo := 0) (hi := 2) hT (rfl : gc_cat 22 = 5) (by decide)) (fun x_2 ex_2 ix_2 => ?_)
    refine gc_if (fun c_1075 => ?_) (fun c_1075 => ?_)
    · exact gc_some ⟨rfl, (Or.inl rfl)⟩
    · have j_1076 : gb_iv 0 1 p1 := (gb_rU (lo := 0) (hi := 1) (gb_dnle c_1075) j_1074 ix_2 (by decide))
      have j_1077 : gb_iv 1 2 x_2 := (gb_rL (lo := 1) (hi := 2) (gb_dnle c_1075) ix_2 j_1076 (by decide))
      refine gc_ck j_1076 (by decide) ?_
      refine gc_lt (fun a_5 ea_5 => ?_)
      have k_1078 : gb_kN a_5 = true := by rw [ea_5]; exact gc_gN j_1076
      refine gc_kk k_1078 ?_
      exact gc_some ⟨rfl, (Or.inr k_1078)⟩
set_option maxHeartbeats 4000000 in
theorem ct_Lines_size_N {n : Nat} (hn : gb_N ≤ n) {σ : gb_S} {k0 : Nat} (hT : gb_TC σ) (hk0 : gb_kN k0 = true) : gb_tc (cs_Lines_size_N n σ k0) (fun s r => s = σ ∧ gb_iv 0 24 r) := by
  unfold cs_Lines_size_N
  refine gc_kk hk0 ?_
  refine gc_lti (lo := 0) (hi := 24) (gc_rd (c := 2) (lo := 0) (hi := 24) hT (gc_catN hk0) (by decide)) (fun x_2 ex_2 ix_2 => ?_)
  exact gc_some ⟨rfl, ix_2⟩
set_option maxHeartbeats 4000000 in
theorem ct_Lines_cell_N {n : Nat} (hn : gb_N ≤ n) {σ : gb_S} {k0 : Nat} {p1 : Int32} {p2 : Int32} (hT : gb_TC σ) (hk0 : gb_kN k0 = true) (ip1 : gb_iv 0 23 p1) (ip2 : gb_iv 0 3 p2) : gb_tc (cs_Lines_cell_N n σ k0 p1 p2) (fun s r => s = σ ∧ gb_iv (-2147483648) 2147483647 r) := by
  unfold cs_Lines_cell_N
  refine gc_kk hk0 ?_
  refine gc_ck (gb_iadd (lo := 1) (hi := 96) (gb_iadd (lo := 1) (hi := 93) (gb_ic (a := 1) (by decide)) (gb_imul (lo := 0) (hi := 92) ip1 (gb_iadd (lo := 4) (hi := 4) (gb_ic (a := 3) (by decide)) (gb_ic (a := 1) (by decide)) (by decide)) (by decide)) (by decide)) ip2 (by decide)) (by decide) ?_
  refine gc_lti (lo := (-2147483648)) (hi := 2147483647) (gb_it _) (fun x_3 ex_3 ix_3 => ?_)
  exact gc_some ⟨rfl, (gb_it _)⟩
set_option maxHeartbeats 4000000 in
theorem ct_Face_lineOf_N {n : Nat} (hn : gb_N ≤ n) {σ : gb_S} {p1 : Nat} {p2 : Int32} {p3 : Int32} (hT : gb_TC σ) (hp1 : gb_kN p1 = true) : gb_tc (cs_Face_lineOf_N n σ p1 p2 p3) (fun s r => s = σ ∧ gb_iv (-2147483648) 2147483647 r) := by
  unfold cs_Face_lineOf_N
  refine gc_kk hp1 ?_
  refine gc_if (fun c_1100 => ?_) (fun c_1100 => ?_)
  · have j_1101 : gb_iv (-2147483648) (-1) p2 := (gb_rU (lo := (-2147483648)) (hi := (-1)) (gb_deq c_1100) (gb_it _) (gb_ic (a := (-1)) (by decide)) (by decide))
    have j_1102 : gb_iv (-1) (-1) p2 := (gb_rL (lo := (-1)) (hi := (-1)) (gb_deq2 c_1100) j_1101 (gb_ic (a := (-1)) (by decide)) (by decide))
    refine gc_if (fun c_1103 => ?_) (fun c_1103 => ?_)
    · have j_1104 : gb_iv (-2147483648) 0 p3 := (gb_rU (lo := (-2147483648)) (hi := 0) (gb_deq c_1103) (gb_it _) (gb_ic (a := 0) (by decide)) (by decide))
      have j_1105 : gb_iv 0 0 p3 := (gb_rL (lo := 0) (hi := 0) (gb_deq2 c_1103) j_1104 (gb_ic (a := 0) (by decide)) (by decide))
      refine gc_cdP (ct_Lines_size_N hn hT hp1) (fun r_17 qr_17 h_1106 => ?_)
      exact gc_some ⟨rfl, (gb_iw (lo := (-2147483648)) (hi := 2147483647) h_1106 (by decide))⟩
    · exact gc_some ⟨rfl, (gb_iw (lo := (-2147483648)) (hi := 2147483647) (gb_ic (a := (-2)) (by decide)) (by decide))⟩
  · refine gc_if (fun c_1107 => ?_) (fun c_1107 => ?_)
    · have j_1108 : gb_iv (-2147483648) (-1) p2 := (gb_rU (lo := (-2147483648)) (hi := (-1)) (gb_dlt c_1107) (gb_it _) (gb_ic (a := 0) (by decide)) (by decide))
      exact gc_some ⟨rfl, (gb_iw (lo := (-2147483648)) (hi := 2147483647) (gb_ic (a := (-2)) (by decide)) (by decide))⟩
    · have j_1109 : gb_iv 0 2147483647 p2 := (gb_rL (lo := 0) (hi := 2147483647) (gb_dnlt c_1107) (gb_it _) (gb_ic (a := 0) (by decide)) (by decide))
      refine gc_cdP (ct_Lines_size_N hn hT hp1) (fun r_5 qr_5 h_1110 => ?_)
      refine gc_if (fun c_1111 => ?_) (fun c_1111 => ?_)
      · exact gc_some ⟨rfl, (gb_iw (lo := (-2147483648)) (hi := 2147483647) (gb_ic (a := (-2)) (by decide)) (by decide))⟩
      · have j_1112 : gb_iv 0 23 p2 := (gb_rU (lo := 0) (hi := 23) (gb_dnle c_1111) j_1109 h_1110 (by decide))
        have j_1113 : gb_iv 1 24 r_5 := (gb_rL (lo := 1) (hi := 24) (gb_dnle c_1111) h_1110 j_1112 (by decide))
        refine gc_if (fun c_1114 => ?_) (fun c_1114 => ?_)
        · have j_1115 : gb_iv (-2147483648) (-1) p3 := (gb_rU (lo := (-2147483648)) (hi := (-1)) (gb_dlt c_1114) (gb_it _) (gb_ic (a := 0) (by decide)) (by decide))
          exact gc_some ⟨rfl, (gb_iw (lo := (-2147483648)) (hi := 2147483647) (gb_ic (a := (-2)) (by decide)) (by decide))⟩
        · have j_1116 : gb_iv 0 2147483647 p3 := (gb_rL (lo := 0) (hi := 2147483647) (gb_dnlt c_1114) (gb_it _) (gb_ic (a := 0) (by decide)) (by decide))
          refine gc_if (fun c_1117 => ?_) (fun c_1117 => ?_)
          · have j_1118 : gb_iv 0 3 p3 := (gb_rU (lo := 0) (hi := 3) (gb_dle c_1117) j_1116 (gb_ic (a := 3) (by decide)) (by decide))
            refine gc_cdP (ct_Lines_cell_N hn hT hp1 j_1112 j_1118) (fun r_12 qr_12 h_1119 => ?_)
            exact gc_some ⟨rfl, (gb_it _)⟩
          · have j_1120 : gb_iv 4 2147483647 p3 := (gb_rL (lo := 4) (hi := 2147483647) (gb_dnle c_1117) j_1116 (gb_ic (a := 3) (by decide)) (by decide))
            exact gc_some ⟨rfl, (gb_iw (lo := (-2147483648)) (hi := 2147483647) (gb_ic (a := (-2)) (by decide)) (by decide))⟩
set_option maxHeartbeats 4000000 in
theorem ct_Face_deed {n : Nat} (hn : gb_N ≤ n) {σ : gb_S} {p1 : Int32} {p2 : Int32} {p3 : Int32} (hT : gb_TC σ) : gb_tc (cs_Face_deed n σ p1 p2 p3) (fun s r => s = σ ∧ gb_iv (-2147483648) 2147483647 r) := by
  unfold cs_Face_deed
  refine gc_cdP (ct_Face_nightAt hn hT) (fun r_2 qr_2 h_1124 => ?_)
  refine gc_if (fun c_1125 => ?_) (fun c_1125 => ?_)
  · exact gc_some ⟨rfl, (gb_iw (lo := (-2147483648)) (hi := 2147483647) (gb_ic (a := (-2)) (by decide)) (by decide))⟩
  · refine gc_kk (Or.resolve_left h_1124 c_1125) ?_
    refine gc_cdP (ct_Face_lineOf_N hn hT (Or.resolve_left h_1124 c_1125)) (fun r_8 qr_8 h_1126 => ?_)
    exact gc_some ⟨rfl, (gb_it _)⟩
set_option maxHeartbeats 4000000 in
theorem ct_Face_lawAt {n : Nat} (hn : gb_N ≤ n) {σ : gb_S} {p1 : Int32} (hT : gb_TC σ) : gb_tc (cs_Face_lawAt n σ p1) (fun s r => s = σ ∧ (r = 0 ∨ gb_kL r = true)) := by
  unfold cs_Face_lawAt
  refine gc_if (fun c_1134 => ?_) (fun c_1134 => ?_)
  · have j_1135 : gb_iv (-2147483648) (-1) p1 := (gb_rU (lo := (-2147483648)) (hi := (-1)) (gb_dlt c_1134) (gb_it _) (gb_ic (a := 0) (by decide)) (by decide))
    exact gc_some ⟨rfl, (Or.inl rfl)⟩
  · have j_1136 : gb_iv 0 2147483647 p1 := (gb_rL (lo := 0) (hi := 2147483647) (gb_dnlt c_1134) (gb_it _) (gb_ic (a := 0) (by decide)) (by decide))
    refine gc_lti (lo := 0) (hi := 2) (gc_rd (c := 5) (lo := 0) (hi := 2) hT (rfl : gc_cat 22 = 5) (by decide)) (fun x_2 ex_2 ix_2 => ?_)
    refine gc_if (fun c_1137 => ?_) (fun c_1137 => ?_)
    · exact gc_some ⟨rfl, (Or.inl rfl)⟩
    · have j_1138 : gb_iv 0 1 p1 := (gb_rU (lo := 0) (hi := 1) (gb_dnle c_1137) j_1136 ix_2 (by decide))
      have j_1139 : gb_iv 1 2 x_2 := (gb_rL (lo := 1) (hi := 2) (gb_dnle c_1137) ix_2 j_1138 (by decide))
      refine gc_ck j_1138 (by decide) ?_
      refine gc_lt (fun a_5 ea_5 => ?_)
      have k_1140 : gb_kL a_5 = true := by rw [ea_5]; exact gc_gL j_1138
      refine gc_kk k_1140 ?_
      exact gc_some ⟨rfl, (Or.inr k_1140)⟩
set_option maxHeartbeats 4000000 in
theorem ct_Lines_size_L {n : Nat} (hn : gb_N ≤ n) {σ : gb_S} {k0 : Nat} (hT : gb_TC σ) (hk0 : gb_kL k0 = true) : gb_tc (cs_Lines_size_L n σ k0) (fun s r => s = σ ∧ gb_iv 0 8 r) := by
  unfold cs_Lines_size_L
  refine gc_kk hk0 ?_
  refine gc_lti (lo := 0) (hi := 8) (gc_rd (c := 3) (lo := 0) (hi := 8) hT (gc_catL hk0) (by decide)) (fun x_2 ex_2 ix_2 => ?_)
  exact gc_some ⟨rfl, ix_2⟩
set_option maxHeartbeats 4000000 in
theorem ct_Lines_cell_L {n : Nat} (hn : gb_N ≤ n) {σ : gb_S} {k0 : Nat} {p1 : Int32} {p2 : Int32} (hT : gb_TC σ) (hk0 : gb_kL k0 = true) (ip1 : gb_iv 0 7 p1) (ip2 : gb_iv 0 2 p2) : gb_tc (cs_Lines_cell_L n σ k0 p1 p2) (fun s r => s = σ ∧ gb_iv (-2147483648) 2147483647 r) := by
  unfold cs_Lines_cell_L
  refine gc_kk hk0 ?_
  refine gc_ck (gb_iadd (lo := 1) (hi := 24) (gb_iadd (lo := 1) (hi := 22) (gb_ic (a := 1) (by decide)) (gb_imul (lo := 0) (hi := 21) ip1 (gb_iadd (lo := 3) (hi := 3) (gb_ic (a := 2) (by decide)) (gb_ic (a := 1) (by decide)) (by decide)) (by decide)) (by decide)) ip2 (by decide)) (by decide) ?_
  refine gc_lti (lo := (-2147483648)) (hi := 2147483647) (gb_it _) (fun x_3 ex_3 ix_3 => ?_)
  exact gc_some ⟨rfl, (gb_it _)⟩
set_option maxHeartbeats 4000000 in
theorem ct_Face_lineOf_L {n : Nat} (hn : gb_N ≤ n) {σ : gb_S} {p1 : Nat} {p2 : Int32} {p3 : Int32} (hT : gb_TC σ) (hp1 : gb_kL p1 = true) : gb_tc (cs_Face_lineOf_L n σ p1 p2 p3) (fun s r => s = σ ∧ gb_iv (-2147483648) 2147483647 r) := by
  unfold cs_Face_lineOf_L
  refine gc_kk hp1 ?_
  refine gc_if (fun c_1162 => ?_) (fun c_1162 => ?_)
  · have j_1163 : gb_iv (-2147483648) (-1) p2 := (gb_rU (lo := (-2147483648)) (hi := (-1)) (gb_deq c_1162) (gb_it _) (gb_ic (a := (-1)) (by decide)) (by decide))
    have j_1164 : gb_iv (-1) (-1) p2 := (gb_rL (lo := (-1)) (hi := (-1)) (gb_deq2 c_1162) j_1163 (gb_ic (a := (-1)) (by decide)) (by decide))
    refine gc_if (fun c_1165 => ?_) (fun c_1165 => ?_)
    · have j_1166 : gb_iv (-2147483648) 0 p3 := (gb_rU (lo := (-2147483648)) (hi := 0) (gb_deq c_1165) (gb_it _) (gb_ic (a := 0) (by decide)) (by decide))
      have j_1167 : gb_iv 0 0 p3 := (gb_rL (lo := 0) (hi := 0) (gb_deq2 c_1165) j_1166 (gb_ic (a := 0) (by decide)) (by decide))
      refine gc_cdP (ct_Lines_size_L hn hT hp1) (fun r_17 qr_17 h_1168 => ?_)
      exact gc_some ⟨rfl, (gb_iw (lo := (-2147483648)) (hi := 2147483647) h_1168 (by decide))⟩
    · exact gc_some ⟨rfl, (gb_iw (lo := (-2147483648)) (hi := 2147483647) (gb_ic (a := (-2)) (by decide)) (by decide))⟩
  · refine gc_if (fun c_1169 => ?_) (fun c_1169 => ?_)
    · have j_1170 : gb_iv (-2147483648) (-1) p2 := (gb_rU (lo := (-2147483648)) (hi := (-1)) (gb_dlt c_1169) (gb_it _) (gb_ic (a := 0) (by decide)) (by decide))
      exact gc_some ⟨rfl, (gb_iw (lo := (-2147483648)) (hi := 2147483647) (gb_ic (a := (-2)) (by decide)) (by decide))⟩
    · have j_1171 : gb_iv 0 2147483647 p2 := (gb_rL (lo := 0) (hi := 2147483647) (gb_dnlt c_1169) (gb_it _) (gb_ic (a := 0) (by decide)) (by decide))
      refine gc_cdP (ct_Lines_size_L hn hT hp1) (fun r_5 qr_5 h_1172 => ?_)
      refine gc_if (fun c_1173 => ?_) (fun c_1173 => ?_)
      · exact gc_some ⟨rfl, (gb_iw (lo := (-2147483648)) (hi := 2147483647) (gb_ic (a := (-2)) (by decide)) (by decide))⟩
      · have j_1174 : gb_iv 0 7 p2 := (gb_rU (lo := 0) (hi := 7) (gb_dnle c_1173) j_1171 h_1172 (by decide))
        have j_1175 : gb_iv 1 8 r_5 := (gb_rL (lo := 1) (hi := 8) (gb_dnle c_1173) h_1172 j_1174 (by decide))
        refine gc_if (fun c_1176 => ?_) (fun c_1176 => ?_)
        · have j_1177 : gb_iv (-2147483648) (-1) p3 := (gb_rU (lo := (-2147483648)) (hi := (-1)) (gb_dlt c_1176) (gb_it _) (gb_ic (a := 0) (by decide)) (by decide))
          exact gc_some ⟨rfl, (gb_iw (lo := (-2147483648)) (hi := 2147483647) (gb_ic (a := (-2)) (by decide)) (by decide))⟩
        · have j_1178 : gb_iv 0 2147483647 p3 := (gb_rL (lo := 0) (hi := 2147483647) (gb_dnlt c_1176) (gb_it _) (gb_ic (a := 0) (by decide)) (by decide))
          refine gc_if (fun c_1179 => ?_) (fun c_1179 => ?_)
          · have j_1180 : gb_iv 0 2 p3 := (gb_rU (lo := 0) (hi := 2) (gb_dle c_1179) j_1178 (gb_ic (a := 2) (by decide)) (by decide))
            refine gc_cdP (ct_Lines_cell_L hn hT hp1 j_1174 j_1180) (fun r_12 qr_12 h_1181 => ?_)
            exact gc_some ⟨rfl, (gb_it _)⟩
          · have j_1182 : gb_iv 3 2147483647 p3 := (gb_rL (lo := 3) (hi := 2147483647) (gb_dnle c_1179) j_1178 (gb_ic (a := 2) (by decide)) (by decide))
            exact gc_some ⟨rfl, (gb_iw (lo := (-2147483648)) (hi := 2147483647) (gb_ic (a := (-2)) (by decide)) (by decide))⟩
set_option maxHeartbeats 4000000 in
theorem ct_Face_term {n : Nat} (hn : gb_N ≤ n) {σ : gb_S} {p1 : Int32} {p2 : Int32} {p3 : Int32} (hT : gb_TC σ) : gb_tc (cs_Face_term n σ p1 p2 p3) (fun s r => s = σ ∧ gb_iv (-2147483648) 2147483647 r) := by
  unfold cs_Face_term
  refine gc_cdP (ct_Face_lawAt hn hT) (fun r_2 qr_2 h_1186 => ?_)
  refine gc_if (fun c_1187 => ?_) (fun c_1187 => ?_)
  · exact gc_some ⟨rfl, (gb_iw (lo := (-2147483648)) (hi := 2147483647) (gb_ic (a := (-2)) (by decide)) (by decide))⟩
  · refine gc_kk (Or.resolve_left h_1186 c_1187) ?_
    refine gc_cdP (ct_Face_lineOf_L hn hT (Or.resolve_left h_1186 c_1187)) (fun r_8 qr_8 h_1188 => ?_)
    exact gc_some ⟨rfl, (gb_it _)⟩
set_option maxHeartbeats 4000000 in
theorem ct_Face_dawnAt {n : Nat} (hn : gb_N ≤ n) {σ : gb_S} {p1 : Int32} (hT : gb_TC σ) : gb_tc (cs_Face_dawnAt n σ p1) (fun s r => s = σ ∧ (r = 0 ∨ gb_kD r = true)) := by
  unfold cs_Face_dawnAt
  refine gc_if (fun c_1196 => ?_) (fun c_1196 => ?_)
  · have j_1197 : gb_iv (-2147483648) (-1) p1 := (gb_rU (lo := (-2147483648)) (hi := (-1)) (gb_dlt c_1196) (gb_it _) (gb_ic (a := 0) (by decide)) (by decide))
    exact gc_some ⟨rfl, (Or.inl rfl)⟩
  · have j_1198 : gb_iv 0 2147483647 p1 := (gb_rL (lo := 0) (hi := 2147483647) (gb_dnlt c_1196) (gb_it _) (gb_ic (a := 0) (by decide)) (by decide))
    refine gc_lti (lo := 0) (hi := 2) (gc_rd (c := 5) (lo := 0) (hi := 2) hT (rfl : gc_cat 22 = 5) (by decide)) (fun x_2 ex_2 ix_2 => ?_)
    refine gc_if (fun c_1199 => ?_) (fun c_1199 => ?_)
    · exact gc_some ⟨rfl, (Or.inl rfl)⟩
    · have j_1200 : gb_iv 0 1 p1 := (gb_rU (lo := 0) (hi := 1) (gb_dnle c_1199) j_1198 ix_2 (by decide))
      have j_1201 : gb_iv 1 2 x_2 := (gb_rL (lo := 1) (hi := 2) (gb_dnle c_1199) ix_2 j_1200 (by decide))
      refine gc_ck j_1200 (by decide) ?_
      refine gc_lt (fun a_5 ea_5 => ?_)
      have k_1202 : gb_kD a_5 = true := by rw [ea_5]; exact gc_gD j_1200
      refine gc_kk k_1202 ?_
      exact gc_some ⟨rfl, (Or.inr k_1202)⟩
set_option maxHeartbeats 4000000 in
theorem ct_Face_lineOf_D {n : Nat} (hn : gb_N ≤ n) {σ : gb_S} {p1 : Nat} {p2 : Int32} {p3 : Int32} (hT : gb_TC σ) (hp1 : gb_kD p1 = true) : gb_tc (cs_Face_lineOf_D n σ p1 p2 p3) (fun s r => s = σ ∧ gb_iv (-2147483648) 2147483647 r) := by
  unfold cs_Face_lineOf_D
  refine gc_kk hp1 ?_
  refine gc_if (fun c_1224 => ?_) (fun c_1224 => ?_)
  · have j_1225 : gb_iv (-2147483648) (-1) p2 := (gb_rU (lo := (-2147483648)) (hi := (-1)) (gb_deq c_1224) (gb_it _) (gb_ic (a := (-1)) (by decide)) (by decide))
    have j_1226 : gb_iv (-1) (-1) p2 := (gb_rL (lo := (-1)) (hi := (-1)) (gb_deq2 c_1224) j_1225 (gb_ic (a := (-1)) (by decide)) (by decide))
    refine gc_if (fun c_1227 => ?_) (fun c_1227 => ?_)
    · have j_1228 : gb_iv (-2147483648) 0 p3 := (gb_rU (lo := (-2147483648)) (hi := 0) (gb_deq c_1227) (gb_it _) (gb_ic (a := 0) (by decide)) (by decide))
      have j_1229 : gb_iv 0 0 p3 := (gb_rL (lo := 0) (hi := 0) (gb_deq2 c_1227) j_1228 (gb_ic (a := 0) (by decide)) (by decide))
      refine gc_cdP (ct_Lines_size_D hn hT hp1) (fun r_17 qr_17 h_1230 => ?_)
      exact gc_some ⟨rfl, (gb_iw (lo := (-2147483648)) (hi := 2147483647) h_1230 (by decide))⟩
    · exact gc_some ⟨rfl, (gb_iw (lo := (-2147483648)) (hi := 2147483647) (gb_ic (a := (-2)) (by decide)) (by decide))⟩
  · refine gc_if (fun c_1231 => ?_) (fun c_1231 => ?_)
    · have j_1232 : gb_iv (-2147483648) (-1) p2 := (gb_rU (lo := (-2147483648)) (hi := (-1)) (gb_dlt c_1231) (gb_it _) (gb_ic (a := 0) (by decide)) (by decide))
      exact gc_some ⟨rfl, (gb_iw (lo := (-2147483648)) (hi := 2147483647) (gb_ic (a := (-2)) (by decide)) (by decide))⟩
    · have j_1233 : gb_iv 0 2147483647 p2 := (gb_rL (lo := 0) (hi := 2147483647) (gb_dnlt c_1231) (gb_it _) (gb_ic (a := 0) (by decide)) (by decide))
      refine gc_cdP (ct_Lines_size_D hn hT hp1) (fun r_5 qr_5 h_1234 => ?_)
      refine gc_if (fun c_1235 => ?_) (fun c_1235 => ?_)
      · exact gc_some ⟨rfl, (gb_iw (lo := (-2147483648)) (hi := 2147483647) (gb_ic (a := (-2)) (by decide)) (by decide))⟩
      · have j_1236 : gb_iv 0 4 p2 := (gb_rU (lo := 0) (hi := 4) (gb_dnle c_1235) j_1233 h_1234 (by decide))
        have j_1237 : gb_iv 1 5 r_5 := (gb_rL (lo := 1) (hi := 5) (gb_dnle c_1235) h_1234 j_1236 (by decide))
        refine gc_if (fun c_1238 => ?_) (fun c_1238 => ?_)
        · have j_1239 : gb_iv (-2147483648) (-1) p3 := (gb_rU (lo := (-2147483648)) (hi := (-1)) (gb_dlt c_1238) (gb_it _) (gb_ic (a := 0) (by decide)) (by decide))
          exact gc_some ⟨rfl, (gb_iw (lo := (-2147483648)) (hi := 2147483647) (gb_ic (a := (-2)) (by decide)) (by decide))⟩
        · have j_1240 : gb_iv 0 2147483647 p3 := (gb_rL (lo := 0) (hi := 2147483647) (gb_dnlt c_1238) (gb_it _) (gb_ic (a := 0) (by decide)) (by decide))
          refine gc_if (fun c_1241 => ?_) (fun c_1241 => ?_)
          · have j_1242 : gb_iv 0 2 p3 := (gb_rU (lo := 0) (hi := 2) (gb_dle c_1241) j_1240 (gb_ic (a := 2) (by decide)) (by decide))
            refine gc_cdP (ct_Lines_cell_D hn hT hp1 j_1236 j_1242) (fun r_12 qr_12 h_1243 => ?_)
            exact gc_some ⟨rfl, (gb_it _)⟩
          · have j_1244 : gb_iv 3 2147483647 p3 := (gb_rL (lo := 3) (hi := 2147483647) (gb_dnle c_1241) j_1240 (gb_ic (a := 2) (by decide)) (by decide))
            exact gc_some ⟨rfl, (gb_iw (lo := (-2147483648)) (hi := 2147483647) (gb_ic (a := (-2)) (by decide)) (by decide))⟩
set_option maxHeartbeats 4000000 in
theorem ct_Face_seen {n : Nat} (hn : gb_N ≤ n) {σ : gb_S} {p1 : Int32} {p2 : Int32} {p3 : Int32} (hT : gb_TC σ) : gb_tc (cs_Face_seen n σ p1 p2 p3) (fun s r => s = σ ∧ gb_iv (-2147483648) 2147483647 r) := by
  unfold cs_Face_seen
  refine gc_cdP (ct_Face_dawnAt hn hT) (fun r_2 qr_2 h_1258 => ?_)
  refine gc_if (fun c_1259 => ?_) (fun c_1259 => ?_)
  · exact gc_some ⟨rfl, (gb_iw (lo := (-2147483648)) (hi := 2147483647) (gb_ic (a := (-2)) (by decide)) (by decide))⟩
  · refine gc_kk (Or.resolve_left h_1258 c_1259) ?_
    refine gc_if (fun c_1260 => ?_) (fun c_1260 => ?_)
    · have j_1261 : gb_iv (-2147483648) (-1) p3 := (gb_rU (lo := (-2147483648)) (hi := (-1)) (gb_dlt c_1260) (gb_it _) (gb_ic (a := 0) (by decide)) (by decide))
      exact gc_some ⟨rfl, (gb_iw (lo := (-2147483648)) (hi := 2147483647) (gb_ic (a := (-2)) (by decide)) (by decide))⟩
    · have j_1262 : gb_iv 0 2147483647 p3 := (gb_rL (lo := 0) (hi := 2147483647) (gb_dnlt c_1260) (gb_it _) (gb_ic (a := 0) (by decide)) (by decide))
      refine gc_if (fun c_1263 => ?_) (fun c_1263 => ?_)
      · have j_1264 : gb_iv 0 1 p3 := (gb_rU (lo := 0) (hi := 1) (gb_dle c_1263) j_1262 (gb_ic (a := 1) (by decide)) (by decide))
        refine gc_if (fun c_1265 => ?_) (fun c_1265 => ?_)
        · have j_1266 : gb_iv (-2147483648) (-1) p2 := (gb_rU (lo := (-2147483648)) (hi := (-1)) (gb_deq c_1265) (gb_it _) (gb_ic (a := (-1)) (by decide)) (by decide))
          have j_1267 : gb_iv (-1) (-1) p2 := (gb_rL (lo := (-1)) (hi := (-1)) (gb_deq2 c_1265) j_1266 (gb_ic (a := (-1)) (by decide)) (by decide))
          refine gc_cdP (ct_Face_lineOf_D hn hT (Or.resolve_left h_1258 c_1259)) (fun r_15 qr_15 h_1268 => ?_)
          exact gc_some ⟨rfl, (gb_it _)⟩
        · refine gc_cdP (ct_Face_lineOf_D hn hT (Or.resolve_left h_1258 c_1259)) (fun r_11 qr_11 h_1269 => ?_)
          exact gc_some ⟨rfl, (gb_it _)⟩
      · have j_1270 : gb_iv 2 2147483647 p3 := (gb_rL (lo := 2) (hi := 2147483647) (gb_dnle c_1263) j_1262 (gb_ic (a := 1) (by decide)) (by decide))
        exact gc_some ⟨rfl, (gb_iw (lo := (-2147483648)) (hi := 2147483647) (gb_ic (a := (-2)) (by decide)) (by decide))⟩
set_option maxHeartbeats 4000000 in
theorem ct_Lines_kind_L {n : Nat} (hn : gb_N ≤ n) {σ : gb_S} {k0 : Nat} {p1 : Int32} (hT : gb_TC σ) (hk0 : gb_kL k0 = true) (ip1 : gb_iv 0 7 p1) : gb_tc (cs_Lines_kind_L n σ k0 p1) (fun s r => s = σ ∧ gb_iv (-2147483648) 2147483647 r) := by
  unfold cs_Lines_kind_L
  refine gc_kk hk0 ?_
  refine gc_cdP (ct_Lines_cell_L hn hT hk0 ip1 (gb_iw (lo := 0) (hi := 2) (gb_ic (a := 0) (by decide)) (by decide))) (fun r_3 qr_3 h_1272 => ?_)
  exact gc_some ⟨rfl, (gb_it _)⟩
set_option maxHeartbeats 4000000 in
theorem ct_Law_payFor_L_4 {n : Nat} (hn : gb_N ≤ n) {Q : gb_S → Int32 → Prop} {σ : gb_S} (hT : gb_TC σ) (hret : ∀ (r : Int32), gb_iv (-2147483648) 2147483647 r → Q σ r) : ∀ (mm : Nat) (v0 : Nat) (v1 : Int32) (v2 : Int32) (v3 : Int32), gb_kL v0 = true → gb_iv (-2147483648) 2147483647 v1 → gb_iv (-2147483648) 2147483647 v2 → gb_iv 0 8 v3 → (8 - v3.toInt).toNat < mm → gb_tc (cs_Law_payFor_L_4 n mm σ v0 v1 v2 v3) Q := by
  intro mm
  induction mm with
  | zero =>
    intro v0 v1 v2 v3 hv0 iv1 iv2 iv3 hm
    exact absurd hm (Nat.not_lt_zero _)
  | succ mm ih =>
    intro v0 v1 v2 v3 hv0 iv1 iv2 iv3 hm
    rw [cs_Law_payFor_L_4]
    refine gc_kk hv0 ?_
    refine gc_cdP (ct_Lines_size_L hn hT hv0) (fun r_4 qr_4 h_2203 => ?_)
    refine gc_if (fun c_2204 => ?_) (fun c_2204 => ?_)
    · exact gc_some (hret _ (gb_it _))
    · have j_2205 : gb_iv 0 7 v3 := (gb_rU (lo := 0) (hi := 7) (gb_dnle c_2204) iv3 h_2203 (by decide))
      have j_2206 : gb_iv 1 8 r_4 := (gb_rL (lo := 1) (hi := 8) (gb_dnle c_2204) h_2203 j_2205 (by decide))
      refine gc_cdP (ct_Lines_cell_L hn hT hv0 j_2205 (gb_iw (lo := 0) (hi := 2) (gb_ic (a := 1) (by decide)) (by decide))) (fun r_9 qr_9 h_2207 => ?_)
      refine gc_cdP (ct_Lines_cell_L hn hT hv0 j_2205 (gb_iw (lo := 0) (hi := 2) (gb_ic (a := 2) (by decide)) (by decide))) (fun r_13 qr_13 h_2208 => ?_)
      refine gc_cdP (ct_Lines_kind_L hn hT hv0 j_2205) (fun r_17 qr_17 h_2209 => ?_)
      refine gc_if (fun c_2210 => ?_) (fun c_2210 => ?_)
      · have j_2211 : gb_iv (-2147483648) 0 r_17 := (gb_rU (lo := (-2147483648)) (hi := 0) (gb_deq c_2210) (gb_it _) (gb_ic (a := 0) (by decide)) (by decide))
        have j_2212 : gb_iv 0 0 r_17 := (gb_rL (lo := 0) (hi := 0) (gb_deq2 c_2210) j_2211 (gb_ic (a := 0) (by decide)) (by decide))
        refine gc_lti (lo := (-2147483648)) (hi := 2147483647) (gb_it _) (fun x_21 ex_21 ix_21 => ?_)
        refine gc_lti (lo := 1) (hi := 8) (gb_iadd (lo := 1) (hi := 8) j_2205 (gb_ic (a := 1) (by decide)) (by decide)) (fun x_22 ex_22 ix_22 => ?_)
        exact ih _ _ _ _ hv0 (gb_it _) (gb_it _) (gb_iw (lo := 0) (hi := 8) ix_22 (by decide)) (gb_mup ex_22 j_2205 (by decide) hm)
      · refine gc_if (fun c_2213 => ?_) (fun c_2213 => ?_)
        · have j_2214 : gb_iv (-2147483648) 1 r_17 := (gb_rU (lo := (-2147483648)) (hi := 1) (gb_deq c_2213) (gb_it _) (gb_ic (a := 1) (by decide)) (by decide))
          have j_2215 : gb_iv 1 1 r_17 := (gb_rL (lo := 1) (hi := 1) (gb_deq2 c_2213) j_2214 (gb_ic (a := 1) (by decide)) (by decide))
          refine gc_if (fun c_2216 => ?_) (fun c_2216 => ?_)
          · refine gc_lti (lo := (-2147483648)) (hi := 2147483647) (gb_iadd (lo := (-2147483648)) (hi := 2147483647) (gb_it _) (gb_ic (a := 0) (by decide)) (by decide)) (fun x_25 ex_25 ix_25 => ?_)
            refine gc_lti (lo := 1) (hi := 8) (gb_iadd (lo := 1) (hi := 8) j_2205 (gb_ic (a := 1) (by decide)) (by decide)) (fun x_26 ex_26 ix_26 => ?_)
            exact ih _ _ _ _ hv0 (gb_it _) (gb_it _) (gb_iw (lo := 0) (hi := 8) ix_26 (by decide)) (gb_mup ex_26 j_2205 (by decide) hm)
          · have j_2217 : gb_iv (-2147483648) 2147483646 r_9 := (gb_rU (lo := (-2147483648)) (hi := 2147483646) (gb_dnle c_2216) (gb_it _) (gb_it _) (by decide))
            have j_2218 : gb_iv (-2147483647) 2147483647 v1 := (gb_rL (lo := (-2147483647)) (hi := 2147483647) (gb_dnle c_2216) (gb_it _) j_2217 (by decide))
            refine gc_lti (lo := (-2147483648)) (hi := 2147483647) (gb_it _) (fun x_27 ex_27 ix_27 => ?_)
            refine gc_lti (lo := 1) (hi := 8) (gb_iadd (lo := 1) (hi := 8) j_2205 (gb_ic (a := 1) (by decide)) (by decide)) (fun x_28 ex_28 ix_28 => ?_)
            exact ih _ _ _ _ hv0 (gb_iw (lo := (-2147483648)) (hi := 2147483647) j_2218 (by decide)) (gb_it _) (gb_iw (lo := 0) (hi := 8) ix_28 (by decide)) (gb_mup ex_28 j_2205 (by decide) hm)
        · refine gc_if (fun c_2219 => ?_) (fun c_2219 => ?_)
          · have j_2220 : gb_iv (-2147483648) 2 r_17 := (gb_rU (lo := (-2147483648)) (hi := 2) (gb_deq c_2219) (gb_it _) (gb_ic (a := 2) (by decide)) (by decide))
            have j_2221 : gb_iv 2 2 r_17 := (gb_rL (lo := 2) (hi := 2) (gb_deq2 c_2219) j_2220 (gb_ic (a := 2) (by decide)) (by decide))
            refine gc_if (fun c_2222 => ?_) (fun c_2222 => ?_)
            · refine gc_lti (lo := (-2147483648)) (hi := 2147483647) (gb_iadd (lo := (-2147483648)) (hi := 2147483647) (gb_it _) (gb_ic (a := 0) (by decide)) (by decide)) (fun x_31 ex_31 ix_31 => ?_)
              refine gc_lti (lo := 1) (hi := 8) (gb_iadd (lo := 1) (hi := 8) j_2205 (gb_ic (a := 1) (by decide)) (by decide)) (fun x_32 ex_32 ix_32 => ?_)
              exact ih _ _ _ _ hv0 (gb_it _) (gb_it _) (gb_iw (lo := 0) (hi := 8) ix_32 (by decide)) (gb_mup ex_32 j_2205 (by decide) hm)
            · have j_2223 : gb_iv (-2147483648) 2147483646 v1 := (gb_rU (lo := (-2147483648)) (hi := 2147483646) (gb_dnle c_2222) (gb_it _) (gb_it _) (by decide))
              have j_2224 : gb_iv (-2147483647) 2147483647 r_9 := (gb_rL (lo := (-2147483647)) (hi := 2147483647) (gb_dnle c_2222) (gb_it _) j_2223 (by decide))
              refine gc_lti (lo := (-2147483648)) (hi := 2147483647) (gb_it _) (fun x_33 ex_33 ix_33 => ?_)
              refine gc_lti (lo := 1) (hi := 8) (gb_iadd (lo := 1) (hi := 8) j_2205 (gb_ic (a := 1) (by decide)) (by decide)) (fun x_34 ex_34 ix_34 => ?_)
              exact ih _ _ _ _ hv0 (gb_iw (lo := (-2147483648)) (hi := 2147483647) j_2223 (by decide)) (gb_it _) (gb_iw (lo := 0) (hi := 8) ix_34 (by decide)) (gb_mup ex_34 j_2205 (by decide) hm)
          · refine gc_if (fun c_2225 => ?_) (fun c_2225 => ?_)
            · have j_2226 : gb_iv (-2147483648) 3 r_17 := (gb_rU (lo := (-2147483648)) (hi := 3) (gb_deq c_2225) (gb_it _) (gb_ic (a := 3) (by decide)) (by decide))
              have j_2227 : gb_iv 3 3 r_17 := (gb_rL (lo := 3) (hi := 3) (gb_deq2 c_2225) j_2226 (gb_ic (a := 3) (by decide)) (by decide))
              refine gc_lti (lo := (-2147483648)) (hi := 2147483647) (gb_it _) (fun x_36 ex_36 ix_36 => ?_)
              refine gc_if (fun c_2228 => ?_) (fun c_2228 => ?_)
              · have j_2229 : gb_iv (-2147483648) 1 x_36 := (gb_rU (lo := (-2147483648)) (hi := 1) (gb_deq c_2228) (gb_it _) (gb_ic (a := 1) (by decide)) (by decide))
                have j_2230 : gb_iv 1 1 x_36 := (gb_rL (lo := 1) (hi := 1) (gb_deq2 c_2228) j_2229 (gb_ic (a := 1) (by decide)) (by decide))
                refine gc_lti (lo := (-2147483648)) (hi := 2147483647) (gb_it _) (fun x_40 ex_40 ix_40 => ?_)
                refine gc_lti (lo := 1) (hi := 8) (gb_iadd (lo := 1) (hi := 8) j_2205 (gb_ic (a := 1) (by decide)) (by decide)) (fun x_41 ex_41 ix_41 => ?_)
                exact ih _ _ _ _ hv0 (gb_it _) (gb_it _) (gb_iw (lo := 0) (hi := 8) ix_41 (by decide)) (gb_mup ex_41 j_2205 (by decide) hm)
              · refine gc_lti (lo := (-2147483648)) (hi := 2147483647) (gb_iadd (lo := (-2147483648)) (hi := 2147483647) (gb_it _) (gb_ic (a := 0) (by decide)) (by decide)) (fun x_38 ex_38 ix_38 => ?_)
                refine gc_lti (lo := 1) (hi := 8) (gb_iadd (lo := 1) (hi := 8) j_2205 (gb_ic (a := 1) (by decide)) (by decide)) (fun x_39 ex_39 ix_39 => ?_)
                exact ih _ _ _ _ hv0 (gb_it _) (gb_it _) (gb_iw (lo := 0) (hi := 8) ix_39 (by decide)) (gb_mup ex_39 j_2205 (by decide) hm)
            · refine gc_if (fun c_2231 => ?_) (fun c_2231 => ?_)
              · have j_2232 : gb_iv (-2147483648) 4 r_17 := (gb_rU (lo := (-2147483648)) (hi := 4) (gb_deq c_2231) (gb_it _) (gb_ic (a := 4) (by decide)) (by decide))
                have j_2233 : gb_iv 4 4 r_17 := (gb_rL (lo := 4) (hi := 4) (gb_deq2 c_2231) j_2232 (gb_ic (a := 4) (by decide)) (by decide))
                refine gc_lti (lo := (-2147483648)) (hi := 2147483647) (gb_imin (lo := (-2147483648)) (hi := 2147483647) (gb_it _) (gb_it _) (by decide)) (fun x_43 ex_43 ix_43 => ?_)
                refine gc_lti (lo := 1) (hi := 8) (gb_iadd (lo := 1) (hi := 8) j_2205 (gb_ic (a := 1) (by decide)) (by decide)) (fun x_44 ex_44 ix_44 => ?_)
                exact ih _ _ _ _ hv0 (gb_it _) (gb_it _) (gb_iw (lo := 0) (hi := 8) ix_44 (by decide)) (gb_mup ex_44 j_2205 (by decide) hm)
              · refine gc_lti (lo := 1) (hi := 8) (gb_iadd (lo := 1) (hi := 8) j_2205 (gb_ic (a := 1) (by decide)) (by decide)) (fun x_45 ex_45 ix_45 => ?_)
                exact ih _ _ _ _ hv0 (gb_it _) (gb_it _) (gb_iw (lo := 0) (hi := 8) ix_45 (by decide)) (gb_mup ex_45 j_2205 (by decide) hm)
set_option maxHeartbeats 4000000 in
theorem ct_Law_payFor_L {n : Nat} (hn : gb_N ≤ n) {σ : gb_S} {k0 : Nat} {p1 : Int32} (hT : gb_TC σ) (hk0 : gb_kL k0 = true) : gb_tc (cs_Law_payFor_L n σ k0 p1) (fun s r => s = σ ∧ gb_iv (-2147483648) 2147483647 r) := by
  unfold cs_Law_payFor_L
  refine gc_kk hk0 ?_
  exact ct_Law_payFor_L_4 hn hT (fun _ h => ⟨rfl, h⟩) n _ _ _ _ hk0 (gb_it _) (gb_iw (lo := (-2147483648)) (hi := 2147483647) (gb_ic (a := 0) (by decide)) (by decide)) (gb_iw (lo := 0) (hi := 8) (gb_ic (a := 0) (by decide)) (by decide)) (gb_fuu hn (gb_iw (lo := 0) (hi := 8) (gb_ic (a := 0) (by decide)) (by decide)) (by decide))
set_option maxHeartbeats 4000000 in
theorem ct_Face_pays {n : Nat} (hn : gb_N ≤ n) {σ : gb_S} {p1 : Int32} {p2 : Int32} (hT : gb_TC σ) : gb_tc (cs_Face_pays n σ p1 p2) (fun s r => s = σ ∧ gb_iv (-2147483648) 2147483647 r) := by
  unfold cs_Face_pays
  refine gc_cdP (ct_Face_lawAt hn hT) (fun r_2 qr_2 h_2243 => ?_)
  refine gc_if (fun c_2244 => ?_) (fun c_2244 => ?_)
  · exact gc_some ⟨rfl, (gb_iw (lo := (-2147483648)) (hi := 2147483647) (gb_ic (a := (-1)) (by decide)) (by decide))⟩
  · refine gc_kk (Or.resolve_left h_2243 c_2244) ?_
    refine gc_if (fun c_2245 => ?_) (fun c_2245 => ?_)
    · have j_2246 : gb_iv (-2147483648) (-1) p2 := (gb_rU (lo := (-2147483648)) (hi := (-1)) (gb_dlt c_2245) (gb_it _) (gb_ic (a := 0) (by decide)) (by decide))
      exact gc_some ⟨rfl, (gb_iw (lo := (-2147483648)) (hi := 2147483647) (gb_ic (a := (-1)) (by decide)) (by decide))⟩
    · have j_2247 : gb_iv 0 2147483647 p2 := (gb_rL (lo := 0) (hi := 2147483647) (gb_dnlt c_2245) (gb_it _) (gb_ic (a := 0) (by decide)) (by decide))
      refine gc_if (fun c_2248 => ?_) (fun c_2248 => ?_)
      · have j_2249 : gb_iv 0 9999 p2 := (gb_rU (lo := 0) (hi := 9999) (gb_dle c_2248) j_2247 (gb_ic (a := 9999) (by decide)) (by decide))
        refine gc_cdP (ct_Law_payFor_L hn hT (Or.resolve_left h_2243 c_2244)) (fun r_10 qr_10 h_2250 => ?_)
        exact gc_some ⟨rfl, (gb_it _)⟩
      · have j_2251 : gb_iv 10000 2147483647 p2 := (gb_rL (lo := 10000) (hi := 2147483647) (gb_dnle c_2248) j_2247 (gb_ic (a := 9999) (by decide)) (by decide))
        exact gc_some ⟨rfl, (gb_iw (lo := (-2147483648)) (hi := 2147483647) (gb_ic (a := (-1)) (by decide)) (by decide))⟩
set_option maxHeartbeats 4000000 in
theorem ct_Face_playedOut_n_n {n : Nat} (hn : gb_N ≤ n) {σ : gb_S} (hT : gb_TC σ) : gb_tc (cs_Face_playedOut_n_n n σ) (fun s r => s = σ ∧ gb_iv 0 0 r) := by
  unfold cs_Face_playedOut_n_n
  exact gc_some ⟨rfl, (gb_ic (a := 0) (by decide))⟩
set_option maxHeartbeats 4000000 in
theorem ct_Face_playedOut_n_N {n : Nat} (hn : gb_N ≤ n) {σ : gb_S} {p2 : Nat} (hT : gb_TC σ) (hp2 : gb_kN p2 = true) : gb_tc (cs_Face_playedOut_n_N n σ p2) (fun s r => s = σ ∧ gb_iv 0 0 r) := by
  unfold cs_Face_playedOut_n_N
  refine gc_kk hp2 ?_
  exact gc_some ⟨rfl, (gb_ic (a := 0) (by decide))⟩
set_option maxHeartbeats 4000000 in
theorem ct_Face_playedOut_B_n {n : Nat} (hn : gb_N ≤ n) {σ : gb_S} {p1 : Nat} (hT : gb_TC σ) (hp1 : gb_kB p1 = true) : gb_tc (cs_Face_playedOut_B_n n σ p1) (fun s r => s = σ ∧ gb_iv 0 0 r) := by
  unfold cs_Face_playedOut_B_n
  refine gc_kk hp1 ?_
  exact gc_some ⟨rfl, (gb_ic (a := 0) (by decide))⟩
set_option maxHeartbeats 4000000 in
theorem ct_java_util_Arrays_fill_c116_5 {n : Nat} (hn : gb_N ≤ n) {Q : gb_S → Unit → Prop} (hret : ∀ (σ : gb_S) (r : Unit), gb_TC σ → True → Q σ r) : ∀ (mm : Nat) (σ : gb_S) (v1 : Int32) (v2 : Int32) (v3 : Int32), gb_TC σ → gb_iv (-2147483648) 2147483647 v1 → gb_iv 0 5 v2 → gb_iv 5 5 v3 → (5 - v2.toInt).toNat < mm → gb_tc (cs_java_util_Arrays_fill_c116_5 n mm σ v1 v2 v3) Q := by
  intro mm
  induction mm with
  | zero =>
    intro σ v1 v2 v3 hT iv1 iv2 iv3 hm
    exact absurd hm (Nat.not_lt_zero _)
  | succ mm ih =>
    intro σ v1 v2 v3 hT iv1 iv2 iv3 hm
    rw [cs_java_util_Arrays_fill_c116_5]
    refine gc_if (fun c_2310 => ?_) (fun c_2310 => ?_)
    · have j_2311 : gb_iv 5 5 v2 := (gb_rL (lo := 5) (hi := 5) (gb_dle c_2310) iv2 iv3 (by decide))
      exact gc_some (hret _ _ hT trivial)
    · have j_2312 : gb_iv 0 4 v2 := (gb_rU (lo := 0) (hi := 4) (gb_dnle c_2310) iv2 iv3 (by decide))
      refine gc_ck j_2312 (by decide) ?_
      refine gc_ltT (gc_su0 hT (rfl : gc_cat 116 = 0)) (fun s_3 es_3 hTs_3 => ?_)
      refine gc_lti (lo := 1) (hi := 5) (gb_iadd (lo := 1) (hi := 5) j_2312 (gb_ic (a := 1) (by decide)) (by decide)) (fun x_4 ex_4 ix_4 => ?_)
      exact ih _ _ _ _ hTs_3 (gb_it _) (gb_iw (lo := 0) (hi := 5) ix_4 (by decide)) iv3 (gb_mup ex_4 j_2312 (by decide) hm)
set_option maxHeartbeats 4000000 in
theorem ct_java_util_Arrays_fill_c116 {n : Nat} (hn : gb_N ≤ n) {σ : gb_S} {p2 : Int32} (hT : gb_TC σ) : gb_tc (cs_java_util_Arrays_fill_c116 n σ p2) (fun s _ => gb_TC s ∧ True) := by
  unfold cs_java_util_Arrays_fill_c116
  exact ct_java_util_Arrays_fill_c116_5 hn (fun _ _ hT h => ⟨hT, h⟩) n _ _ _ _ hT (gb_it _) (gb_iw (lo := 0) (hi := 5) (gb_ic (a := 0) (by decide)) (by decide)) (gb_ic (a := 5) (by decide)) (gb_fuu hn (gb_iw (lo := 0) (hi := 5) (gb_ic (a := 0) (by decide)) (by decide)) (by decide))
set_option maxHeartbeats 4000000 in
theorem ct_java_util_Arrays_fill_c117_5 {n : Nat} (hn : gb_N ≤ n) {Q : gb_S → Unit → Prop} (hret : ∀ (σ : gb_S) (r : Unit), gb_TC σ → True → Q σ r) : ∀ (mm : Nat) (σ : gb_S) (v1 : Int32) (v2 : Int32) (v3 : Int32), gb_TC σ → gb_iv (-2147483648) 2147483647 v1 → gb_iv 0 5 v2 → gb_iv 5 5 v3 → (5 - v2.toInt).toNat < mm → gb_tc (cs_java_util_Arrays_fill_c117_5 n mm σ v1 v2 v3) Q := by
  intro mm
  induction mm with
  | zero =>
    intro σ v1 v2 v3 hT iv1 iv2 iv3 hm
    exact absurd hm (Nat.not_lt_zero _)
  | succ mm ih =>
    intro σ v1 v2 v3 hT iv1 iv2 iv3 hm
    rw [cs_java_util_Arrays_fill_c117_5]
    refine gc_if (fun c_2371 => ?_) (fun c_2371 => ?_)
    · have j_2372 : gb_iv 5 5 v2 := (gb_rL (lo := 5) (hi := 5) (gb_dle c_2371) iv2 iv3 (by decide))
      exact gc_some (hret _ _ hT trivial)
    · have j_2373 : gb_iv 0 4 v2 := (gb_rU (lo := 0) (hi := 4) (gb_dnle c_2371) iv2 iv3 (by decide))
      refine gc_ck j_2373 (by decide) ?_
      refine gc_ltT (gc_su0 hT (rfl : gc_cat 117 = 0)) (fun s_3 es_3 hTs_3 => ?_)
      refine gc_lti (lo := 1) (hi := 5) (gb_iadd (lo := 1) (hi := 5) j_2373 (gb_ic (a := 1) (by decide)) (by decide)) (fun x_4 ex_4 ix_4 => ?_)
      exact ih _ _ _ _ hTs_3 (gb_it _) (gb_iw (lo := 0) (hi := 5) ix_4 (by decide)) iv3 (gb_mup ex_4 j_2373 (by decide) hm)
set_option maxHeartbeats 4000000 in
theorem ct_java_util_Arrays_fill_c117 {n : Nat} (hn : gb_N ≤ n) {σ : gb_S} {p2 : Int32} (hT : gb_TC σ) : gb_tc (cs_java_util_Arrays_fill_c117 n σ p2) (fun s _ => gb_TC s ∧ True) := by
  unfold cs_java_util_Arrays_fill_c117
  exact ct_java_util_Arrays_fill_c117_5 hn (fun _ _ hT h => ⟨hT, h⟩) n _ _ _ _ hT (gb_it _) (gb_iw (lo := 0) (hi := 5) (gb_ic (a := 0) (by decide)) (by decide)) (gb_ic (a := 5) (by decide)) (gb_fuu hn (gb_iw (lo := 0) (hi := 5) (gb_ic (a := 0) (by decide)) (by decide)) (by decide))
set_option maxHeartbeats 4000000 in
theorem ct_java_util_Arrays_fill_c118_5 {n : Nat} (hn : gb_N ≤ n) {Q : gb_S → Unit → Prop} (hret : ∀ (σ : gb_S) (r : Unit), gb_TC σ → True → Q σ r) : ∀ (mm : Nat) (σ : gb_S) (v1 : Int32) (v2 : Int32) (v3 : Int32), gb_TC σ → gb_iv (-2147483648) 2147483647 v1 → gb_iv 0 5 v2 → gb_iv 5 5 v3 → (5 - v2.toInt).toNat < mm → gb_tc (cs_java_util_Arrays_fill_c118_5 n mm σ v1 v2 v3) Q := by
  intro mm
  induction mm with
  | zero =>
    intro σ v1 v2 v3 hT iv1 iv2 iv3 hm
    exact absurd hm (Nat.not_lt_zero _)
  | succ mm ih =>
    intro σ v1 v2 v3 hT iv1 iv2 iv3 hm
    rw [cs_java_util_Arrays_fill_c118_5]
    refine gc_if (fun c_2432 => ?_) (fun c_2432 => ?_)
    · have j_2433 : gb_iv 5 5 v2 := (gb_rL (lo := 5) (hi := 5) (gb_dle c_2432) iv2 iv3 (by decide))
      exact gc_some (hret _ _ hT trivial)
    · have j_2434 : gb_iv 0 4 v2 := (gb_rU (lo := 0) (hi := 4) (gb_dnle c_2432) iv2 iv3 (by decide))
      refine gc_ck j_2434 (by decide) ?_
      refine gc_ltT (gc_su0 hT (rfl : gc_cat 118 = 0)) (fun s_3 es_3 hTs_3 => ?_)
      refine gc_lti (lo := 1) (hi := 5) (gb_iadd (lo := 1) (hi := 5) j_2434 (gb_ic (a := 1) (by decide)) (by decide)) (fun x_4 ex_4 ix_4 => ?_)
      exact ih _ _ _ _ hTs_3 (gb_it _) (gb_iw (lo := 0) (hi := 5) ix_4 (by decide)) iv3 (gb_mup ex_4 j_2434 (by decide) hm)
set_option maxHeartbeats 4000000 in
theorem ct_java_util_Arrays_fill_c118 {n : Nat} (hn : gb_N ≤ n) {σ : gb_S} {p2 : Int32} (hT : gb_TC σ) : gb_tc (cs_java_util_Arrays_fill_c118 n σ p2) (fun s _ => gb_TC s ∧ True) := by
  unfold cs_java_util_Arrays_fill_c118
  exact ct_java_util_Arrays_fill_c118_5 hn (fun _ _ hT h => ⟨hT, h⟩) n _ _ _ _ hT (gb_it _) (gb_iw (lo := 0) (hi := 5) (gb_ic (a := 0) (by decide)) (by decide)) (gb_ic (a := 5) (by decide)) (gb_fuu hn (gb_iw (lo := 0) (hi := 5) (gb_ic (a := 0) (by decide)) (by decide)) (by decide))
set_option maxHeartbeats 4000000 in
theorem ct_java_util_Arrays_fill_c119_5 {n : Nat} (hn : gb_N ≤ n) {Q : gb_S → Unit → Prop} (hret : ∀ (σ : gb_S) (r : Unit), gb_TC σ → True → Q σ r) : ∀ (mm : Nat) (σ : gb_S) (v1 : Int32) (v2 : Int32) (v3 : Int32), gb_TC σ → gb_iv (-2147483648) 2147483647 v1 → gb_iv 0 40 v2 → gb_iv 40 40 v3 → (40 - v2.toInt).toNat < mm → gb_tc (cs_java_util_Arrays_fill_c119_5 n mm σ v1 v2 v3) Q := by
  intro mm
  induction mm with
  | zero =>
    intro σ v1 v2 v3 hT iv1 iv2 iv3 hm
    exact absurd hm (Nat.not_lt_zero _)
  | succ mm ih =>
    intro σ v1 v2 v3 hT iv1 iv2 iv3 hm
    rw [cs_java_util_Arrays_fill_c119_5]
    refine gc_if (fun c_2517 => ?_) (fun c_2517 => ?_)
    · have j_2518 : gb_iv 40 40 v2 := (gb_rL (lo := 40) (hi := 40) (gb_dle c_2517) iv2 iv3 (by decide))
      exact gc_some (hret _ _ hT trivial)
    · have j_2519 : gb_iv 0 39 v2 := (gb_rU (lo := 0) (hi := 39) (gb_dnle c_2517) iv2 iv3 (by decide))
      refine gc_ck j_2519 (by decide) ?_
      refine gc_ltT (gc_su0 hT (rfl : gc_cat 119 = 0)) (fun s_3 es_3 hTs_3 => ?_)
      refine gc_lti (lo := 1) (hi := 40) (gb_iadd (lo := 1) (hi := 40) j_2519 (gb_ic (a := 1) (by decide)) (by decide)) (fun x_4 ex_4 ix_4 => ?_)
      exact ih _ _ _ _ hTs_3 (gb_it _) (gb_iw (lo := 0) (hi := 40) ix_4 (by decide)) iv3 (gb_mup ex_4 j_2519 (by decide) hm)
set_option maxHeartbeats 4000000 in
theorem ct_java_util_Arrays_fill_c119 {n : Nat} (hn : gb_N ≤ n) {σ : gb_S} {p2 : Int32} (hT : gb_TC σ) : gb_tc (cs_java_util_Arrays_fill_c119 n σ p2) (fun s _ => gb_TC s ∧ True) := by
  unfold cs_java_util_Arrays_fill_c119
  exact ct_java_util_Arrays_fill_c119_5 hn (fun _ _ hT h => ⟨hT, h⟩) n _ _ _ _ hT (gb_it _) (gb_iw (lo := 0) (hi := 40) (gb_ic (a := 0) (by decide)) (by decide)) (gb_ic (a := 40) (by decide)) (gb_fuu hn (gb_iw (lo := 0) (hi := 40) (gb_ic (a := 0) (by decide)) (by decide)) (by decide))
set_option maxHeartbeats 4000000 in
theorem ct_Play_begin_B_7 {n : Nat} (hn : gb_N ≤ n) {Q : gb_S → Unit → Prop} (hret : ∀ (σ : gb_S) (r : Unit), gb_TC σ → True → Q σ r) : ∀ (mm : Nat) (σ : gb_S) (v1 : Nat) (v2 : Int32), gb_TC σ → gb_kB v1 = true → gb_iv 0 8 v2 → (8 - v2.toInt).toNat < mm → gb_tc (cs_Play_begin_B_7 n mm σ v1 v2) Q := by
  intro mm
  induction mm with
  | zero =>
    intro σ v1 v2 hT hv1 iv2 hm
    exact absurd hm (Nat.not_lt_zero _)
  | succ mm ih =>
    intro σ v1 v2 hT hv1 iv2 hm
    rw [cs_Play_begin_B_7]
    refine gc_kk hv1 ?_
    refine gc_if (fun c_2796 => ?_) (fun c_2796 => ?_)
    · have j_2797 : gb_iv 8 8 v2 := (gb_rL (lo := 8) (hi := 8) (gb_dle c_2796) iv2 (gb_ic (a := 8) (by decide)) (by decide))
      refine gc_cdT (ct_java_util_Arrays_fill_c116 hn hT) (fun s_5 u_2798 hTs_5 _ => ?_)
      refine gc_cdT (ct_java_util_Arrays_fill_c117 hn hTs_5) (fun s_9 u_2799 hTs_9 _ => ?_)
      refine gc_cdT (ct_java_util_Arrays_fill_c118 hn hTs_9) (fun s_13 u_2800 hTs_13 _ => ?_)
      refine gc_cdT (ct_java_util_Arrays_fill_c119 hn hTs_13) (fun s_17 u_2801 hTs_17 _ => ?_)
      refine gc_ltT (gc_su (c := 10) (lo := (-2147483648)) (hi := 2147483647) hTs_17 (rfl : gc_cat 109 = 10) (gb_iw (lo := (-2147483648)) (hi := 2147483647) (gb_ic (a := 0) (by decide)) (by decide)) (by decide)) (fun s_21 es_21 hTs_21 => ?_)
      refine gc_ltT (gc_su (c := 10) (lo := (-2147483648)) (hi := 2147483647) hTs_21 (rfl : gc_cat 109 = 10) (gb_iw (lo := (-2147483648)) (hi := 2147483647) (gb_ic (a := 0) (by decide)) (by decide)) (by decide)) (fun s_22 es_22 hTs_22 => ?_)
      refine gc_ltT (gc_su (c := 10) (lo := 0) (hi := 24) hTs_22 (rfl : gc_cat 109 = 10) (gb_iw (lo := 0) (hi := 24) (gb_ic (a := 0) (by decide)) (by decide)) (by decide)) (fun s_23 es_23 hTs_23 => ?_)
      exact gc_some (hret _ _ hTs_23 trivial)
    · have j_2802 : gb_iv 0 7 v2 := (gb_rU (lo := 0) (hi := 7) (gb_dnle c_2796) iv2 (gb_ic (a := 8) (by decide)) (by decide))
      refine gc_ck j_2802 (by decide) ?_
      refine gc_ltT (gc_su0 hT (rfl : gc_cat 112 = 0)) (fun s_25 es_25 hTs_25 => ?_)
      refine gc_cdP (ct_Border_hasGoose_B hn hTs_25 hv1) (fun r_27 qr_27 h_2803 => ?_)
      refine gc_if (fun c_2804 => ?_) (fun c_2804 => ?_)
      · have j_2805 : gb_iv 0 0 r_27 := (gb_rU (lo := 0) (hi := 0) (gb_deq c_2804) h_2803.1 (gb_ic (a := 0) (by decide)) (by decide))
        refine gc_ck j_2802 (by decide) ?_
        refine gc_ltT (gc_su0 hTs_25 (rfl : gc_cat 113 = 0)) (fun s_32 es_32 hTs_32 => ?_)
        refine gc_ck j_2802 (by decide) ?_
        refine gc_ltT (gc_su0 hTs_32 (rfl : gc_cat 114 = 0)) (fun s_34 es_34 hTs_34 => ?_)
        refine gc_ck j_2802 (by decide) ?_
        refine gc_ltT (gc_su0 hTs_34 (rfl : gc_cat 115 = 0)) (fun s_36 es_36 hTs_36 => ?_)
        refine gc_lti (lo := 1) (hi := 8) (gb_iadd (lo := 1) (hi := 8) j_2802 (gb_ic (a := 1) (by decide)) (by decide)) (fun x_37 ex_37 ix_37 => ?_)
        exact ih _ _ _ hTs_36 hv1 (gb_iw (lo := 0) (hi := 8) ix_37 (by decide)) (gb_mup ex_37 j_2802 (by decide) hm)
      · have j_2806 : gb_iv 1 1 r_27 := (gb_rN (lo := 1) (hi := 1) (v := 0) c_2804 h_2803.1 (by decide) (by decide))
        refine gc_cdP (ct_Border_boots_B hn hTs_25 hv1 j_2802) (fun r_39 qr_39 h_2807 => ?_)
        refine gc_ck j_2802 (by decide) ?_
        refine gc_ltT (gc_su0 hTs_25 (rfl : gc_cat 113 = 0)) (fun s_43 es_43 hTs_43 => ?_)
        refine gc_ck j_2802 (by decide) ?_
        refine gc_ltT (gc_su0 hTs_43 (rfl : gc_cat 114 = 0)) (fun s_45 es_45 hTs_45 => ?_)
        refine gc_ck j_2802 (by decide) ?_
        refine gc_ltT (gc_su0 hTs_45 (rfl : gc_cat 115 = 0)) (fun s_47 es_47 hTs_47 => ?_)
        refine gc_lti (lo := 1) (hi := 8) (gb_iadd (lo := 1) (hi := 8) j_2802 (gb_ic (a := 1) (by decide)) (by decide)) (fun x_48 ex_48 ix_48 => ?_)
        exact ih _ _ _ hTs_47 hv1 (gb_iw (lo := 0) (hi := 8) ix_48 (by decide)) (gb_mup ex_48 j_2802 (by decide) hm)
set_option maxHeartbeats 4000000 in
theorem ct_Play_begin_B {n : Nat} (hn : gb_N ≤ n) {σ : gb_S} {p1 : Nat} (hT : gb_TC σ) (hp1 : gb_kB p1 = true) : gb_tc (cs_Play_begin_B n σ p1) (fun s _ => gb_TC s ∧ True) := by
  unfold cs_Play_begin_B
  refine gc_kk hp1 ?_
  refine gc_ltT (gc_sq1 hT hp1) (fun s_2 es_2 hTs_2 => ?_)
  exact ct_Play_begin_B_7 hn (fun _ _ hT h => ⟨hT, h⟩) n _ _ _ hTs_2 hp1 (gb_iw (lo := 0) (hi := 8) (gb_ic (a := 0) (by decide)) (by decide)) (gb_fuu hn (gb_iw (lo := 0) (hi := 8) (gb_ic (a := 0) (by decide)) (by decide)) (by decide))
set_option maxHeartbeats 4000000 in
theorem ct_Lines_kind_N {n : Nat} (hn : gb_N ≤ n) {σ : gb_S} {k0 : Nat} {p1 : Int32} (hT : gb_TC σ) (hk0 : gb_kN k0 = true) (ip1 : gb_iv 0 23 p1) : gb_tc (cs_Lines_kind_N n σ k0 p1) (fun s r => s = σ ∧ gb_iv (-2147483648) 2147483647 r) := by
  unfold cs_Lines_kind_N
  refine gc_kk hk0 ?_
  refine gc_cdP (ct_Lines_cell_N hn hT hk0 ip1 (gb_iw (lo := 0) (hi := 3) (gb_ic (a := 0) (by decide)) (by decide))) (fun r_3 qr_3 h_2809 => ?_)
  exact gc_some ⟨rfl, (gb_it _)⟩
set_option maxHeartbeats 4000000 in
theorem ct_Play_stands {n : Nat} (hn : gb_N ≤ n) {σ : gb_S} {p1 : Int32} {p2 : Int32} (hT : gb_TC σ) : gb_tc (cs_Play_stands n σ p1 p2) (fun s r => s = σ ∧ (gb_iv 0 1 r ∧ (¬ r = 0 → gb_iv 0 7 p1))) := by
  unfold cs_Play_stands
  refine gc_kk (gc_q1 hT) ?_
  refine gc_cdP (ct_Border_hasGoose_B hn hT (gc_q1 hT)) (fun r_3 qr_3 h_2816 => ?_)
  refine gc_if (fun c_2817 => ?_) (fun c_2817 => ?_)
  · have j_2818 : gb_iv 0 0 r_3 := (gb_rU (lo := 0) (hi := 0) (gb_deq c_2817) h_2816.1 (gb_ic (a := 0) (by decide)) (by decide))
    exact gc_some ⟨rfl, ⟨(gb_iw (lo := 0) (hi := 1) (gb_ic (a := 0) (by decide)) (by decide)), (fun h => absurd rfl h)⟩⟩
  · have j_2819 : gb_iv 1 1 r_3 := (gb_rN (lo := 1) (hi := 1) (v := 0) c_2817 h_2816.1 (by decide) (by decide))
    have j_2820 : gb_iv 0 7 p1 := (h_2816.2 c_2817)
    refine gc_ck j_2820 (by decide) ?_
    refine gc_lti (lo := (-2147483648)) (hi := 2147483647) (gb_it _) (fun x_8 ex_8 ix_8 => ?_)
    refine gc_if (fun c_2821 => ?_) (fun c_2821 => ?_)
    · exact gc_some ⟨rfl, ⟨(gb_iw (lo := 0) (hi := 1) (gb_ic (a := 1) (by decide)) (by decide)), (fun _ => j_2820)⟩⟩
    · exact gc_some ⟨rfl, ⟨(gb_iw (lo := 0) (hi := 1) (gb_ic (a := 0) (by decide)) (by decide)), (fun h => absurd rfl h)⟩⟩
set_option maxHeartbeats 4000000 in
theorem ct_Play_latestGoer_7 {n : Nat} (hn : gb_N ≤ n) {Q : gb_S → Int32 → Prop} {σ : gb_S} (hT : gb_TC σ) (hret : ∀ (r : Int32), gb_iv (-1) 7 r → Q σ r) : ∀ (mm : Nat) (v1 : Int32) (v2 : Int32) (v3 : Int32) (v4 : Int32), gb_iv 0 4 v1 → gb_iv 0 2147483647 v2 → gb_iv (-1) 7 v3 → gb_iv 0 8 v4 → (8 - v4.toInt).toNat < mm → gb_tc (cs_Play_latestGoer_7 n mm σ v1 v2 v3 v4) Q := by
  intro mm
  induction mm with
  | zero =>
    intro v1 v2 v3 v4 iv1 iv2 iv3 iv4 hm
    exact absurd hm (Nat.not_lt_zero _)
  | succ mm ih =>
    intro v1 v2 v3 v4 iv1 iv2 iv3 iv4 hm
    rw [cs_Play_latestGoer_7]
    refine gc_kk (gc_q1 hT) ?_
    refine gc_cdP (ct_Border_geese_B hn hT (gc_q1 hT)) (fun r_3 qr_3 h_3122 => ?_)
    refine gc_if (fun c_3123 => ?_) (fun c_3123 => ?_)
    · exact gc_some (hret _ iv3)
    · have j_3124 : gb_iv 0 7 v4 := (gb_rU (lo := 0) (hi := 7) (gb_dnle c_3123) iv4 h_3122 (by decide))
      have j_3125 : gb_iv 1 8 r_3 := (gb_rL (lo := 1) (hi := 8) (gb_dnle c_3123) h_3122 j_3124 (by decide))
      refine gc_ck (gb_iadd (lo := 0) (hi := 39) (gb_imul (lo := 0) (hi := 32) iv1 (gb_ic (a := 8) (by decide)) (by decide)) j_3124 (by decide)) (by decide) ?_
      refine gc_lti (lo := (-2147483648)) (hi := 2147483647) (gb_it _) (fun x_8 ex_8 ix_8 => ?_)
      refine gc_if (fun c_3126 => ?_) (fun c_3126 => ?_)
      · refine gc_lti (lo := 1) (hi := 8) (gb_iadd (lo := 1) (hi := 8) j_3124 (gb_ic (a := 1) (by decide)) (by decide)) (fun x_10 ex_10 ix_10 => ?_)
        exact ih _ _ _ _ iv1 iv2 iv3 (gb_iw (lo := 0) (hi := 8) ix_10 (by decide)) (gb_mup ex_10 j_3124 (by decide) hm)
      · have j_3127 : gb_iv 0 2147483646 v2 := (gb_rU (lo := 0) (hi := 2147483646) (gb_dnle c_3126) iv2 (gb_it _) (by decide))
        have j_3128 : gb_iv 1 2147483647 x_8 := (gb_rL (lo := 1) (hi := 2147483647) (gb_dnle c_3126) (gb_it _) j_3127 (by decide))
        refine gc_ck j_3124 (by decide) ?_
        refine gc_lti (lo := (-2147483648)) (hi := 2147483647) (gb_it _) (fun x_12 ex_12 ix_12 => ?_)
        refine gc_if (fun c_3129 => ?_) (fun c_3129 => ?_)
        · have j_3130 : gb_iv (-2147483648) 2 x_12 := (gb_rU (lo := (-2147483648)) (hi := 2) (gb_deq c_3129) (gb_it _) (gb_ic (a := 2) (by decide)) (by decide))
          have j_3131 : gb_iv 2 2 x_12 := (gb_rL (lo := 2) (hi := 2) (gb_deq2 c_3129) j_3130 (gb_ic (a := 2) (by decide)) (by decide))
          refine gc_lti (lo := 1) (hi := 8) (gb_iadd (lo := 1) (hi := 8) j_3124 (gb_ic (a := 1) (by decide)) (by decide)) (fun x_14 ex_14 ix_14 => ?_)
          exact ih _ _ _ _ iv1 (gb_iw (lo := 0) (hi := 2147483647) j_3127 (by decide)) iv3 (gb_iw (lo := 0) (hi := 8) ix_14 (by decide)) (gb_mup ex_14 j_3124 (by decide) hm)
        · refine gc_lti (lo := 1) (hi := 8) (gb_iadd (lo := 1) (hi := 8) j_3124 (gb_ic (a := 1) (by decide)) (by decide)) (fun x_15 ex_15 ix_15 => ?_)
          exact ih _ _ _ _ iv1 (gb_iw (lo := 0) (hi := 2147483647) j_3128 (by decide)) (gb_iw (lo := (-1)) (hi := 7) j_3124 (by decide)) (gb_iw (lo := 0) (hi := 8) ix_15 (by decide)) (gb_mup ex_15 j_3124 (by decide) hm)
set_option maxHeartbeats 4000000 in
theorem ct_Play_latestGoer {n : Nat} (hn : gb_N ≤ n) {σ : gb_S} {p1 : Int32} (hT : gb_TC σ) (ip1 : gb_iv 0 4 p1) : gb_tc (cs_Play_latestGoer n σ p1) (fun s r => s = σ ∧ gb_iv (-1) 7 r) := by
  unfold cs_Play_latestGoer
  exact ct_Play_latestGoer_7 hn hT (fun _ h => ⟨rfl, h⟩) n _ _ _ _ ip1 (gb_iw (lo := 0) (hi := 2147483647) (gb_ic (a := 0) (by decide)) (by decide)) (gb_iw (lo := (-1)) (hi := 7) (gb_ic (a := (-1)) (by decide)) (by decide)) (gb_iw (lo := 0) (hi := 8) (gb_ic (a := 0) (by decide)) (by decide)) (gb_fuu hn (gb_iw (lo := 0) (hi := 8) (gb_ic (a := 0) (by decide)) (by decide)) (by decide))
set_option maxHeartbeats 4000000 in
theorem ct_Play_go_n_95 {n : Nat} (hn : gb_N ≤ n) {Q : gb_S → Unit → Prop} (hret : ∀ (σ : gb_S) (r : Unit), gb_TC σ → True → Q σ r) : ∀ (σ : gb_S) (v1 : Int32) (v2 : Int32) (v3 : Int32) (t0 : Int32) (t1 : Int32), gb_TC σ → gb_iv 0 7 v1 → gb_iv 0 4 v2 → gb_iv (-2147483648) 2147483647 v3 → gb_iv 1 1 t0 → gb_iv 0 7 t1 → gb_tc (cs_Play_go_n_95 n σ v1 v2 v3 t0 t1) Q := by
  intro σ v1 v2 v3 t0 t1 hT iv1 iv2 iv3 it0 it1
  unfold cs_Play_go_n_95
  refine gc_ck it1 (by decide) ?_
  refine gc_ltT (gc_su0 hT (rfl : gc_cat 112 = 0)) (fun s_26 es_26 hTs_26 => ?_)
  refine gc_ck iv1 (by decide) ?_
  refine gc_ltT (gc_su0 hTs_26 (rfl : gc_cat 115 = 0)) (fun s_28 es_28 hTs_28 => ?_)
  refine gc_ck (gb_iadd (lo := 0) (hi := 39) (gb_imul (lo := 0) (hi := 32) iv2 (gb_ic (a := 8) (by decide)) (by decide)) iv1 (by decide)) (by decide) ?_
  refine gc_ltT (gc_su0 hTs_28 (rfl : gc_cat 119 = 0)) (fun s_30 es_30 hTs_30 => ?_)
  exact gc_some (hret _ _ hTs_30 trivial)
set_option maxHeartbeats 4000000 in
theorem ct_Play_go_n_95_i1 {n : Nat} (hn : gb_N ≤ n) {Q : gb_S → Unit → Prop} (hret : ∀ (σ : gb_S) (r : Unit), gb_TC σ → True → Q σ r) : ∀ (σ : gb_S) (v1 : Int32) (v2 : Int32) (v3 : Int32) (t0 : Int32) (t1 : Int32), gb_TC σ → gb_iv 0 7 v1 → gb_iv 0 4 v2 → gb_iv (-2147483648) 2147483647 v3 → gb_iv 0 0 t0 → gb_iv 0 7 t1 → gb_tc (cs_Play_go_n_95 n σ v1 v2 v3 t0 t1) Q := by
  intro σ v1 v2 v3 t0 t1 hT iv1 iv2 iv3 it0 it1
  unfold cs_Play_go_n_95
  refine gc_ck it1 (by decide) ?_
  refine gc_ltT (gc_su0 hT (rfl : gc_cat 112 = 0)) (fun s_26 es_26 hTs_26 => ?_)
  refine gc_ck iv1 (by decide) ?_
  refine gc_ltT (gc_su0 hTs_26 (rfl : gc_cat 115 = 0)) (fun s_28 es_28 hTs_28 => ?_)
  refine gc_ck (gb_iadd (lo := 0) (hi := 39) (gb_imul (lo := 0) (hi := 32) iv2 (gb_ic (a := 8) (by decide)) (by decide)) iv1 (by decide)) (by decide) ?_
  refine gc_ltT (gc_su0 hTs_28 (rfl : gc_cat 119 = 0)) (fun s_30 es_30 hTs_30 => ?_)
  exact gc_some (hret _ _ hTs_30 trivial)
set_option maxHeartbeats 4000000 in
theorem ct_Play_go_n_46 {n : Nat} (hn : gb_N ≤ n) {Q : gb_S → Unit → Prop} (hret : ∀ (σ : gb_S) (r : Unit), gb_TC σ → True → Q σ r) : ∀ (σ : gb_S) (v1 : Int32) (v2 : Int32) (v3 : Int32) (v5 : Int32) (v6 : Int32), gb_TC σ → gb_iv 0 7 v1 → gb_iv 0 4 v2 → gb_iv (-2147483648) 2147483647 v3 → gb_iv (-2147483648) 2147483647 v5 → gb_iv (-2147483648) 2147483647 v6 → gb_tc (cs_Play_go_n_46 n σ v1 v2 v3 v5 v6) Q := by
  intro σ v1 v2 v3 v5 v6 hT iv1 iv2 iv3 iv5 iv6
  unfold cs_Play_go_n_46
  refine gc_ck iv1 (by decide) ?_
  refine gc_lti (lo := (-2147483648)) (hi := 2147483647) (gb_it _) (fun x_14 ex_14 ix_14 => ?_)
  refine gc_lti (lo := 0) (hi := 2147483647) (gb_imax (lo := 0) (hi := 2147483647) (gb_ic (a := 0) (by decide)) (gb_it _) (by decide)) (fun x_15 ex_15 ix_15 => ?_)
  refine gc_ck iv1 (by decide) ?_
  refine gc_ltT (gc_su0 hT (rfl : gc_cat 113 = 0)) (fun s_17 es_17 hTs_17 => ?_)
  refine gc_ck iv1 (by decide) ?_
  refine gc_lti (lo := (-2147483648)) (hi := 2147483647) (gb_it _) (fun x_19 ex_19 ix_19 => ?_)
  refine gc_ck iv1 (by decide) ?_
  refine gc_ltT (gc_su0 hTs_17 (rfl : gc_cat 114 = 0)) (fun s_21 es_21 hTs_21 => ?_)
  refine gc_ck iv1 (by decide) ?_
  refine gc_lti (lo := (-2147483648)) (hi := 2147483647) (gb_it _) (fun x_23 ex_23 ix_23 => ?_)
  refine gc_if (fun c_3139 => ?_) (fun c_3139 => ?_)
  · have j_3140 : gb_iv (-2147483648) 0 x_23 := (gb_rU (lo := (-2147483648)) (hi := 0) (gb_deq c_3139) (gb_it _) (gb_ic (a := 0) (by decide)) (by decide))
    have j_3141 : gb_iv 0 0 x_23 := (gb_rL (lo := 0) (hi := 0) (gb_deq2 c_3139) j_3140 (gb_ic (a := 0) (by decide)) (by decide))
    exact ct_Play_go_n_95 hn hret _ _ _ _ _ _ hTs_21 iv1 iv2 (gb_it _) (gb_ic (a := 1) (by decide)) iv1
  · exact ct_Play_go_n_95_i1 hn hret _ _ _ _ _ _ hTs_21 iv1 iv2 (gb_it _) (gb_ic (a := 0) (by decide)) iv1
set_option maxHeartbeats 4000000 in
theorem ct_Play_go_n {n : Nat} (hn : gb_N ≤ n) {σ : gb_S} {p1 : Int32} {p2 : Int32} {p3 : Int32} (hT : gb_TC σ) (ip1 : gb_iv 0 7 p1) (ip2 : gb_iv 0 4 p2) : gb_tc (cs_Play_go_n n σ p1 p2 p3) (fun s _ => gb_TC s ∧ True) := by
  unfold cs_Play_go_n
  refine gc_kk (gc_q1 hT) ?_
  refine gc_cdP (ct_Border_miles_B hn hT (gc_q1 hT) ip2) (fun r_3 qr_3 h_3137 => ?_)
  refine gc_kk (gc_q1 hT) ?_
  refine gc_ck ip1 (by decide) ?_
  refine gc_lti (lo := (-2147483648)) (hi := 2147483647) (gb_it _) (fun x_8 ex_8 ix_8 => ?_)
  refine gc_cdP (ct_Border_marksOver_B hn hT (gc_q1 hT) ip1) (fun r_10 qr_10 h_3138 => ?_)
  exact ct_Play_go_n_46 hn (fun _ _ hT h => ⟨hT, h⟩) _ _ _ _ _ _ hT ip1 ip2 (gb_it _) (gb_it _) (gb_it _)
set_option maxHeartbeats 4000000 in
theorem ct_Play_go_c116_95 {n : Nat} (hn : gb_N ≤ n) {Q : gb_S → Unit → Prop} (hret : ∀ (σ : gb_S) (r : Unit), gb_TC σ → True → Q σ r) : ∀ (σ : gb_S) (v1 : Int32) (v2 : Int32) (v3 : Int32) (t0 : Int32) (t1 : Int32), gb_TC σ → gb_iv 0 7 v1 → gb_iv 0 4 v2 → gb_iv (-2147483648) 2147483647 v3 → gb_iv 1 1 t0 → gb_iv 0 7 t1 → gb_tc (cs_Play_go_c116_95 n σ v1 v2 v3 t0 t1) Q := by
  intro σ v1 v2 v3 t0 t1 hT iv1 iv2 iv3 it0 it1
  unfold cs_Play_go_c116_95
  refine gc_ck it1 (by decide) ?_
  refine gc_ltT (gc_su0 hT (rfl : gc_cat 112 = 0)) (fun s_30 es_30 hTs_30 => ?_)
  refine gc_ck iv1 (by decide) ?_
  refine gc_ltT (gc_su0 hTs_30 (rfl : gc_cat 115 = 0)) (fun s_32 es_32 hTs_32 => ?_)
  refine gc_ck (gb_iadd (lo := 0) (hi := 39) (gb_imul (lo := 0) (hi := 32) iv2 (gb_ic (a := 8) (by decide)) (by decide)) iv1 (by decide)) (by decide) ?_
  refine gc_ltT (gc_su0 hTs_32 (rfl : gc_cat 119 = 0)) (fun s_34 es_34 hTs_34 => ?_)
  exact gc_some (hret _ _ hTs_34 trivial)
set_option maxHeartbeats 4000000 in
theorem ct_Play_go_c116_95_i1 {n : Nat} (hn : gb_N ≤ n) {Q : gb_S → Unit → Prop} (hret : ∀ (σ : gb_S) (r : Unit), gb_TC σ → True → Q σ r) : ∀ (σ : gb_S) (v1 : Int32) (v2 : Int32) (v3 : Int32) (t0 : Int32) (t1 : Int32), gb_TC σ → gb_iv 0 7 v1 → gb_iv 0 4 v2 → gb_iv (-2147483648) 2147483647 v3 → gb_iv 0 0 t0 → gb_iv 0 7 t1 → gb_tc (cs_Play_go_c116_95 n σ v1 v2 v3 t0 t1) Q := by
  intro σ v1 v2 v3 t0 t1 hT iv1 iv2 iv3 it0 it1
  unfold cs_Play_go_c116_95
  refine gc_ck it1 (by decide) ?_
  refine gc_ltT (gc_su0 hT (rfl : gc_cat 112 = 0)) (fun s_30 es_30 hTs_30 => ?_)
  refine gc_ck iv1 (by decide) ?_
  refine gc_ltT (gc_su0 hTs_30 (rfl : gc_cat 115 = 0)) (fun s_32 es_32 hTs_32 => ?_)
  refine gc_ck (gb_iadd (lo := 0) (hi := 39) (gb_imul (lo := 0) (hi := 32) iv2 (gb_ic (a := 8) (by decide)) (by decide)) iv1 (by decide)) (by decide) ?_
  refine gc_ltT (gc_su0 hTs_32 (rfl : gc_cat 119 = 0)) (fun s_34 es_34 hTs_34 => ?_)
  exact gc_some (hret _ _ hTs_34 trivial)
set_option maxHeartbeats 4000000 in
theorem ct_Play_go_c116_46 {n : Nat} (hn : gb_N ≤ n) {Q : gb_S → Unit → Prop} (hret : ∀ (σ : gb_S) (r : Unit), gb_TC σ → True → Q σ r) : ∀ (σ : gb_S) (v1 : Int32) (v2 : Int32) (v3 : Int32) (v5 : Int32) (v6 : Int32), gb_TC σ → gb_iv 0 7 v1 → gb_iv 0 4 v2 → gb_iv (-2147483648) 2147483647 v3 → gb_iv (-2147483648) 2147483647 v5 → gb_iv (-2147483648) 2147483647 v6 → gb_tc (cs_Play_go_c116_46 n σ v1 v2 v3 v5 v6) Q := by
  intro σ v1 v2 v3 v5 v6 hT iv1 iv2 iv3 iv5 iv6
  unfold cs_Play_go_c116_46
  refine gc_ck iv1 (by decide) ?_
  refine gc_lti (lo := (-2147483648)) (hi := 2147483647) (gb_it _) (fun x_18 ex_18 ix_18 => ?_)
  refine gc_lti (lo := 0) (hi := 2147483647) (gb_imax (lo := 0) (hi := 2147483647) (gb_ic (a := 0) (by decide)) (gb_it _) (by decide)) (fun x_19 ex_19 ix_19 => ?_)
  refine gc_ck iv1 (by decide) ?_
  refine gc_ltT (gc_su0 hT (rfl : gc_cat 113 = 0)) (fun s_21 es_21 hTs_21 => ?_)
  refine gc_ck iv1 (by decide) ?_
  refine gc_lti (lo := (-2147483648)) (hi := 2147483647) (gb_it _) (fun x_23 ex_23 ix_23 => ?_)
  refine gc_ck iv1 (by decide) ?_
  refine gc_ltT (gc_su0 hTs_21 (rfl : gc_cat 114 = 0)) (fun s_25 es_25 hTs_25 => ?_)
  refine gc_ck iv1 (by decide) ?_
  refine gc_lti (lo := (-2147483648)) (hi := 2147483647) (gb_it _) (fun x_27 ex_27 ix_27 => ?_)
  refine gc_if (fun c_3149 => ?_) (fun c_3149 => ?_)
  · have j_3150 : gb_iv (-2147483648) 0 x_27 := (gb_rU (lo := (-2147483648)) (hi := 0) (gb_deq c_3149) (gb_it _) (gb_ic (a := 0) (by decide)) (by decide))
    have j_3151 : gb_iv 0 0 x_27 := (gb_rL (lo := 0) (hi := 0) (gb_deq2 c_3149) j_3150 (gb_ic (a := 0) (by decide)) (by decide))
    exact ct_Play_go_c116_95 hn hret _ _ _ _ _ _ hTs_25 iv1 iv2 (gb_it _) (gb_ic (a := 1) (by decide)) iv1
  · exact ct_Play_go_c116_95_i1 hn hret _ _ _ _ _ _ hTs_25 iv1 iv2 (gb_it _) (gb_ic (a := 0) (by decide)) iv1
set_option maxHeartbeats 4000000 in
theorem ct_Play_go_c116 {n : Nat} (hn : gb_N ≤ n) {σ : gb_S} {p1 : Int32} {p2 : Int32} {p3 : Int32} (hT : gb_TC σ) (ip1 : gb_iv 0 7 p1) (ip2 : gb_iv 0 4 p2) : gb_tc (cs_Play_go_c116 n σ p1 p2 p3) (fun s _ => gb_TC s ∧ True) := by
  unfold cs_Play_go_c116
  refine gc_kk (gc_q1 hT) ?_
  refine gc_cdP (ct_Border_miles_B hn hT (gc_q1 hT) ip2) (fun r_3 qr_3 h_3147 => ?_)
  refine gc_kk (gc_q1 hT) ?_
  refine gc_ck ip1 (by decide) ?_
  refine gc_lti (lo := (-2147483648)) (hi := 2147483647) (gb_it _) (fun x_8 ex_8 ix_8 => ?_)
  refine gc_cdP (ct_Border_marksOver_B hn hT (gc_q1 hT) ip1) (fun r_10 qr_10 h_3148 => ?_)
  refine gc_ck ip2 (by decide) ?_
  refine gc_lti (lo := (-2147483648)) (hi := 2147483647) (gb_it _) (fun x_14 ex_14 ix_14 => ?_)
  refine gc_ck ip2 (by decide) ?_
  refine gc_ltT (gc_su0 hT (rfl : gc_cat 116 = 0)) (fun s_16 es_16 hTs_16 => ?_)
  exact ct_Play_go_c116_46 hn (fun _ _ hT h => ⟨hT, h⟩) _ _ _ _ _ _ hTs_16 ip1 ip2 (gb_it _) (gb_it _) (gb_it _)
set_option maxHeartbeats 4000000 in
theorem ct_Play_go_c117_95 {n : Nat} (hn : gb_N ≤ n) {Q : gb_S → Unit → Prop} (hret : ∀ (σ : gb_S) (r : Unit), gb_TC σ → True → Q σ r) : ∀ (σ : gb_S) (v1 : Int32) (v2 : Int32) (v3 : Int32) (t0 : Int32) (t1 : Int32), gb_TC σ → gb_iv 0 7 v1 → gb_iv 0 4 v2 → gb_iv (-2147483648) 2147483647 v3 → gb_iv 1 1 t0 → gb_iv 0 7 t1 → gb_tc (cs_Play_go_c117_95 n σ v1 v2 v3 t0 t1) Q := by
  intro σ v1 v2 v3 t0 t1 hT iv1 iv2 iv3 it0 it1
  unfold cs_Play_go_c117_95
  refine gc_ck it1 (by decide) ?_
  refine gc_ltT (gc_su0 hT (rfl : gc_cat 112 = 0)) (fun s_30 es_30 hTs_30 => ?_)
  refine gc_ck iv1 (by decide) ?_
  refine gc_ltT (gc_su0 hTs_30 (rfl : gc_cat 115 = 0)) (fun s_32 es_32 hTs_32 => ?_)
  refine gc_ck (gb_iadd (lo := 0) (hi := 39) (gb_imul (lo := 0) (hi := 32) iv2 (gb_ic (a := 8) (by decide)) (by decide)) iv1 (by decide)) (by decide) ?_
  refine gc_ltT (gc_su0 hTs_32 (rfl : gc_cat 119 = 0)) (fun s_34 es_34 hTs_34 => ?_)
  exact gc_some (hret _ _ hTs_34 trivial)
set_option maxHeartbeats 4000000 in
theorem ct_Play_go_c117_95_i1 {n : Nat} (hn : gb_N ≤ n) {Q : gb_S → Unit → Prop} (hret : ∀ (σ : gb_S) (r : Unit), gb_TC σ → True → Q σ r) : ∀ (σ : gb_S) (v1 : Int32) (v2 : Int32) (v3 : Int32) (t0 : Int32) (t1 : Int32), gb_TC σ → gb_iv 0 7 v1 → gb_iv 0 4 v2 → gb_iv (-2147483648) 2147483647 v3 → gb_iv 0 0 t0 → gb_iv 0 7 t1 → gb_tc (cs_Play_go_c117_95 n σ v1 v2 v3 t0 t1) Q := by
  intro σ v1 v2 v3 t0 t1 hT iv1 iv2 iv3 it0 it1
  unfold cs_Play_go_c117_95
  refine gc_ck it1 (by decide) ?_
  refine gc_ltT (gc_su0 hT (rfl : gc_cat 112 = 0)) (fun s_30 es_30 hTs_30 => ?_)
  refine gc_ck iv1 (by decide) ?_
  refine gc_ltT (gc_su0 hTs_30 (rfl : gc_cat 115 = 0)) (fun s_32 es_32 hTs_32 => ?_)
  refine gc_ck (gb_iadd (lo := 0) (hi := 39) (gb_imul (lo := 0) (hi := 32) iv2 (gb_ic (a := 8) (by decide)) (by decide)) iv1 (by decide)) (by decide) ?_
  refine gc_ltT (gc_su0 hTs_32 (rfl : gc_cat 119 = 0)) (fun s_34 es_34 hTs_34 => ?_)
  exact gc_some (hret _ _ hTs_34 trivial)
set_option maxHeartbeats 4000000 in
theorem ct_Play_go_c117_46 {n : Nat} (hn : gb_N ≤ n) {Q : gb_S → Unit → Prop} (hret : ∀ (σ : gb_S) (r : Unit), gb_TC σ → True → Q σ r) : ∀ (σ : gb_S) (v1 : Int32) (v2 : Int32) (v3 : Int32) (v5 : Int32) (v6 : Int32), gb_TC σ → gb_iv 0 7 v1 → gb_iv 0 4 v2 → gb_iv (-2147483648) 2147483647 v3 → gb_iv (-2147483648) 2147483647 v5 → gb_iv (-2147483648) 2147483647 v6 → gb_tc (cs_Play_go_c117_46 n σ v1 v2 v3 v5 v6) Q := by
  intro σ v1 v2 v3 v5 v6 hT iv1 iv2 iv3 iv5 iv6
  unfold cs_Play_go_c117_46
  refine gc_ck iv1 (by decide) ?_
  refine gc_lti (lo := (-2147483648)) (hi := 2147483647) (gb_it _) (fun x_18 ex_18 ix_18 => ?_)
  refine gc_lti (lo := 0) (hi := 2147483647) (gb_imax (lo := 0) (hi := 2147483647) (gb_ic (a := 0) (by decide)) (gb_it _) (by decide)) (fun x_19 ex_19 ix_19 => ?_)
  refine gc_ck iv1 (by decide) ?_
  refine gc_ltT (gc_su0 hT (rfl : gc_cat 113 = 0)) (fun s_21 es_21 hTs_21 => ?_)
  refine gc_ck iv1 (by decide) ?_
  refine gc_lti (lo := (-2147483648)) (hi := 2147483647) (gb_it _) (fun x_23 ex_23 ix_23 => ?_)
  refine gc_ck iv1 (by decide) ?_
  refine gc_ltT (gc_su0 hTs_21 (rfl : gc_cat 114 = 0)) (fun s_25 es_25 hTs_25 => ?_)
  refine gc_ck iv1 (by decide) ?_
  refine gc_lti (lo := (-2147483648)) (hi := 2147483647) (gb_it _) (fun x_27 ex_27 ix_27 => ?_)
  refine gc_if (fun c_3159 => ?_) (fun c_3159 => ?_)
  · have j_3160 : gb_iv (-2147483648) 0 x_27 := (gb_rU (lo := (-2147483648)) (hi := 0) (gb_deq c_3159) (gb_it _) (gb_ic (a := 0) (by decide)) (by decide))
    have j_3161 : gb_iv 0 0 x_27 := (gb_rL (lo := 0) (hi := 0) (gb_deq2 c_3159) j_3160 (gb_ic (a := 0) (by decide)) (by decide))
    exact ct_Play_go_c117_95 hn hret _ _ _ _ _ _ hTs_25 iv1 iv2 (gb_it _) (gb_ic (a := 1) (by decide)) iv1
  · exact ct_Play_go_c117_95_i1 hn hret _ _ _ _ _ _ hTs_25 iv1 iv2 (gb_it _) (gb_ic (a := 0) (by decide)) iv1
set_option maxHeartbeats 4000000 in
theorem ct_Play_go_c117 {n : Nat} (hn : gb_N ≤ n) {σ : gb_S} {p1 : Int32} {p2 : Int32} {p3 : Int32} (hT : gb_TC σ) (ip1 : gb_iv 0 7 p1) (ip2 : gb_iv 0 4 p2) : gb_tc (cs_Play_go_c117 n σ p1 p2 p3) (fun s _ => gb_TC s ∧ True) := by
  unfold cs_Play_go_c117
  refine gc_kk (gc_q1 hT) ?_
  refine gc_cdP (ct_Border_miles_B hn hT (gc_q1 hT) ip2) (fun r_3 qr_3 h_3157 => ?_)
  refine gc_kk (gc_q1 hT) ?_
  refine gc_ck ip1 (by decide) ?_
  refine gc_lti (lo := (-2147483648)) (hi := 2147483647) (gb_it _) (fun x_8 ex_8 ix_8 => ?_)
  refine gc_cdP (ct_Border_marksOver_B hn hT (gc_q1 hT) ip1) (fun r_10 qr_10 h_3158 => ?_)
  refine gc_ck ip2 (by decide) ?_
  refine gc_lti (lo := (-2147483648)) (hi := 2147483647) (gb_it _) (fun x_14 ex_14 ix_14 => ?_)
  refine gc_ck ip2 (by decide) ?_
  refine gc_ltT (gc_su0 hT (rfl : gc_cat 117 = 0)) (fun s_16 es_16 hTs_16 => ?_)
  exact ct_Play_go_c117_46 hn (fun _ _ hT h => ⟨hT, h⟩) _ _ _ _ _ _ hTs_16 ip1 ip2 (gb_it _) (gb_it _) (gb_it _)
set_option maxHeartbeats 4000000 in
theorem ct_Play_rainDown_2 {n : Nat} (hn : gb_N ≤ n) {Q : gb_S → Unit → Prop} (hret : ∀ (σ : gb_S) (r : Unit), gb_TC σ → True → Q σ r) : ∀ (mm : Nat) (σ : gb_S) (v1 : Int32) (v2 : Int32), gb_TC σ → gb_iv (-2147483648) 2147483647 v1 → gb_iv 0 5 v2 → (5 - v2.toInt).toNat < mm → gb_tc (cs_Play_rainDown_2 n mm σ v1 v2) Q := by
  intro mm
  induction mm with
  | zero =>
    intro σ v1 v2 hT iv1 iv2 hm
    exact absurd hm (Nat.not_lt_zero _)
  | succ mm ih =>
    intro σ v1 v2 hT iv1 iv2 hm
    rw [cs_Play_rainDown_2]
    refine gc_kk (gc_q1 hT) ?_
    refine gc_cdP (ct_Border_paths_B hn hT (gc_q1 hT)) (fun r_3 qr_3 h_3266 => ?_)
    refine gc_if (fun c_3267 => ?_) (fun c_3267 => ?_)
    · exact gc_some (hret _ _ hT trivial)
    · have j_3268 : gb_iv 0 4 v2 := (gb_rU (lo := 0) (hi := 4) (gb_dnle c_3267) iv2 h_3266 (by decide))
      have j_3269 : gb_iv 1 5 r_3 := (gb_rL (lo := 1) (hi := 5) (gb_dnle c_3267) h_3266 j_3268 (by decide))
      refine gc_ck j_3268 (by decide) ?_
      refine gc_lti (lo := (-2147483648)) (hi := 2147483647) (gb_it _) (fun x_8 ex_8 ix_8 => ?_)
      refine gc_lti (lo := (-2147483648)) (hi := 2147483647) (gb_it _) (fun x_9 ex_9 ix_9 => ?_)
      refine gc_ck j_3268 (by decide) ?_
      refine gc_lti (lo := (-2147483648)) (hi := 2147483647) (gb_it _) (fun x_11 ex_11 ix_11 => ?_)
      refine gc_lti (lo := (-2147483648)) (hi := 2147483647) (gb_it _) (fun x_12 ex_12 ix_12 => ?_)
      refine gc_ck j_3268 (by decide) ?_
      refine gc_lti (lo := (-2147483648)) (hi := 2147483647) (gb_it _) (fun x_14 ex_14 ix_14 => ?_)
      refine gc_ck j_3268 (by decide) ?_
      refine gc_ltT (gc_su0 hT (rfl : gc_cat 116 = 0)) (fun s_16 es_16 hTs_16 => ?_)
      refine gc_ck j_3268 (by decide) ?_
      refine gc_lti (lo := (-2147483648)) (hi := 2147483647) (gb_it _) (fun x_18 ex_18 ix_18 => ?_)
      refine gc_ck j_3268 (by decide) ?_
      refine gc_ltT (gc_su0 hTs_16 (rfl : gc_cat 117 = 0)) (fun s_20 es_20 hTs_20 => ?_)
      refine gc_ck j_3268 (by decide) ?_
      refine gc_lti (lo := (-2147483648)) (hi := 2147483647) (gb_it _) (fun x_22 ex_22 ix_22 => ?_)
      refine gc_ck j_3268 (by decide) ?_
      refine gc_ltT (gc_su0 hTs_20 (rfl : gc_cat 118 = 0)) (fun s_24 es_24 hTs_24 => ?_)
      refine gc_lti (lo := 1) (hi := 5) (gb_iadd (lo := 1) (hi := 5) j_3268 (gb_ic (a := 1) (by decide)) (by decide)) (fun x_25 ex_25 ix_25 => ?_)
      exact ih _ _ _ hTs_24 (gb_it _) (gb_iw (lo := 0) (hi := 5) ix_25 (by decide)) (gb_mup ex_25 j_3268 (by decide) hm)
set_option maxHeartbeats 4000000 in
theorem ct_Play_rainDown {n : Nat} (hn : gb_N ≤ n) {σ : gb_S} {p1 : Int32} (hT : gb_TC σ) : gb_tc (cs_Play_rainDown n σ p1) (fun s _ => gb_TC s ∧ True) := by
  unfold cs_Play_rainDown
  exact ct_Play_rainDown_2 hn (fun _ _ hT h => ⟨hT, h⟩) n _ _ _ hT (gb_it _) (gb_iw (lo := 0) (hi := 5) (gb_ic (a := 0) (by decide)) (by decide)) (gb_fuu hn (gb_iw (lo := 0) (hi := 5) (gb_ic (a := 0) (by decide)) (by decide)) (by decide))
set_option maxHeartbeats 4000000 in
theorem ct_Play_eat {n : Nat} (hn : gb_N ≤ n) {σ : gb_S} {p1 : Int32} (hT : gb_TC σ) : gb_tc (cs_Play_eat n σ p1) (fun s _ => gb_TC s ∧ True) := by
  unfold cs_Play_eat
  refine gc_kk (gc_q1 hT) ?_
  refine gc_cdP (ct_Border_hasGoose_B hn hT (gc_q1 hT)) (fun r_3 qr_3 h_3275 => ?_)
  refine gc_if (fun c_3276 => ?_) (fun c_3276 => ?_)
  · have j_3277 : gb_iv 0 0 r_3 := (gb_rU (lo := 0) (hi := 0) (gb_deq c_3276) h_3275.1 (gb_ic (a := 0) (by decide)) (by decide))
    exact gc_some ⟨hT, trivial⟩
  · have j_3278 : gb_iv 1 1 r_3 := (gb_rN (lo := 1) (hi := 1) (v := 0) c_3276 h_3275.1 (by decide) (by decide))
    have j_3279 : gb_iv 0 7 p1 := (h_3275.2 c_3276)
    refine gc_ck j_3279 (by decide) ?_
    refine gc_ltT (gc_su0 hT (rfl : gc_cat 112 = 0)) (fun s_8 es_8 hTs_8 => ?_)
    exact gc_some ⟨hTs_8, trivial⟩
set_option maxHeartbeats 4000000 in
theorem ct_Play_tally {n : Nat} (hn : gb_N ≤ n) {σ : gb_S} {p1 : Int32} (hT : gb_TC σ) (ip1 : gb_iv 0 4 p1) : gb_tc (cs_Play_tally n σ p1) (fun s r => s = σ ∧ gb_iv 0 2147483647 r) := by
  unfold cs_Play_tally
  refine gc_ck ip1 (by decide) ?_
  refine gc_lti (lo := (-2147483648)) (hi := 2147483647) (gb_it _) (fun x_2 ex_2 ix_2 => ?_)
  refine gc_ck ip1 (by decide) ?_
  refine gc_lti (lo := (-2147483648)) (hi := 2147483647) (gb_it _) (fun x_4 ex_4 ix_4 => ?_)
  refine gc_lti (lo := 0) (hi := 2147483647) (gb_imax (lo := 0) (hi := 2147483647) (gb_ic (a := 0) (by decide)) (gb_it _) (by decide)) (fun x_5 ex_5 ix_5 => ?_)
  exact gc_some ⟨rfl, ix_5⟩
set_option maxHeartbeats 4000000 in
theorem ct_Play_whoIs_4 {n : Nat} (hn : gb_N ≤ n) {Q : gb_S → Int32 → Prop} {σ : gb_S} (hT : gb_TC σ) (hret : ∀ (r : Int32), gb_iv 0 255 r → Q σ r) : ∀ (mm : Nat) (v1 : Int32) (v2 : Int32) (v3 : Int32), gb_iv (-2147483648) 2147483647 v1 → gb_iv 0 255 v2 → gb_iv 0 8 v3 → (8 - v3.toInt).toNat < mm → gb_tc (cs_Play_whoIs_4 n mm σ v1 v2 v3) Q := by
  intro mm
  induction mm with
  | zero =>
    intro v1 v2 v3 iv1 iv2 iv3 hm
    exact absurd hm (Nat.not_lt_zero _)
  | succ mm ih =>
    intro v1 v2 v3 iv1 iv2 iv3 hm
    rw [cs_Play_whoIs_4]
    refine gc_kk (gc_q1 hT) ?_
    refine gc_cdP (ct_Border_geese_B hn hT (gc_q1 hT)) (fun r_3 qr_3 h_3430 => ?_)
    refine gc_if (fun c_3431 => ?_) (fun c_3431 => ?_)
    · exact gc_some (hret _ iv2)
    · have j_3432 : gb_iv 0 7 v3 := (gb_rU (lo := 0) (hi := 7) (gb_dnle c_3431) iv3 h_3430 (by decide))
      have j_3433 : gb_iv 1 8 r_3 := (gb_rL (lo := 1) (hi := 8) (gb_dnle c_3431) h_3430 j_3432 (by decide))
      refine gc_ck j_3432 (by decide) ?_
      refine gc_lti (lo := (-2147483648)) (hi := 2147483647) (gb_it _) (fun x_8 ex_8 ix_8 => ?_)
      refine gc_if (fun c_3434 => ?_) (fun c_3434 => ?_)
      · refine gc_lti (lo := 0) (hi := 255) (gb_ior iv2 (gb_iw (lo := 0) (hi := 255) (gb_ishl (lo := 1) (hi := 128) j_3432 (by decide)) (by decide))) (fun x_11 ex_11 ix_11 => ?_)
        refine gc_lti (lo := 1) (hi := 8) (gb_iadd (lo := 1) (hi := 8) j_3432 (gb_ic (a := 1) (by decide)) (by decide)) (fun x_12 ex_12 ix_12 => ?_)
        exact ih _ _ _ (gb_it _) ix_11 (gb_iw (lo := 0) (hi := 8) ix_12 (by decide)) (gb_mup ex_12 j_3432 (by decide) hm)
      · refine gc_lti (lo := 1) (hi := 8) (gb_iadd (lo := 1) (hi := 8) j_3432 (gb_ic (a := 1) (by decide)) (by decide)) (fun x_10 ex_10 ix_10 => ?_)
        exact ih _ _ _ (gb_it _) iv2 (gb_iw (lo := 0) (hi := 8) ix_10 (by decide)) (gb_mup ex_10 j_3432 (by decide) hm)
set_option maxHeartbeats 4000000 in
theorem ct_Play_whoIs {n : Nat} (hn : gb_N ≤ n) {σ : gb_S} {p1 : Int32} (hT : gb_TC σ) : gb_tc (cs_Play_whoIs n σ p1) (fun s r => s = σ ∧ gb_iv 0 255 r) := by
  unfold cs_Play_whoIs
  exact ct_Play_whoIs_4 hn hT (fun _ h => ⟨rfl, h⟩) n _ _ _ (gb_it _) (gb_iw (lo := 0) (hi := 255) (gb_ic (a := 0) (by decide)) (by decide)) (gb_iw (lo := 0) (hi := 8) (gb_ic (a := 0) (by decide)) (by decide)) (gb_fuu hn (gb_iw (lo := 0) (hi := 8) (gb_ic (a := 0) (by decide)) (by decide)) (by decide))
set_option maxHeartbeats 4000000 in
theorem ct_Play_worn_43 {n : Nat} (hn : gb_N ≤ n) {Q : gb_S → Int32 → Prop} {σ : gb_S} (hT : gb_TC σ) {k4 : gb_S → Int32 → Int32 → gb_CR Int32} {M4 : Nat} (hk4 : ∀ (v1 : Int32) (v2 : Int32), gb_iv 0 255 v1 → gb_iv 0 8 v2 → (8 - v2.toInt).toNat < M4 → gb_tc (k4 σ v1 v2) Q) (hret : ∀ (r : Int32), gb_iv 0 255 r → Q σ r) : ∀ (v1 : Int32) (v2 : Int32) (t0 : Int32), gb_iv 0 255 v1 → gb_iv 0 7 v2 → gb_iv 1 1 t0 → (8 - v2.toInt).toNat < M4 + 1 → gb_tc (cs_Play_worn_43 n k4 σ v1 v2 t0) Q := by
  intro v1 v2 t0 iv1 iv2 it0 hm4
  unfold cs_Play_worn_43
  refine gc_if (fun c_4042 => ?_) (fun c_4042 => ?_)
  · exact (gb_em (gb_rU (lo := 1) (hi := 0) (gb_deq c_4042) it0 (gb_ic (a := 0) (by decide)) (by decide)) (by decide)).elim
  · refine gc_ck iv2 (by decide) ?_
    refine gc_lti (lo := (-2147483648)) (hi := 2147483647) (gb_it _) (fun x_16 ex_16 ix_16 => ?_)
    refine gc_if (fun c_4043 => ?_) (fun c_4043 => ?_)
    · have j_4044 : gb_iv (-2147483648) 0 x_16 := (gb_rU (lo := (-2147483648)) (hi := 0) (gb_deq c_4043) (gb_it _) (gb_ic (a := 0) (by decide)) (by decide))
      have j_4045 : gb_iv 0 0 x_16 := (gb_rL (lo := 0) (hi := 0) (gb_deq2 c_4043) j_4044 (gb_ic (a := 0) (by decide)) (by decide))
      refine gc_lti (lo := 0) (hi := 255) (gb_ior iv1 (gb_iw (lo := 0) (hi := 255) (gb_ishl (lo := 1) (hi := 128) iv2 (by decide)) (by decide))) (fun x_19 ex_19 ix_19 => ?_)
      refine gc_lti (lo := 1) (hi := 8) (gb_iadd (lo := 1) (hi := 8) iv2 (gb_ic (a := 1) (by decide)) (by decide)) (fun x_20 ex_20 ix_20 => ?_)
      exact hk4 _ _ ix_19 (gb_iw (lo := 0) (hi := 8) ix_20 (by decide)) (gb_mup ex_20 iv2 (by decide) hm4)
    · refine gc_lti (lo := 1) (hi := 8) (gb_iadd (lo := 1) (hi := 8) iv2 (gb_ic (a := 1) (by decide)) (by decide)) (fun x_18 ex_18 ix_18 => ?_)
      exact hk4 _ _ iv1 (gb_iw (lo := 0) (hi := 8) ix_18 (by decide)) (gb_mup ex_18 iv2 (by decide) hm4)
set_option maxHeartbeats 4000000 in
theorem ct_Play_worn_38 {n : Nat} (hn : gb_N ≤ n) {Q : gb_S → Int32 → Prop} {σ : gb_S} (hT : gb_TC σ) {k4 : gb_S → Int32 → Int32 → gb_CR Int32} {M4 : Nat} (hk4 : ∀ (v1 : Int32) (v2 : Int32), gb_iv 0 255 v1 → gb_iv 0 8 v2 → (8 - v2.toInt).toNat < M4 → gb_tc (k4 σ v1 v2) Q) (hret : ∀ (r : Int32), gb_iv 0 255 r → Q σ r) : ∀ (v1 : Int32) (v2 : Int32), gb_iv 0 255 v1 → gb_iv 0 7 v2 → (8 - v2.toInt).toNat < M4 + 1 → gb_tc (cs_Play_worn_38 n k4 σ v1 v2) Q := by
  intro v1 v2 iv1 iv2 hm4
  unfold cs_Play_worn_38
  exact ct_Play_worn_43 hn hT hk4 hret _ _ _ iv1 iv2 (gb_ic (a := 1) (by decide)) hm4
set_option maxHeartbeats 4000000 in
theorem ct_Play_worn_43_i1 {n : Nat} (hn : gb_N ≤ n) {Q : gb_S → Int32 → Prop} {σ : gb_S} (hT : gb_TC σ) {k4 : gb_S → Int32 → Int32 → gb_CR Int32} {M4 : Nat} (hk4 : ∀ (v1 : Int32) (v2 : Int32), gb_iv 0 255 v1 → gb_iv 0 8 v2 → (8 - v2.toInt).toNat < M4 → gb_tc (k4 σ v1 v2) Q) (hret : ∀ (r : Int32), gb_iv 0 255 r → Q σ r) : ∀ (v1 : Int32) (v2 : Int32) (t0 : Int32), gb_iv 0 255 v1 → gb_iv 0 7 v2 → gb_iv 0 0 t0 → (8 - v2.toInt).toNat < M4 + 1 → gb_tc (cs_Play_worn_43 n k4 σ v1 v2 t0) Q := by
  intro v1 v2 t0 iv1 iv2 it0 hm4
  unfold cs_Play_worn_43
  refine gc_if (fun c_4050 => ?_) (fun c_4050 => ?_)
  · refine gc_lti (lo := 1) (hi := 8) (gb_iadd (lo := 1) (hi := 8) iv2 (gb_ic (a := 1) (by decide)) (by decide)) (fun x_14 ex_14 ix_14 => ?_)
    exact hk4 _ _ iv1 (gb_iw (lo := 0) (hi := 8) ix_14 (by decide)) (gb_mup ex_14 iv2 (by decide) hm4)
  · exact (gb_em (gb_rN (lo := 1) (hi := (-1)) (v := 0) c_4050 it0 (by decide) (by decide)) (by decide)).elim
set_option maxHeartbeats 4000000 in
theorem ct_Play_worn_4 {n : Nat} (hn : gb_N ≤ n) {Q : gb_S → Int32 → Prop} {σ : gb_S} (hT : gb_TC σ) (hret : ∀ (r : Int32), gb_iv 0 255 r → Q σ r) : ∀ (mm : Nat) (v1 : Int32) (v2 : Int32), gb_iv 0 255 v1 → gb_iv 0 8 v2 → (8 - v2.toInt).toNat < mm → gb_tc (cs_Play_worn_4 n mm σ v1 v2) Q := by
  intro mm
  induction mm with
  | zero =>
    intro v1 v2 iv1 iv2 hm
    exact absurd hm (Nat.not_lt_zero _)
  | succ mm ih =>
    intro v1 v2 iv1 iv2 hm
    rw [cs_Play_worn_4]
    refine gc_kk (gc_q1 hT) ?_
    refine gc_cdP (ct_Border_geese_B hn hT (gc_q1 hT)) (fun r_3 qr_3 h_4035 => ?_)
    refine gc_if (fun c_4036 => ?_) (fun c_4036 => ?_)
    · exact gc_some (hret _ iv1)
    · have j_4037 : gb_iv 0 7 v2 := (gb_rU (lo := 0) (hi := 7) (gb_dnle c_4036) iv2 h_4035 (by decide))
      have j_4038 : gb_iv 1 8 r_3 := (gb_rL (lo := 1) (hi := 8) (gb_dnle c_4036) h_4035 j_4037 (by decide))
      refine gc_kk (gc_q1 hT) ?_
      refine gc_cdP (ct_Border_boots_B hn hT (gc_q1 hT) j_4037) (fun r_9 qr_9 h_4039 => ?_)
      refine gc_if (fun c_4040 => ?_) (fun c_4040 => ?_)
      · have j_4041 : gb_iv 1 2147483647 r_9 := (gb_rL (lo := 1) (hi := 2147483647) (gb_dlt c_4040) (gb_it _) (gb_ic (a := 0) (by decide)) (by decide))
        exact ct_Play_worn_38 hn hT ih hret _ _ iv1 j_4037 hm
      · have j_4046 : gb_iv (-2147483648) 0 r_9 := (gb_rU (lo := (-2147483648)) (hi := 0) (gb_dnlt c_4040) (gb_it _) (gb_ic (a := 0) (by decide)) (by decide))
        refine gc_if (fun c_4047 => ?_) (fun c_4047 => ?_)
        · have j_4048 : gb_iv 1 1 (((σ.1 109 9) >>> (v2 &&& 31)) &&& 1) := (gb_rL (lo := 1) (hi := 1) (gb_deq2 c_4047) (gb_iandr (lo := 0) (hi := 1) (gb_iw (lo := 0) (hi := 1) (gb_ic (a := 1) (by decide)) (by decide)) (by decide)) (gb_ic (a := 1) (by decide)) (by decide))
          exact ct_Play_worn_38 hn hT ih hret _ _ iv1 j_4037 hm
        · have j_4049 : gb_iv 0 0 (((σ.1 109 9) >>> (v2 &&& 31)) &&& 1) := (gb_rN (lo := 0) (hi := 0) (v := 1) c_4047 (gb_iandr (lo := 0) (hi := 1) (gb_iw (lo := 0) (hi := 1) (gb_ic (a := 1) (by decide)) (by decide)) (by decide)) (by decide) (by decide))
          exact ct_Play_worn_43_i1 hn hT ih hret _ _ _ iv1 j_4037 (gb_ic (a := 0) (by decide)) hm
set_option maxHeartbeats 4000000 in
theorem ct_Play_worn {n : Nat} (hn : gb_N ≤ n) {σ : gb_S} (hT : gb_TC σ) : gb_tc (cs_Play_worn n σ) (fun s r => s = σ ∧ gb_iv 0 255 r) := by
  unfold cs_Play_worn
  exact ct_Play_worn_4 hn hT (fun _ h => ⟨rfl, h⟩) n _ _ (gb_iw (lo := 0) (hi := 255) (gb_ic (a := 0) (by decide)) (by decide)) (gb_iw (lo := 0) (hi := 8) (gb_ic (a := 0) (by decide)) (by decide)) (gb_fuu hn (gb_iw (lo := 0) (hi := 8) (gb_ic (a := 0) (by decide)) (by decide)) (by decide))
set_option maxHeartbeats 4000000 in
theorem ct_Play_payTold_14 {n : Nat} (hn : gb_N ≤ n) {Q : gb_S → Int32 → Prop} {σ : gb_S} (hT : gb_TC σ) (hret : ∀ (r : Int32), gb_iv (-2147483648) 2147483647 r → Q σ r) : ∀ (v2 : Int32) (t0 : Int32), gb_iv 0 4 v2 → gb_iv 1 1 t0 → gb_tc (cs_Play_payTold_14 n σ v2 t0) Q := by
  intro v2 t0 iv2 it0
  unfold cs_Play_payTold_14
  refine gc_kk (gc_q1 hT) ?_
  refine gc_cdP (ct_Border_rate_B hn hT (gc_q1 hT) iv2) (fun r_4 qr_4 h_4063 => ?_)
  refine gc_if (fun c_4064 => ?_) (fun c_4064 => ?_)
  · exact (gb_em (gb_rU (lo := 1) (hi := 0) (gb_deq c_4064) it0 (gb_ic (a := 0) (by decide)) (by decide)) (by decide)).elim
  · refine gc_kk (gc_q1 hT) ?_
    refine gc_cdP (ct_Play_tally hn hT iv2) (fun r_14 qr_14 h_4065 => ?_)
    refine gc_cdP (ct_Border_padded_B hn hT (gc_q1 hT) iv2) (fun r_18 qr_18 h_4066 => ?_)
    exact gc_some (hret _ (gb_it _))
set_option maxHeartbeats 4000000 in
theorem ct_Play_payTold_14_i1 {n : Nat} (hn : gb_N ≤ n) {Q : gb_S → Int32 → Prop} {σ : gb_S} (hT : gb_TC σ) (hret : ∀ (r : Int32), gb_iv (-2147483648) 2147483647 r → Q σ r) : ∀ (v2 : Int32) (t0 : Int32), gb_iv 0 4 v2 → gb_iv 0 0 t0 → gb_tc (cs_Play_payTold_14 n σ v2 t0) Q := by
  intro v2 t0 iv2 it0
  unfold cs_Play_payTold_14
  refine gc_kk (gc_q1 hT) ?_
  refine gc_cdP (ct_Border_rate_B hn hT (gc_q1 hT) iv2) (fun r_4 qr_4 h_4068 => ?_)
  refine gc_if (fun c_4069 => ?_) (fun c_4069 => ?_)
  · refine gc_cdP (ct_Play_tally hn hT iv2) (fun r_9 qr_9 h_4070 => ?_)
    exact gc_some (hret _ (gb_it _))
  · exact (gb_em (gb_rN (lo := 1) (hi := (-1)) (v := 0) c_4069 it0 (by decide) (by decide)) (by decide)).elim
set_option maxHeartbeats 4000000 in
theorem ct_Play_payTold {n : Nat} (hn : gb_N ≤ n) {σ : gb_S} {p1 : Int32} {p2 : Int32} (hT : gb_TC σ) (ip2 : gb_iv 0 4 p2) : gb_tc (cs_Play_payTold n σ p1 p2) (fun s r => s = σ ∧ gb_iv (-2147483648) 2147483647 r) := by
  unfold cs_Play_payTold
  refine gc_if (fun c_4061 => ?_) (fun c_4061 => ?_)
  · have j_4062 : gb_iv 1 1 ((p1 >>> (p2 &&& 31)) &&& 1) := (gb_rL (lo := 1) (hi := 1) (gb_deq2 c_4061) (gb_iandr (lo := 0) (hi := 1) (gb_iw (lo := 0) (hi := 1) (gb_ic (a := 1) (by decide)) (by decide)) (by decide)) (gb_ic (a := 1) (by decide)) (by decide))
    exact ct_Play_payTold_14 hn hT (fun _ h => ⟨rfl, h⟩) _ _ ip2 (gb_ic (a := 1) (by decide))
  · have j_4067 : gb_iv 0 0 ((p1 >>> (p2 &&& 31)) &&& 1) := (gb_rN (lo := 0) (hi := 0) (v := 1) c_4061 (gb_iandr (lo := 0) (hi := 1) (gb_iw (lo := 0) (hi := 1) (gb_ic (a := 1) (by decide)) (by decide)) (by decide)) (by decide) (by decide))
    exact ct_Play_payTold_14_i1 hn hT (fun _ h => ⟨rfl, h⟩) _ _ ip2 (gb_ic (a := 0) (by decide))
set_option maxHeartbeats 4000000 in
theorem ct_Play_payBy_4 {n : Nat} (hn : gb_N ≤ n) {Q : gb_S → Int32 → Prop} {σ : gb_S} (hT : gb_TC σ) (hret : ∀ (r : Int32), gb_iv (-2147483648) 2147483647 r → Q σ r) : ∀ (mm : Nat) (v1 : Int32) (v2 : Int32) (v3 : Int32), gb_iv (-2147483648) 2147483647 v1 → gb_iv (-2147483648) 2147483647 v2 → gb_iv 0 5 v3 → (5 - v3.toInt).toNat < mm → gb_tc (cs_Play_payBy_4 n mm σ v1 v2 v3) Q := by
  intro mm
  induction mm with
  | zero =>
    intro v1 v2 v3 iv1 iv2 iv3 hm
    exact absurd hm (Nat.not_lt_zero _)
  | succ mm ih =>
    intro v1 v2 v3 iv1 iv2 iv3 hm
    rw [cs_Play_payBy_4]
    refine gc_kk (gc_q1 hT) ?_
    refine gc_cdP (ct_Border_paths_B hn hT (gc_q1 hT)) (fun r_3 qr_3 h_4201 => ?_)
    refine gc_if (fun c_4202 => ?_) (fun c_4202 => ?_)
    · exact gc_some (hret _ (gb_it _))
    · have j_4203 : gb_iv 0 4 v3 := (gb_rU (lo := 0) (hi := 4) (gb_dnle c_4202) iv3 h_4201 (by decide))
      have j_4204 : gb_iv 1 5 r_3 := (gb_rL (lo := 1) (hi := 5) (gb_dnle c_4202) h_4201 j_4203 (by decide))
      refine gc_cdP (ct_Play_payTold hn hT j_4203) (fun r_8 qr_8 h_4205 => ?_)
      refine gc_lti (lo := (-2147483648)) (hi := 2147483647) (gb_it _) (fun x_11 ex_11 ix_11 => ?_)
      refine gc_lti (lo := 1) (hi := 5) (gb_iadd (lo := 1) (hi := 5) j_4203 (gb_ic (a := 1) (by decide)) (by decide)) (fun x_12 ex_12 ix_12 => ?_)
      exact ih _ _ _ (gb_it _) (gb_it _) (gb_iw (lo := 0) (hi := 5) ix_12 (by decide)) (gb_mup ex_12 j_4203 (by decide) hm)
set_option maxHeartbeats 4000000 in
theorem ct_Play_payBy {n : Nat} (hn : gb_N ≤ n) {σ : gb_S} {p1 : Int32} (hT : gb_TC σ) : gb_tc (cs_Play_payBy n σ p1) (fun s r => s = σ ∧ gb_iv (-2147483648) 2147483647 r) := by
  unfold cs_Play_payBy
  exact ct_Play_payBy_4 hn hT (fun _ h => ⟨rfl, h⟩) n _ _ _ (gb_it _) (gb_iw (lo := (-2147483648)) (hi := 2147483647) (gb_ic (a := 0) (by decide)) (by decide)) (gb_iw (lo := 0) (hi := 5) (gb_ic (a := 0) (by decide)) (by decide)) (gb_fuu hn (gb_iw (lo := 0) (hi := 5) (gb_ic (a := 0) (by decide)) (by decide)) (by decide))
set_option maxHeartbeats 4000000 in
theorem ct_Play_allPay {n : Nat} (hn : gb_N ≤ n) {σ : gb_S} (hT : gb_TC σ) : gb_tc (cs_Play_allPay n σ) (fun s r => s = σ ∧ gb_iv (-2147483648) 2147483647 r) := by
  unfold cs_Play_allPay
  refine gc_kk (gc_q1 hT) ?_
  refine gc_cdP (ct_Border_paths_B hn hT (gc_q1 hT)) (fun r_3 qr_3 h_4208 => ?_)
  refine gc_cdP (ct_Play_payBy hn hT) (fun r_7 qr_7 h_4209 => ?_)
  exact gc_some ⟨rfl, (gb_it _)⟩
set_option maxHeartbeats 4000000 in
theorem ct_Play_taken_14 {n : Nat} (hn : gb_N ≤ n) {Q : gb_S → Int32 → Prop} {σ : gb_S} (hT : gb_TC σ) (hret : ∀ (r : Int32), gb_iv (-2147483648) 2147483647 r → Q σ r) : ∀ (v1 : Int32) (v2 : Int32) (t0 : Int32), gb_iv (-2147483648) 2147483647 v1 → gb_iv 0 4 v2 → gb_iv 1 1 t0 → gb_tc (cs_Play_taken_14 n σ v1 v2 t0) Q := by
  intro v1 v2 t0 iv1 iv2 it0
  unfold cs_Play_taken_14
  refine gc_if (fun c_4232 => ?_) (fun c_4232 => ?_)
  · exact (gb_em (gb_rU (lo := 1) (hi := 0) (gb_deq c_4232) it0 (gb_ic (a := 0) (by decide)) (by decide)) (by decide)).elim
  · refine gc_kk (gc_q1 hT) ?_
    refine gc_cdP (ct_Border_cap_B hn hT (gc_q1 hT)) (fun r_10 qr_10 h_4233 => ?_)
    refine gc_if (fun c_4234 => ?_) (fun c_4234 => ?_)
    · have j_4235 : gb_iv (-2147483648) (-1) r_10 := (gb_rU (lo := (-2147483648)) (hi := (-1)) (gb_deq c_4234) (gb_it _) (gb_ic (a := (-1)) (by decide)) (by decide))
      have j_4236 : gb_iv (-1) (-1) r_10 := (gb_rL (lo := (-1)) (hi := (-1)) (gb_deq2 c_4234) j_4235 (gb_ic (a := (-1)) (by decide)) (by decide))
      refine gc_if (fun c_4237 => ?_) (fun c_4237 => ?_)
      · refine gc_cdP (ct_Play_payTold hn hT iv2) (fun r_16 qr_16 h_4238 => ?_)
        exact gc_some (hret _ (gb_it _))
      · exact gc_some (hret _ (gb_iw (lo := (-2147483648)) (hi := 2147483647) (gb_ic (a := 0) (by decide)) (by decide)))
    · refine gc_cdP (ct_Play_payBy hn hT) (fun r_20 qr_20 h_4239 => ?_)
      refine gc_kk (gc_q1 hT) ?_
      refine gc_cdE qr_10 ?_
      refine gc_if (fun c_4240 => ?_) (fun c_4240 => ?_)
      · refine gc_if (fun c_4241 => ?_) (fun c_4241 => ?_)
        · refine gc_cdP (ct_Play_payTold hn hT iv2) (fun r_31 qr_31 h_4242 => ?_)
          exact gc_some (hret _ (gb_it _))
        · exact gc_some (hret _ (gb_iw (lo := (-2147483648)) (hi := 2147483647) (gb_ic (a := 0) (by decide)) (by decide)))
      · have j_4243 : gb_iv (-2147483648) 2147483646 r_10 := (gb_rU (lo := (-2147483648)) (hi := 2147483646) (gb_dnle c_4240) (gb_it _) (gb_it _) (by decide))
        have j_4244 : gb_iv (-2147483647) 2147483647 r_20 := (gb_rL (lo := (-2147483647)) (hi := 2147483647) (gb_dnle c_4240) (gb_it _) j_4243 (by decide))
        refine gc_if (fun c_4245 => ?_) (fun c_4245 => ?_)
        · exact absurd c_4245 (by decide)
        · exact gc_some (hret _ (gb_iw (lo := (-2147483648)) (hi := 2147483647) (gb_ic (a := 0) (by decide)) (by decide)))
set_option maxHeartbeats 4000000 in
theorem ct_Play_taken_14_i1 {n : Nat} (hn : gb_N ≤ n) {Q : gb_S → Int32 → Prop} {σ : gb_S} (hT : gb_TC σ) (hret : ∀ (r : Int32), gb_iv (-2147483648) 2147483647 r → Q σ r) : ∀ (v1 : Int32) (v2 : Int32) (t0 : Int32), gb_iv (-2147483648) 2147483647 v1 → gb_iv 0 4 v2 → gb_iv 0 0 t0 → gb_tc (cs_Play_taken_14 n σ v1 v2 t0) Q := by
  intro v1 v2 t0 iv1 iv2 it0
  unfold cs_Play_taken_14
  refine gc_if (fun c_4247 => ?_) (fun c_4247 => ?_)
  · refine gc_if (fun c_4248 => ?_) (fun c_4248 => ?_)
    · refine gc_cdP (ct_Play_payTold hn hT iv2) (fun r_5 qr_5 h_4249 => ?_)
      exact gc_some (hret _ (gb_it _))
    · exact gc_some (hret _ (gb_iw (lo := (-2147483648)) (hi := 2147483647) (gb_ic (a := 0) (by decide)) (by decide)))
  · exact (gb_em (gb_rN (lo := 1) (hi := (-1)) (v := 0) c_4247 it0 (by decide) (by decide)) (by decide)).elim
set_option maxHeartbeats 4000000 in
theorem ct_Play_taken {n : Nat} (hn : gb_N ≤ n) {σ : gb_S} {p1 : Int32} {p2 : Int32} (hT : gb_TC σ) (ip2 : gb_iv 0 4 p2) : gb_tc (cs_Play_taken n σ p1 p2) (fun s r => s = σ ∧ gb_iv (-2147483648) 2147483647 r) := by
  unfold cs_Play_taken
  refine gc_if (fun c_4230 => ?_) (fun c_4230 => ?_)
  · have j_4231 : gb_iv 1 1 ((p1 >>> (p2 &&& 31)) &&& 1) := (gb_rL (lo := 1) (hi := 1) (gb_deq2 c_4230) (gb_iandr (lo := 0) (hi := 1) (gb_iw (lo := 0) (hi := 1) (gb_ic (a := 1) (by decide)) (by decide)) (by decide)) (gb_ic (a := 1) (by decide)) (by decide))
    exact ct_Play_taken_14 hn hT (fun _ h => ⟨rfl, h⟩) _ _ _ (gb_it _) ip2 (gb_ic (a := 1) (by decide))
  · have j_4246 : gb_iv 0 0 ((p1 >>> (p2 &&& 31)) &&& 1) := (gb_rN (lo := 0) (hi := 0) (v := 1) c_4230 (gb_iandr (lo := 0) (hi := 1) (gb_iw (lo := 0) (hi := 1) (gb_ic (a := 1) (by decide)) (by decide)) (by decide)) (by decide) (by decide))
    exact ct_Play_taken_14_i1 hn hT (fun _ h => ⟨rfl, h⟩) _ _ _ (gb_it _) ip2 (gb_ic (a := 0) (by decide))
set_option maxHeartbeats 4000000 in
theorem ct_Play_isAtRest_2 {n : Nat} (hn : gb_N ≤ n) {Q : gb_S → Int32 → Prop} {σ : gb_S} (hT : gb_TC σ) (hret : ∀ (r : Int32), gb_iv 0 1 r → Q σ r) : ∀ (mm : Nat) (v1 : Int32) (v2 : Int32), gb_iv (-2147483648) 2147483647 v1 → gb_iv 0 5 v2 → (5 - v2.toInt).toNat < mm → gb_tc (cs_Play_isAtRest_2 n mm σ v1 v2) Q := by
  intro mm
  induction mm with
  | zero =>
    intro v1 v2 iv1 iv2 hm
    exact absurd hm (Nat.not_lt_zero _)
  | succ mm ih =>
    intro v1 v2 iv1 iv2 hm
    rw [cs_Play_isAtRest_2]
    refine gc_kk (gc_q1 hT) ?_
    refine gc_cdP (ct_Border_paths_B hn hT (gc_q1 hT)) (fun r_3 qr_3 h_4484 => ?_)
    refine gc_if (fun c_4485 => ?_) (fun c_4485 => ?_)
    · exact gc_some (hret _ (gb_iw (lo := 0) (hi := 1) (gb_ic (a := 1) (by decide)) (by decide)))
    · have j_4486 : gb_iv 0 4 v2 := (gb_rU (lo := 0) (hi := 4) (gb_dnle c_4485) iv2 h_4484 (by decide))
      have j_4487 : gb_iv 1 5 r_3 := (gb_rL (lo := 1) (hi := 5) (gb_dnle c_4485) h_4484 j_4486 (by decide))
      refine gc_cdP (ct_Play_taken hn hT j_4486) (fun r_8 qr_8 h_4488 => ?_)
      refine gc_cdP (ct_Play_taken hn hT j_4486) (fun r_12 qr_12 h_4489 => ?_)
      refine gc_if (fun c_4490 => ?_) (fun c_4490 => ?_)
      · refine gc_lti (lo := 1) (hi := 5) (gb_iadd (lo := 1) (hi := 5) j_4486 (gb_ic (a := 1) (by decide)) (by decide)) (fun x_16 ex_16 ix_16 => ?_)
        exact ih _ _ (gb_it _) (gb_iw (lo := 0) (hi := 5) ix_16 (by decide)) (gb_mup ex_16 j_4486 (by decide) hm)
      · have j_4491 : gb_iv (-2147483648) 2147483646 r_12 := (gb_rU (lo := (-2147483648)) (hi := 2147483646) (gb_dnle c_4490) (gb_it _) (gb_it _) (by decide))
        have j_4492 : gb_iv (-2147483647) 2147483647 r_8 := (gb_rL (lo := (-2147483647)) (hi := 2147483647) (gb_dnle c_4490) (gb_it _) j_4491 (by decide))
        exact gc_some (hret _ (gb_iw (lo := 0) (hi := 1) (gb_ic (a := 0) (by decide)) (by decide)))
set_option maxHeartbeats 4000000 in
theorem ct_Play_isAtRest {n : Nat} (hn : gb_N ≤ n) {σ : gb_S} {p1 : Int32} (hT : gb_TC σ) : gb_tc (cs_Play_isAtRest n σ p1) (fun s r => s = σ ∧ gb_iv 0 1 r) := by
  unfold cs_Play_isAtRest
  exact ct_Play_isAtRest_2 hn hT (fun _ h => ⟨rfl, h⟩) n _ _ (gb_it _) (gb_iw (lo := 0) (hi := 5) (gb_ic (a := 0) (by decide)) (by decide)) (gb_fuu hn (gb_iw (lo := 0) (hi := 5) (gb_ic (a := 0) (by decide)) (by decide)) (by decide))
set_option maxHeartbeats 4000000 in
theorem ct_Dawn_marksSeen_D {n : Nat} (hn : gb_N ≤ n) {σ : gb_S} {k0 : Nat} {p1 : Int32} (hT : gb_TC σ) (hk0 : gb_kD k0 = true) (ip1 : gb_iv 0 4 p1) : gb_tc (cs_Dawn_marksSeen_D n σ k0 p1) (fun s r => s = σ ∧ gb_iv (-2147483648) 2147483647 r) := by
  unfold cs_Dawn_marksSeen_D
  refine gc_kk hk0 ?_
  refine gc_cdP (ct_Lines_cell_D hn hT hk0 ip1 (gb_iw (lo := 0) (hi := 2) (gb_ic (a := 2) (by decide)) (by decide))) (fun r_3 qr_3 h_4494 => ?_)
  exact gc_some ⟨rfl, (gb_it _)⟩
set_option maxHeartbeats 4000000 in
theorem ct_Dawn_leftOn_D_2 {n : Nat} (hn : gb_N ≤ n) {Q : gb_S → Int32 → Prop} {σ : gb_S} (hT : gb_TC σ) (hret : ∀ (r : Int32), gb_iv (-2147483648) 2147483647 r → Q σ r) : ∀ (mm : Nat) (v0 : Nat) (v1 : Int32) (v2 : Int32), gb_kD v0 = true → gb_iv (-2147483648) 2147483647 v1 → gb_iv 0 5 v2 → (5 - v2.toInt).toNat < mm → gb_tc (cs_Dawn_leftOn_D_2 n mm σ v0 v1 v2) Q := by
  intro mm
  induction mm with
  | zero =>
    intro v0 v1 v2 hv0 iv1 iv2 hm
    exact absurd hm (Nat.not_lt_zero _)
  | succ mm ih =>
    intro v0 v1 v2 hv0 iv1 iv2 hm
    rw [cs_Dawn_leftOn_D_2]
    refine gc_kk hv0 ?_
    refine gc_cdP (ct_Lines_size_D hn hT hv0) (fun r_4 qr_4 h_4677 => ?_)
    refine gc_if (fun c_4678 => ?_) (fun c_4678 => ?_)
    · exact gc_some (hret _ (gb_iw (lo := (-2147483648)) (hi := 2147483647) (gb_ic (a := 0) (by decide)) (by decide)))
    · have j_4679 : gb_iv 0 4 v2 := (gb_rU (lo := 0) (hi := 4) (gb_dnle c_4678) iv2 h_4677 (by decide))
      have j_4680 : gb_iv 1 5 r_4 := (gb_rL (lo := 1) (hi := 5) (gb_dnle c_4678) h_4677 j_4679 (by decide))
      refine gc_cdP (ct_Dawn_pathSeen_D hn hT hv0 j_4679) (fun r_9 qr_9 h_4681 => ?_)
      refine gc_if (fun c_4682 => ?_) (fun c_4682 => ?_)
      · refine gc_cdP (ct_Dawn_marksSeen_D hn hT hv0 j_4679) (fun r_15 qr_15 h_4683 => ?_)
        exact gc_some (hret _ (gb_it _))
      · refine gc_lti (lo := 1) (hi := 5) (gb_iadd (lo := 1) (hi := 5) j_4679 (gb_ic (a := 1) (by decide)) (by decide)) (fun x_13 ex_13 ix_13 => ?_)
        exact ih _ _ _ hv0 (gb_it _) (gb_iw (lo := 0) (hi := 5) ix_13 (by decide)) (gb_mup ex_13 j_4679 (by decide) hm)
set_option maxHeartbeats 4000000 in
theorem ct_Dawn_leftOn_D {n : Nat} (hn : gb_N ≤ n) {σ : gb_S} {k0 : Nat} {p1 : Int32} (hT : gb_TC σ) (hk0 : gb_kD k0 = true) : gb_tc (cs_Dawn_leftOn_D n σ k0 p1) (fun s r => s = σ ∧ gb_iv (-2147483648) 2147483647 r) := by
  unfold cs_Dawn_leftOn_D
  refine gc_kk hk0 ?_
  exact ct_Dawn_leftOn_D_2 hn hT (fun _ h => ⟨rfl, h⟩) n _ _ _ hk0 (gb_it _) (gb_iw (lo := 0) (hi := 5) (gb_ic (a := 0) (by decide)) (by decide)) (gb_fuu hn (gb_iw (lo := 0) (hi := 5) (gb_ic (a := 0) (by decide)) (by decide)) (by decide))
set_option maxHeartbeats 4000000 in
theorem ct_Lines_size {n : Nat} (hn : gb_N ≤ n) {σ : gb_S} (hT : gb_TC σ) : gb_tc (cs_Lines_size n σ) (fun s r => s = σ ∧ gb_iv 0 24 r) := by
  unfold cs_Lines_size
  refine gc_lti (lo := 0) (hi := 24) (gc_rd (c := 2) (lo := 0) (hi := 24) hT (rfl : gc_cat 105 = 2) (by decide)) (fun x_1 ex_1 ix_1 => ?_)
  exact gc_some ⟨rfl, ix_1⟩
set_option maxHeartbeats 4000000 in
theorem ct_Lines_cell {n : Nat} (hn : gb_N ≤ n) {σ : gb_S} {p1 : Int32} {p2 : Int32} (hT : gb_TC σ) (ip1 : gb_iv 0 23 p1) (ip2 : gb_iv 0 3 p2) : gb_tc (cs_Lines_cell n σ p1 p2) (fun s r => s = σ ∧ gb_iv (-2147483648) 2147483647 r) := by
  unfold cs_Lines_cell
  refine gc_ck (gb_iadd (lo := 1) (hi := 96) (gb_iadd (lo := 1) (hi := 93) (gb_ic (a := 1) (by decide)) (gb_imul (lo := 0) (hi := 92) ip1 (gb_iadd (lo := 4) (hi := 4) (gb_ic (a := 3) (by decide)) (gb_ic (a := 1) (by decide)) (by decide)) (by decide)) (by decide)) ip2 (by decide)) (by decide) ?_
  refine gc_lti (lo := (-2147483648)) (hi := 2147483647) (gb_it _) (fun x_2 ex_2 ix_2 => ?_)
  exact gc_some ⟨rfl, (gb_it _)⟩
set_option maxHeartbeats 4000000 in
theorem ct_Lines_kind {n : Nat} (hn : gb_N ≤ n) {σ : gb_S} {p1 : Int32} (hT : gb_TC σ) (ip1 : gb_iv 0 23 p1) : gb_tc (cs_Lines_kind n σ p1) (fun s r => s = σ ∧ gb_iv (-2147483648) 2147483647 r) := by
  unfold cs_Lines_kind
  refine gc_cdP (ct_Lines_cell hn hT ip1 (gb_iw (lo := 0) (hi := 3) (gb_ic (a := 0) (by decide)) (by decide))) (fun r_2 qr_2 h_4685 => ?_)
  exact gc_some ⟨rfl, (gb_it _)⟩
set_option maxHeartbeats 4000000 in
theorem ct_Sharing_canShare_B {n : Nat} (hn : gb_N ≤ n) {σ : gb_S} {p1 : Nat} (hT : gb_TC σ) (hp1 : gb_kB p1 = true) : gb_tc (cs_Sharing_canShare_B n σ p1) (fun s r => s = σ ∧ gb_iv 0 1 r) := by
  unfold cs_Sharing_canShare_B
  refine gc_kk hp1 ?_
  refine gc_cdP (ct_Border_paths_B hn hT hp1) (fun r_3 qr_3 h_4699 => ?_)
  refine gc_if (fun c_4700 => ?_) (fun c_4700 => ?_)
  · have j_4701 : gb_iv 0 0 r_3 := (gb_rU (lo := 0) (hi := 0) (gb_dle c_4700) h_4699 (gb_ic (a := 0) (by decide)) (by decide))
    exact gc_some ⟨rfl, (gb_iw (lo := 0) (hi := 1) (gb_ic (a := 0) (by decide)) (by decide))⟩
  · have j_4702 : gb_iv 1 5 r_3 := (gb_rL (lo := 1) (hi := 5) (gb_dnle c_4700) h_4699 (gb_ic (a := 0) (by decide)) (by decide))
    refine gc_cdP (ct_Border_geese_B hn hT hp1) (fun r_8 qr_8 h_4703 => ?_)
    refine gc_if (fun c_4704 => ?_) (fun c_4704 => ?_)
    · have j_4705 : gb_iv 7 8 r_8 := (gb_rL (lo := 7) (hi := 8) (gb_dlt c_4704) h_4703 (gb_ic (a := 6) (by decide)) (by decide))
      exact gc_some ⟨rfl, (gb_iw (lo := 0) (hi := 1) (gb_ic (a := 0) (by decide)) (by decide))⟩
    · have j_4706 : gb_iv 0 6 r_8 := (gb_rU (lo := 0) (hi := 6) (gb_dnlt c_4704) h_4703 (gb_ic (a := 6) (by decide)) (by decide))
      exact gc_some ⟨rfl, (gb_iw (lo := 0) (hi := 1) (gb_ic (a := 1) (by decide)) (by decide))⟩
set_option maxHeartbeats 4000000 in
theorem ct_Sharing_payAnew {n : Nat} (hn : gb_N ≤ n) {σ : gb_S} {p1 : Int32} (hT : gb_TC σ) (ip1 : gb_iv 0 4 p1) : gb_tc (cs_Sharing_payAnew n σ p1) (fun s _ => gb_TC s ∧ True) := by
  unfold cs_Sharing_payAnew
  refine gc_if (fun c_4712 => ?_) (fun c_4712 => ?_)
  · refine gc_kk (gc_q2 hT) ?_
    refine gc_ck ip1 (by decide) ?_
    refine gc_lti (lo := (-2147483648)) (hi := 2147483647) (gb_it _) (fun x_4 ex_4 ix_4 => ?_)
    refine gc_cdP (ct_Border_payOf_B hn hT (gc_q2 hT) ip1) (fun r_6 qr_6 h_4713 => ?_)
    refine gc_ck ip1 (by decide) ?_
    refine gc_ltT (gc_su0 hT (rfl : gc_cat 127 = 0)) (fun s_10 es_10 hTs_10 => ?_)
    exact gc_some ⟨hTs_10, trivial⟩
  · refine gc_kk (gc_q3 hT c_4712) ?_
    refine gc_if (fun c_4714 => ?_) (fun c_4714 => ?_)
    · exact absurd c_4714 (gb_nzL (gc_q3 hT c_4712))
    · refine gc_kk (gc_q3 hT c_4712) ?_
      refine gc_kk (gc_q2 hT) ?_
      refine gc_ck ip1 (by decide) ?_
      refine gc_lti (lo := (-2147483648)) (hi := 2147483647) (gb_it _) (fun x_23 ex_23 ix_23 => ?_)
      refine gc_cdP (ct_Border_padded_B hn hT (gc_q2 hT) ip1) (fun r_25 qr_25 h_4715 => ?_)
      refine gc_cdP (ct_Law_payFor_L hn hT (gc_q3 hT c_4712)) (fun r_29 qr_29 h_4716 => ?_)
      refine gc_ck ip1 (by decide) ?_
      refine gc_ltT (gc_su0 hT (rfl : gc_cat 127 = 0)) (fun s_33 es_33 hTs_33 => ?_)
      exact gc_some ⟨hTs_33, trivial⟩
set_option maxHeartbeats 4000000 in
theorem ct_Sharing_spread_16 {n : Nat} (hn : gb_N ≤ n) {Q : gb_S → Int32 → Prop} {σ : gb_S} (hT : gb_TC σ) (hret : ∀ (r : Int32), gb_iv (-2147483648) 2147483647 r → Q σ r) : ∀ (mm : Nat) (v1 : Int32) (v2 : Int32) (v3 : Int32), gb_iv (-2147483648) 2147483647 v1 → gb_iv (-2147483648) 2147483647 v2 → gb_iv 1 5 v3 → (5 - v3.toInt).toNat < mm → gb_tc (cs_Sharing_spread_16 n mm σ v1 v2 v3) Q := by
  intro mm
  induction mm with
  | zero =>
    intro v1 v2 v3 iv1 iv2 iv3 hm
    exact absurd hm (Nat.not_lt_zero _)
  | succ mm ih =>
    intro v1 v2 v3 iv1 iv2 iv3 hm
    rw [cs_Sharing_spread_16]
    refine gc_if (fun c_8433 => ?_) (fun c_8433 => ?_)
    · exact gc_some (hret _ (gb_it _))
    · have j_8434 : gb_iv 1 4 v3 := (gb_rU (lo := 1) (hi := 4) (gb_dnle c_8433) iv3 (gc_rd (c := 8) (lo := 0) (hi := 5) hT (rfl : gc_cat 120 = 8) (by decide)) (by decide))
      have j_8435 : gb_iv 2 5 (σ.1 120 4) := (gb_rL (lo := 2) (hi := 5) (gb_dnle c_8433) (gc_rd (c := 8) (lo := 0) (hi := 5) hT (rfl : gc_cat 120 = 8) (by decide)) j_8434 (by decide))
      refine gc_ck j_8434 (by decide) ?_
      refine gc_lti (lo := 0) (hi := 4) (gc_rd (c := 9) (lo := 0) (hi := 4) hT (rfl : gc_cat 124 = 9) ⟨Int.le_refl _, Int.le_refl _⟩) (fun x_6 ex_6 ix_6 => ?_)
      refine gc_ck ix_6 (by decide) ?_
      refine gc_lti (lo := (-2147483648)) (hi := 2147483647) (gb_it _) (fun x_8 ex_8 ix_8 => ?_)
      refine gc_lti (lo := (-2147483648)) (hi := 2147483647) (gb_imax (lo := (-2147483648)) (hi := 2147483647) (gb_it _) (gb_it _) (by decide)) (fun x_9 ex_9 ix_9 => ?_)
      refine gc_ck j_8434 (by decide) ?_
      refine gc_lti (lo := 0) (hi := 4) (gc_rd (c := 9) (lo := 0) (hi := 4) hT (rfl : gc_cat 124 = 9) ⟨Int.le_refl _, Int.le_refl _⟩) (fun x_11 ex_11 ix_11 => ?_)
      refine gc_ck ix_11 (by decide) ?_
      refine gc_lti (lo := (-2147483648)) (hi := 2147483647) (gb_it _) (fun x_13 ex_13 ix_13 => ?_)
      refine gc_lti (lo := (-2147483648)) (hi := 2147483647) (gb_imin (lo := (-2147483648)) (hi := 2147483647) (gb_it _) (gb_it _) (by decide)) (fun x_14 ex_14 ix_14 => ?_)
      refine gc_lti (lo := 2) (hi := 5) (gb_iadd (lo := 2) (hi := 5) j_8434 (gb_ic (a := 1) (by decide)) (by decide)) (fun x_15 ex_15 ix_15 => ?_)
      exact ih _ _ _ (gb_it _) (gb_it _) (gb_iw (lo := 1) (hi := 5) ix_15 (by decide)) (gb_mup ex_15 j_8434 (by decide) hm)
set_option maxHeartbeats 4000000 in
theorem ct_Sharing_spread {n : Nat} (hn : gb_N ≤ n) {σ : gb_S} (hT : gb_TC σ) : gb_tc (cs_Sharing_spread n σ) (fun s r => s = σ ∧ gb_iv (-2147483648) 2147483647 r) := by
  unfold cs_Sharing_spread
  refine gc_lti (lo := 0) (hi := 4) (gc_rd (c := 9) (lo := 0) (hi := 4) hT (rfl : gc_cat 124 = 9) (by decide)) (fun x_1 ex_1 ix_1 => ?_)
  refine gc_ck ix_1 (by decide) ?_
  refine gc_lti (lo := (-2147483648)) (hi := 2147483647) (gb_it _) (fun x_3 ex_3 ix_3 => ?_)
  exact ct_Sharing_spread_16 hn hT (fun _ h => ⟨rfl, h⟩) n _ _ _ (gb_it _) (gb_it _) (gb_iw (lo := 1) (hi := 5) (gb_ic (a := 1) (by decide)) (by decide)) (gb_fuu hn (gb_iw (lo := 1) (hi := 5) (gb_ic (a := 1) (by decide)) (by decide)) (by decide))
set_option maxHeartbeats 4000000 in
theorem ct_Sharing_keepRow_2 {n : Nat} (hn : gb_N ≤ n) {Q : gb_S → Unit → Prop} (hret : ∀ (σ : gb_S) (r : Unit), gb_TC σ → True → Q σ r) : ∀ (mm : Nat) (σ : gb_S) (v1 : Int32), gb_TC σ → gb_iv 0 8 v1 → (8 - v1.toInt).toNat < mm → gb_tc (cs_Sharing_keepRow_2 n mm σ v1) Q := by
  intro mm
  induction mm with
  | zero =>
    intro σ v1 hT iv1 hm
    exact absurd hm (Nat.not_lt_zero _)
  | succ mm ih =>
    intro σ v1 hT iv1 hm
    rw [cs_Sharing_keepRow_2]
    refine gc_kk (gc_q2 hT) ?_
    refine gc_cdP (ct_Border_geese_B hn hT (gc_q2 hT)) (fun r_3 qr_3 h_8556 => ?_)
    refine gc_if (fun c_8557 => ?_) (fun c_8557 => ?_)
    · refine gc_ac (gb_ic (a := 0) (by decide)) (gb_ic (a := 0) (by decide)) (gb_ic (a := 5) (by decide)) (by decide) ?_
      refine gc_ltT (gc_cpy hT (rfl : gc_cat 129 = 0) (rfl : gc_cat 127 = 0)) (fun s_8 es_8 hTs_8 => ?_)
      exact gc_some (hret _ _ hTs_8 trivial)
    · have j_8558 : gb_iv 0 7 v1 := (gb_rU (lo := 0) (hi := 7) (gb_dnle c_8557) iv1 h_8556 (by decide))
      have j_8559 : gb_iv 1 8 r_3 := (gb_rL (lo := 1) (hi := 8) (gb_dnle c_8557) h_8556 j_8558 (by decide))
      refine gc_ck j_8558 (by decide) ?_
      refine gc_lti (lo := 0) (hi := 4) (gc_rd (c := 9) (lo := 0) (hi := 4) hT (rfl : gc_cat 125 = 9) ⟨Int.le_refl _, Int.le_refl _⟩) (fun x_10 ex_10 ix_10 => ?_)
      refine gc_ck ix_10 (by decide) ?_
      refine gc_lti (lo := 0) (hi := 4) (gc_rd (c := 9) (lo := 0) (hi := 4) hT (rfl : gc_cat 124 = 9) ⟨Int.le_refl _, Int.le_refl _⟩) (fun x_12 ex_12 ix_12 => ?_)
      refine gc_ck j_8558 (by decide) ?_
      refine gc_ltT (gc_su0 hT (rfl : gc_cat 128 = 0)) (fun s_14 es_14 hTs_14 => ?_)
      refine gc_lti (lo := 1) (hi := 8) (gb_iadd (lo := 1) (hi := 8) j_8558 (gb_ic (a := 1) (by decide)) (by decide)) (fun x_15 ex_15 ix_15 => ?_)
      exact ih _ _ hTs_14 (gb_iw (lo := 0) (hi := 8) ix_15 (by decide)) (gb_mup ex_15 j_8558 (by decide) hm)
set_option maxHeartbeats 4000000 in
theorem ct_Sharing_keepRow {n : Nat} (hn : gb_N ≤ n) {σ : gb_S} (hT : gb_TC σ) : gb_tc (cs_Sharing_keepRow n σ) (fun s _ => gb_TC s ∧ True) := by
  unfold cs_Sharing_keepRow
  exact ct_Sharing_keepRow_2 hn (fun _ _ hT h => ⟨hT, h⟩) n _ _ hT (gb_iw (lo := 0) (hi := 8) (gb_ic (a := 0) (by decide)) (by decide)) (gb_fuu hn (gb_iw (lo := 0) (hi := 8) (gb_ic (a := 0) (by decide)) (by decide)) (by decide))
set_option maxHeartbeats 4000000 in
theorem ct_Sharing_together_4 {n : Nat} (hn : gb_N ≤ n) {Q : gb_S → Int32 → Prop} {σ : gb_S} (hT : gb_TC σ) (hret : ∀ (r : Int32), gb_iv (-2147483648) 2147483647 r → Q σ r) : ∀ (mm : Nat) (v1 : Int32) (v2 : Int32), gb_iv (-2147483648) 2147483647 v1 → gb_iv 0 5 v2 → (5 - v2.toInt).toNat < mm → gb_tc (cs_Sharing_together_4 n mm σ v1 v2) Q := by
  intro mm
  induction mm with
  | zero =>
    intro v1 v2 iv1 iv2 hm
    exact absurd hm (Nat.not_lt_zero _)
  | succ mm ih =>
    intro v1 v2 iv1 iv2 hm
    rw [cs_Sharing_together_4]
    refine gc_if (fun c_8638 => ?_) (fun c_8638 => ?_)
    · exact gc_some (hret _ (gb_it _))
    · have j_8639 : gb_iv 0 4 v2 := (gb_rU (lo := 0) (hi := 4) (gb_dnle c_8638) iv2 (gc_rd (c := 8) (lo := 0) (hi := 5) hT (rfl : gc_cat 120 = 8) (by decide)) (by decide))
      have j_8640 : gb_iv 1 5 (σ.1 120 4) := (gb_rL (lo := 1) (hi := 5) (gb_dnle c_8638) (gc_rd (c := 8) (lo := 0) (hi := 5) hT (rfl : gc_cat 120 = 8) (by decide)) j_8639 (by decide))
      refine gc_ck j_8639 (by decide) ?_
      refine gc_lti (lo := 0) (hi := 4) (gc_rd (c := 9) (lo := 0) (hi := 4) hT (rfl : gc_cat 124 = 9) ⟨Int.le_refl _, Int.le_refl _⟩) (fun x_3 ex_3 ix_3 => ?_)
      refine gc_ck ix_3 (by decide) ?_
      refine gc_lti (lo := (-2147483648)) (hi := 2147483647) (gb_it _) (fun x_5 ex_5 ix_5 => ?_)
      refine gc_lti (lo := (-2147483648)) (hi := 2147483647) (gb_it _) (fun x_6 ex_6 ix_6 => ?_)
      refine gc_lti (lo := 1) (hi := 5) (gb_iadd (lo := 1) (hi := 5) j_8639 (gb_ic (a := 1) (by decide)) (by decide)) (fun x_7 ex_7 ix_7 => ?_)
      exact ih _ _ (gb_it _) (gb_iw (lo := 0) (hi := 5) ix_7 (by decide)) (gb_mup ex_7 j_8639 (by decide) hm)
set_option maxHeartbeats 4000000 in
theorem ct_Sharing_together {n : Nat} (hn : gb_N ≤ n) {σ : gb_S} (hT : gb_TC σ) : gb_tc (cs_Sharing_together n σ) (fun s r => s = σ ∧ gb_iv (-2147483648) 2147483647 r) := by
  unfold cs_Sharing_together
  exact ct_Sharing_together_4 hn hT (fun _ h => ⟨rfl, h⟩) n _ _ (gb_iw (lo := (-2147483648)) (hi := 2147483647) (gb_ic (a := 0) (by decide)) (by decide)) (gb_iw (lo := 0) (hi := 5) (gb_ic (a := 0) (by decide)) (by decide)) (gb_fuu hn (gb_iw (lo := 0) (hi := 5) (gb_ic (a := 0) (by decide)) (by decide)) (by decide))
set_option maxHeartbeats 4000000 in
theorem ct_Sharing_difference {n : Nat} (hn : gb_N ≤ n) {σ : gb_S} (hT : gb_TC σ) : gb_tc (cs_Sharing_difference n σ) (fun s r => s = σ ∧ gb_iv (-2147483648) 2147483647 r) := by
  unfold cs_Sharing_difference
  exact gc_some ⟨rfl, (gb_it _)⟩
set_option maxHeartbeats 4000000 in
theorem ct_Face_bestPath_B_7 {n : Nat} (hn : gb_N ≤ n) {Q : gb_S → Int32 → Prop} {σ : gb_S} (hT : gb_TC σ) (hret : ∀ (r : Int32), gb_iv (-1) 4 r → Q σ r) : ∀ (mm : Nat) (v0 : Nat) (v1 : Int32) (v2 : Int32) (v3 : Int32) (v4 : Int32), gb_kB v0 = true → gb_iv 0 7 v1 → gb_iv (-1) 2147483647 v2 → gb_iv (-1) 4 v3 → gb_iv 0 5 v4 → (5 - v4.toInt).toNat < mm → gb_tc (cs_Face_bestPath_B_7 n mm σ v0 v1 v2 v3 v4) Q := by
  intro mm
  induction mm with
  | zero =>
    intro v0 v1 v2 v3 v4 hv0 iv1 iv2 iv3 iv4 hm
    exact absurd hm (Nat.not_lt_zero _)
  | succ mm ih =>
    intro v0 v1 v2 v3 v4 hv0 iv1 iv2 iv3 iv4 hm
    rw [cs_Face_bestPath_B_7]
    refine gc_kk hv0 ?_
    refine gc_cdP (ct_Border_paths_B hn hT hv0) (fun r_4 qr_4 h_8875 => ?_)
    refine gc_if (fun c_8876 => ?_) (fun c_8876 => ?_)
    · exact gc_some (hret _ iv3)
    · have j_8877 : gb_iv 0 4 v4 := (gb_rU (lo := 0) (hi := 4) (gb_dnle c_8876) iv4 h_8875 (by decide))
      have j_8878 : gb_iv 1 5 r_4 := (gb_rL (lo := 1) (hi := 5) (gb_dnle c_8876) h_8875 j_8877 (by decide))
      refine gc_cdP (ct_Border_marksFirst_B hn hT hv0 iv1 j_8877) (fun r_9 qr_9 h_8879 => ?_)
      refine gc_cdP (ct_Border_payOf_B hn hT hv0 j_8877) (fun r_13 qr_13 h_8880 => ?_)
      refine gc_if (fun c_8881 => ?_) (fun c_8881 => ?_)
      · refine gc_lti (lo := 1) (hi := 5) (gb_iadd (lo := 1) (hi := 5) j_8877 (gb_ic (a := 1) (by decide)) (by decide)) (fun x_17 ex_17 ix_17 => ?_)
        exact ih _ _ _ _ _ hv0 iv1 iv2 iv3 (gb_iw (lo := 0) (hi := 5) ix_17 (by decide)) (gb_mup ex_17 j_8877 (by decide) hm)
      · have j_8882 : gb_iv (-1) 2147483646 v2 := (gb_rU (lo := (-1)) (hi := 2147483646) (gb_dnle c_8881) iv2 (gb_it _) (by decide))
        have j_8883 : gb_iv 0 2147483647 r_13 := (gb_rL (lo := 0) (hi := 2147483647) (gb_dnle c_8881) (gb_it _) j_8882 (by decide))
        refine gc_lti (lo := 1) (hi := 5) (gb_iadd (lo := 1) (hi := 5) j_8877 (gb_ic (a := 1) (by decide)) (by decide)) (fun x_18 ex_18 ix_18 => ?_)
        exact ih _ _ _ _ _ hv0 iv1 (gb_iw (lo := (-1)) (hi := 2147483647) j_8883 (by decide)) (gb_iw (lo := (-1)) (hi := 4) j_8877 (by decide)) (gb_iw (lo := 0) (hi := 5) ix_18 (by decide)) (gb_mup ex_18 j_8877 (by decide) hm)
set_option maxHeartbeats 4000000 in
theorem ct_Face_bestPath_B {n : Nat} (hn : gb_N ≤ n) {σ : gb_S} {p1 : Nat} {p2 : Int32} (hT : gb_TC σ) (hp1 : gb_kB p1 = true) (ip2 : gb_iv 0 7 p2) : gb_tc (cs_Face_bestPath_B n σ p1 p2) (fun s r => s = σ ∧ gb_iv (-1) 4 r) := by
  unfold cs_Face_bestPath_B
  refine gc_kk hp1 ?_
  exact ct_Face_bestPath_B_7 hn hT (fun _ h => ⟨rfl, h⟩) n _ _ _ _ _ hp1 ip2 (gb_iw (lo := (-1)) (hi := 2147483647) (gb_ic (a := (-1)) (by decide)) (by decide)) (gb_iw (lo := (-1)) (hi := 4) (gb_ic (a := (-1)) (by decide)) (by decide)) (gb_iw (lo := 0) (hi := 5) (gb_ic (a := 0) (by decide)) (by decide)) (gb_fuu hn (gb_iw (lo := 0) (hi := 5) (gb_ic (a := 0) (by decide)) (by decide)) (by decide))
set_option maxHeartbeats 4000000 in
theorem ct_Face_lame_64 {n : Nat} (hn : gb_N ≤ n) {Q : gb_S → Int32 → Prop} {σ : gb_S} (hT : gb_TC σ) (hret : ∀ (r : Int32), gb_iv (-2147483648) 2147483647 r → Q σ r) : ∀ (mm : Nat) (v2 : Int32) (v4 : Nat) (v5 : Int32) (v6 : Int32) (v7 : Int32), gb_kB v4 = true → gb_iv 0 4 v2 → gb_iv (-2147483648) 2147483647 v5 → gb_iv (-2147483648) 2147483647 v6 → gb_iv 0 8 v7 → (8 - v7.toInt).toNat < mm → gb_tc (cs_Face_lame_64 n mm σ v2 v4 v5 v6 v7) Q := by
  intro mm
  induction mm with
  | zero =>
    intro v2 v4 v5 v6 v7 hv4 iv2 iv5 iv6 iv7 hm
    exact absurd hm (Nat.not_lt_zero _)
  | succ mm ih =>
    intro v2 v4 v5 v6 v7 hv4 iv2 iv5 iv6 iv7 hm
    rw [cs_Face_lame_64]
    refine gc_kk hv4 ?_
    refine gc_cdP (ct_Border_geese_B hn hT hv4) (fun r_15 qr_15 h_9411 => ?_)
    refine gc_if (fun c_9412 => ?_) (fun c_9412 => ?_)
    · refine gc_cdP (ct_Border_payOf_B hn hT hv4 iv2) (fun r_20 qr_20 h_9413 => ?_)
      refine gc_cdP (ct_Border_payOf_B hn hT hv4 iv2) (fun r_24 qr_24 h_9414 => ?_)
      exact gc_some (hret _ (gb_it _))
    · have j_9415 : gb_iv 0 7 v7 := (gb_rU (lo := 0) (hi := 7) (gb_dnle c_9412) iv7 h_9411 (by decide))
      have j_9416 : gb_iv 1 8 r_15 := (gb_rL (lo := 1) (hi := 8) (gb_dnle c_9412) h_9411 j_9415 (by decide))
      refine gc_cdP (ct_Border_marksFirst_B hn hT hv4 j_9415 iv2) (fun r_28 qr_28 h_9417 => ?_)
      refine gc_lti (lo := (-2147483648)) (hi := 2147483647) (gb_it _) (fun x_31 ex_31 ix_31 => ?_)
      refine gc_cdP (ct_Border_limps_B hn hT hv4 j_9415) (fun r_33 qr_33 h_9418 => ?_)
      refine gc_if (fun c_9419 => ?_) (fun c_9419 => ?_)
      · have j_9420 : gb_iv 0 0 r_33 := (gb_rU (lo := 0) (hi := 0) (gb_deq c_9419) h_9418 (gb_ic (a := 0) (by decide)) (by decide))
        refine gc_lti (lo := (-2147483648)) (hi := 2147483647) (gb_it _) (fun x_37 ex_37 ix_37 => ?_)
        refine gc_lti (lo := 1) (hi := 8) (gb_iadd (lo := 1) (hi := 8) j_9415 (gb_ic (a := 1) (by decide)) (by decide)) (fun x_38 ex_38 ix_38 => ?_)
        exact ih _ _ _ _ _ hv4 iv2 (gb_it _) (gb_it _) (gb_iw (lo := 0) (hi := 8) ix_38 (by decide)) (gb_mup ex_38 j_9415 (by decide) hm)
      · have j_9421 : gb_iv 1 1 r_33 := (gb_rN (lo := 1) (hi := 1) (v := 0) c_9419 h_9418 (by decide) (by decide))
        refine gc_lti (lo := (-2147483648)) (hi := 2147483647) (gb_it _) (fun x_39 ex_39 ix_39 => ?_)
        refine gc_lti (lo := (-2147483648)) (hi := 2147483647) (gb_it _) (fun x_40 ex_40 ix_40 => ?_)
        refine gc_lti (lo := 1) (hi := 8) (gb_iadd (lo := 1) (hi := 8) j_9415 (gb_ic (a := 1) (by decide)) (by decide)) (fun x_41 ex_41 ix_41 => ?_)
        exact ih _ _ _ _ _ hv4 iv2 (gb_it _) (gb_it _) (gb_iw (lo := 0) (hi := 8) ix_41 (by decide)) (gb_mup ex_41 j_9415 (by decide) hm)
set_option maxHeartbeats 4000000 in
theorem ct_Face_lame {n : Nat} (hn : gb_N ≤ n) {σ : gb_S} {p1 : Int32} {p2 : Int32} {p3 : Int32} (hT : gb_TC σ) : gb_tc (cs_Face_lame n σ p1 p2 p3) (fun s r => s = σ ∧ gb_iv (-2147483648) 2147483647 r) := by
  unfold cs_Face_lame
  refine gc_cdP (ct_Face_borderAt hn hT) (fun r_2 qr_2 h_9237 => ?_)
  refine gc_if (fun c_9238 => ?_) (fun c_9238 => ?_)
  · exact gc_some ⟨rfl, (gb_iw (lo := (-2147483648)) (hi := 2147483647) (gb_ic (a := (-1)) (by decide)) (by decide))⟩
  · refine gc_kk (Or.resolve_left h_9237 c_9238) ?_
    refine gc_if (fun c_9239 => ?_) (fun c_9239 => ?_)
    · have j_9240 : gb_iv (-2147483648) (-1) p3 := (gb_rU (lo := (-2147483648)) (hi := (-1)) (gb_dlt c_9239) (gb_it _) (gb_ic (a := 0) (by decide)) (by decide))
      refine gc_cdP (ct_Border_hasPath_B hn hT (Or.resolve_left h_9237 c_9238)) (fun r_9 qr_9 h_9241 => ?_)
      refine gc_if (fun c_9242 => ?_) (fun c_9242 => ?_)
      · have j_9243 : gb_iv 0 0 r_9 := (gb_rU (lo := 0) (hi := 0) (gb_deq c_9242) h_9241.1 (gb_ic (a := 0) (by decide)) (by decide))
        exact gc_some ⟨rfl, (gb_iw (lo := (-2147483648)) (hi := 2147483647) (gb_ic (a := (-1)) (by decide)) (by decide))⟩
      · have j_9244 : gb_iv 1 1 r_9 := (gb_rN (lo := 1) (hi := 1) (v := 0) c_9242 h_9241.1 (by decide) (by decide))
        have j_9245 : gb_iv 0 4 p2 := (h_9241.2 c_9242)
        exact ct_Face_lame_64 hn hT (fun _ h => ⟨rfl, h⟩) n _ _ _ _ _ (Or.resolve_left h_9237 c_9238) j_9245 (gb_iw (lo := (-2147483648)) (hi := 2147483647) (gb_ic (a := 0) (by decide)) (by decide)) (gb_iw (lo := (-2147483648)) (hi := 2147483647) (gb_ic (a := 0) (by decide)) (by decide)) (gb_iw (lo := 0) (hi := 8) (gb_ic (a := 0) (by decide)) (by decide)) (gb_fuu hn (gb_iw (lo := 0) (hi := 8) (gb_ic (a := 0) (by decide)) (by decide)) (by decide))
    · have j_9422 : gb_iv 0 2147483647 p3 := (gb_rL (lo := 0) (hi := 2147483647) (gb_dnlt c_9239) (gb_it _) (gb_ic (a := 0) (by decide)) (by decide))
      refine gc_if (fun c_9423 => ?_) (fun c_9423 => ?_)
      · have j_9424 : gb_iv 8 2147483647 p3 := (gb_rL (lo := 8) (hi := 2147483647) (gb_dle c_9423) j_9422 (gb_ic (a := 8) (by decide)) (by decide))
        refine gc_cdP (ct_Border_hasPath_B hn hT (Or.resolve_left h_9237 c_9238)) (fun r_44 qr_44 h_9425 => ?_)
        refine gc_if (fun c_9426 => ?_) (fun c_9426 => ?_)
        · have j_9427 : gb_iv 0 0 r_44 := (gb_rU (lo := 0) (hi := 0) (gb_deq c_9426) h_9425.1 (gb_ic (a := 0) (by decide)) (by decide))
          exact gc_some ⟨rfl, (gb_iw (lo := (-2147483648)) (hi := 2147483647) (gb_ic (a := (-1)) (by decide)) (by decide))⟩
        · have j_9428 : gb_iv 1 1 r_44 := (gb_rN (lo := 1) (hi := 1) (v := 0) c_9426 h_9425.1 (by decide) (by decide))
          have j_9429 : gb_iv 0 4 p2 := (h_9425.2 c_9426)
          exact ct_Face_lame_64 hn hT (fun _ h => ⟨rfl, h⟩) n _ _ _ _ _ (Or.resolve_left h_9237 c_9238) j_9429 (gb_iw (lo := (-2147483648)) (hi := 2147483647) (gb_ic (a := 0) (by decide)) (by decide)) (gb_iw (lo := (-2147483648)) (hi := 2147483647) (gb_ic (a := 0) (by decide)) (by decide)) (gb_iw (lo := 0) (hi := 8) (gb_ic (a := 0) (by decide)) (by decide)) (gb_fuu hn (gb_iw (lo := 0) (hi := 8) (gb_ic (a := 0) (by decide)) (by decide)) (by decide))
      · have j_9595 : gb_iv 0 7 p3 := (gb_rU (lo := 0) (hi := 7) (gb_dnle c_9423) j_9422 (gb_ic (a := 8) (by decide)) (by decide))
        refine gc_cdP (ct_Border_hasGoose_B hn hT (Or.resolve_left h_9237 c_9238)) (fun r_49 qr_49 h_9596 => ?_)
        refine gc_if (fun c_9597 => ?_) (fun c_9597 => ?_)
        · have j_9598 : gb_iv 0 0 r_49 := (gb_rU (lo := 0) (hi := 0) (gb_deq c_9597) h_9596.1 (gb_ic (a := 0) (by decide)) (by decide))
          exact gc_some ⟨rfl, (gb_iw (lo := (-2147483648)) (hi := 2147483647) (gb_ic (a := (-1)) (by decide)) (by decide))⟩
        · have j_9599 : gb_iv 1 1 r_49 := (gb_rN (lo := 1) (hi := 1) (v := 0) c_9597 h_9596.1 (by decide) (by decide))
          refine gc_cdP (ct_Face_bestPath_B hn hT (Or.resolve_left h_9237 c_9238) j_9595) (fun r_54 qr_54 h_9600 => ?_)
          exact gc_some ⟨rfl, (gb_iw (lo := (-2147483648)) (hi := 2147483647) h_9600 (by decide))⟩
set_option maxHeartbeats 4000000 in
theorem ct_Face_two_108 {n : Nat} (hn : gb_N ≤ n) {Q : gb_S → Int32 → Prop} {σ : gb_S} (hT : gb_TC σ) {k58 : gb_S → Int32 → Int32 → Nat → Nat → Int32 → Int32 → Int32 → Int32 → gb_CR Int32} {M58 : Nat} (hk58 : ∀ (v2 : Int32) (v4 : Int32) (v5 : Nat) (v6 : Nat) (v7 : Int32) (v8 : Int32) (v9 : Int32) (v10 : Int32), gb_kB v5 = true → gb_kB v6 = true → gb_iv 0 7 v2 → gb_iv 0 2 v4 → gb_iv (-1) 2147483647 v7 → gb_iv (-1) 4 v8 → gb_iv (-1) 4 v9 → gb_iv 0 5 v10 → (5 - v10.toInt).toNat < M58 → gb_tc (k58 σ v2 v4 v5 v6 v7 v8 v9 v10) Q) (hret : ∀ (r : Int32), gb_iv (-1) 2147483647 r → Q σ r) : ∀ (mm : Nat) (v2 : Int32) (v4 : Int32) (v5 : Nat) (v6 : Nat) (v7 : Int32) (v8 : Int32) (v9 : Int32) (v10 : Int32) (v11 : Int32) (v12 : Int32) (v13 : Int32), gb_kB v5 = true → gb_kB v6 = true → gb_iv 0 7 v2 → gb_iv 0 2 v4 → gb_iv (-1) 2147483647 v7 → gb_iv (-1) 4 v8 → gb_iv (-1) 4 v9 → gb_iv 0 4 v10 → gb_iv 0 2147483647 v11 → gb_iv (-2147483648) 2147483647 v12 → gb_iv 0 5 v13 → (5 - v10.toInt).toNat < M58 + 1 → (5 - v13.toInt).toNat < mm → gb_tc (cs_Face_two_108 n k58 mm σ v2 v4 v5 v6 v7 v8 v9 v10 v11 v12 v13) Q := by
  intro mm
  induction mm with
  | zero =>
    intro v2 v4 v5 v6 v7 v8 v9 v10 v11 v12 v13 hv5 hv6 iv2 iv4 iv7 iv8 iv9 iv10 iv11 iv12 iv13 hm58 hm
    exact absurd hm (Nat.not_lt_zero _)
  | succ mm ih =>
    intro v2 v4 v5 v6 v7 v8 v9 v10 v11 v12 v13 hv5 hv6 iv2 iv4 iv7 iv8 iv9 iv10 iv11 iv12 iv13 hm58 hm
    rw [cs_Face_two_108]
    refine gc_kk hv5 ?_
    refine gc_kk hv6 ?_
    refine gc_cdP (ct_Border_paths_B hn hT hv6) (fun r_55 qr_55 h_13522 => ?_)
    refine gc_if (fun c_13523 => ?_) (fun c_13523 => ?_)
    · refine gc_lti (lo := 1) (hi := 5) (gb_iadd (lo := 1) (hi := 5) iv10 (gb_ic (a := 1) (by decide)) (by decide)) (fun x_59 ex_59 ix_59 => ?_)
      exact hk58 _ _ _ _ _ _ _ _ hv5 hv6 iv2 iv4 iv7 iv8 iv9 (gb_iw (lo := 0) (hi := 5) ix_59 (by decide)) (gb_mup ex_59 iv10 (by decide) hm58)
    · have j_13524 : gb_iv 0 4 v13 := (gb_rU (lo := 0) (hi := 4) (gb_dnle c_13523) iv13 h_13522 (by decide))
      have j_13525 : gb_iv 1 5 r_55 := (gb_rL (lo := 1) (hi := 5) (gb_dnle c_13523) h_13522 j_13524 (by decide))
      refine gc_cdP (ct_Border_miles_B hn hT hv6 j_13524) (fun r_61 qr_61 h_13526 => ?_)
      refine gc_cdP (ct_Border_marksOver_B hn hT hv5 iv2) (fun r_65 qr_65 h_13527 => ?_)
      refine gc_cdP (ct_Border_payOf_B hn hT hv6 j_13524) (fun r_69 qr_69 h_13528 => ?_)
      refine gc_lti (lo := (-2147483648)) (hi := 2147483647) (gb_it _) (fun x_72 ex_72 ix_72 => ?_)
      refine gc_if (fun c_13529 => ?_) (fun c_13529 => ?_)
      · refine gc_lti (lo := 1) (hi := 5) (gb_iadd (lo := 1) (hi := 5) j_13524 (gb_ic (a := 1) (by decide)) (by decide)) (fun x_74 ex_74 ix_74 => ?_)
        exact ih _ _ _ _ _ _ _ _ _ _ _ hv5 hv6 iv2 iv4 iv7 iv8 iv9 iv10 iv11 (gb_it _) (gb_iw (lo := 0) (hi := 5) ix_74 (by decide)) hm58 (gb_mup ex_74 j_13524 (by decide) hm)
      · have j_13530 : gb_iv (-1) 2147483646 v7 := (gb_rU (lo := (-1)) (hi := 2147483646) (gb_dnle c_13529) iv7 (gb_it _) (by decide))
        have j_13531 : gb_iv 0 2147483647 x_72 := (gb_rL (lo := 0) (hi := 2147483647) (gb_dnle c_13529) (gb_it _) j_13530 (by decide))
        refine gc_lti (lo := 1) (hi := 5) (gb_iadd (lo := 1) (hi := 5) j_13524 (gb_ic (a := 1) (by decide)) (by decide)) (fun x_75 ex_75 ix_75 => ?_)
        exact ih _ _ _ _ _ _ _ _ _ _ _ hv5 hv6 iv2 iv4 (gb_iw (lo := (-1)) (hi := 2147483647) j_13531 (by decide)) (gb_iw (lo := (-1)) (hi := 4) iv10 (by decide)) (gb_iw (lo := (-1)) (hi := 4) j_13524 (by decide)) iv10 iv11 (gb_it _) (gb_iw (lo := 0) (hi := 5) ix_75 (by decide)) hm58 (gb_mup ex_75 j_13524 (by decide) hm)
set_option maxHeartbeats 4000000 in
theorem ct_Face_two_58 {n : Nat} (hn : gb_N ≤ n) {Q : gb_S → Int32 → Prop} {σ : gb_S} (hT : gb_TC σ) (hret : ∀ (r : Int32), gb_iv (-1) 2147483647 r → Q σ r) : ∀ (mm : Nat) (v2 : Int32) (v4 : Int32) (v5 : Nat) (v6 : Nat) (v7 : Int32) (v8 : Int32) (v9 : Int32) (v10 : Int32), gb_kB v5 = true → gb_kB v6 = true → gb_iv 0 7 v2 → gb_iv 0 2 v4 → gb_iv (-1) 2147483647 v7 → gb_iv (-1) 4 v8 → gb_iv (-1) 4 v9 → gb_iv 0 5 v10 → (5 - v10.toInt).toNat < mm → gb_tc (cs_Face_two_58 n mm σ v2 v4 v5 v6 v7 v8 v9 v10) Q := by
  intro mm
  induction mm with
  | zero =>
    intro v2 v4 v5 v6 v7 v8 v9 v10 hv5 hv6 iv2 iv4 iv7 iv8 iv9 iv10 hm
    exact absurd hm (Nat.not_lt_zero _)
  | succ mm ih =>
    intro v2 v4 v5 v6 v7 v8 v9 v10 hv5 hv6 iv2 iv4 iv7 iv8 iv9 iv10 hm
    rw [cs_Face_two_58]
    refine gc_kk hv5 ?_
    refine gc_kk hv6 ?_
    refine gc_cdP (ct_Border_paths_B hn hT hv5) (fun r_29 qr_29 h_13378 => ?_)
    refine gc_if (fun c_13379 => ?_) (fun c_13379 => ?_)
    · refine gc_if (fun c_13380 => ?_) (fun c_13380 => ?_)
      · have j_13381 : gb_iv 0 0 v4 := (gb_rU (lo := 0) (hi := 0) (gb_deq c_13380) iv4 (gb_ic (a := 0) (by decide)) (by decide))
        exact gc_some (hret _ (gb_iw (lo := (-1)) (hi := 2147483647) iv8 (by decide)))
      · have j_13382 : gb_iv 1 2 v4 := (gb_rN (lo := 1) (hi := 2) (v := 0) c_13380 iv4 (by decide) (by decide))
        refine gc_if (fun c_13383 => ?_) (fun c_13383 => ?_)
        · have j_13384 : gb_iv 1 1 v4 := (gb_rU (lo := 1) (hi := 1) (gb_deq c_13383) j_13382 (gb_ic (a := 1) (by decide)) (by decide))
          exact gc_some (hret _ (gb_iw (lo := (-1)) (hi := 2147483647) iv9 (by decide)))
        · have j_13385 : gb_iv 2 2 v4 := (gb_rN (lo := 2) (hi := 2) (v := 1) c_13383 j_13382 (by decide) (by decide))
          exact gc_some (hret _ iv7)
    · have j_13386 : gb_iv 0 4 v10 := (gb_rU (lo := 0) (hi := 4) (gb_dnle c_13379) iv10 h_13378 (by decide))
      have j_13387 : gb_iv 1 5 r_29 := (gb_rL (lo := 1) (hi := 5) (gb_dnle c_13379) h_13378 j_13386 (by decide))
      refine gc_cdP (ct_Border_boots_B hn hT hv5 iv2) (fun r_36 qr_36 h_13388 => ?_)
      refine gc_cdP (ct_Border_miles_B hn hT hv5 j_13386) (fun r_40 qr_40 h_13389 => ?_)
      refine gc_lti (lo := 0) (hi := 2147483647) (gb_imax (lo := 0) (hi := 2147483647) (gb_ic (a := 0) (by decide)) (gb_it _) (by decide)) (fun x_43 ex_43 ix_43 => ?_)
      refine gc_cdP (ct_Border_marksFirst_B hn hT hv5 iv2 j_13386) (fun r_45 qr_45 h_13390 => ?_)
      refine gc_cdP (ct_Border_payOf_B hn hT hv5 j_13386) (fun r_49 qr_49 h_13391 => ?_)
      exact ct_Face_two_108 hn hT ih hret n _ _ _ _ _ _ _ _ _ _ _ hv5 hv6 iv2 iv4 iv7 iv8 iv9 j_13386 ix_43 (gb_it _) (gb_iw (lo := 0) (hi := 5) (gb_ic (a := 0) (by decide)) (by decide)) hm (gb_fuu hn (gb_iw (lo := 0) (hi := 5) (gb_ic (a := 0) (by decide)) (by decide)) (by decide))
set_option maxHeartbeats 4000000 in
theorem ct_Face_two {n : Nat} (hn : gb_N ≤ n) {σ : gb_S} {p1 : Int32} {p2 : Int32} {p3 : Int32} {p4 : Int32} (hT : gb_TC σ) : gb_tc (cs_Face_two n σ p1 p2 p3 p4) (fun s r => s = σ ∧ gb_iv (-1) 2147483647 r) := by
  unfold cs_Face_two
  refine gc_cdP (ct_Face_borderAt hn hT) (fun r_2 qr_2 h_11490 => ?_)
  refine gc_if (fun c_11491 => ?_) (fun c_11491 => ?_)
  · refine gc_cdP (ct_Face_borderAt hn hT) (fun r_7 qr_7 h_11492 => ?_)
    refine gc_if (fun c_11493 => ?_) (fun c_11493 => ?_)
    · exact gc_some ⟨rfl, (gb_iw (lo := (-1)) (hi := 2147483647) (gb_ic (a := (-1)) (by decide)) (by decide))⟩
    · refine gc_kk (Or.resolve_left h_11492 c_11493) ?_
      exact gc_some ⟨rfl, (gb_iw (lo := (-1)) (hi := 2147483647) (gb_ic (a := (-1)) (by decide)) (by decide))⟩
  · refine gc_kk (Or.resolve_left h_11490 c_11491) ?_
    refine gc_cdP (ct_Face_borderAt hn hT) (fun r_14 qr_14 h_11494 => ?_)
    refine gc_if (fun c_11495 => ?_) (fun c_11495 => ?_)
    · exact gc_some ⟨rfl, (gb_iw (lo := (-1)) (hi := 2147483647) (gb_ic (a := (-1)) (by decide)) (by decide))⟩
    · refine gc_kk (Or.resolve_left h_11494 c_11495) ?_
      refine gc_cdP (ct_Border_hasGoose_B hn hT (Or.resolve_left h_11490 c_11491)) (fun r_20 qr_20 h_11496 => ?_)
      refine gc_if (fun c_11497 => ?_) (fun c_11497 => ?_)
      · have j_11498 : gb_iv 0 0 r_20 := (gb_rU (lo := 0) (hi := 0) (gb_deq c_11497) h_11496.1 (gb_ic (a := 0) (by decide)) (by decide))
        exact gc_some ⟨rfl, (gb_iw (lo := (-1)) (hi := 2147483647) (gb_ic (a := (-1)) (by decide)) (by decide))⟩
      · have j_11499 : gb_iv 1 1 r_20 := (gb_rN (lo := 1) (hi := 1) (v := 0) c_11497 h_11496.1 (by decide) (by decide))
        have j_11500 : gb_iv 0 7 p2 := (h_11496.2 c_11497)
        refine gc_if (fun c_11501 => ?_) (fun c_11501 => ?_)
        · have j_11502 : gb_iv (-2147483648) (-1) p4 := (gb_rU (lo := (-2147483648)) (hi := (-1)) (gb_dlt c_11501) (gb_it _) (gb_ic (a := 0) (by decide)) (by decide))
          exact gc_some ⟨rfl, (gb_iw (lo := (-1)) (hi := 2147483647) (gb_ic (a := (-1)) (by decide)) (by decide))⟩
        · have j_11503 : gb_iv 0 2147483647 p4 := (gb_rL (lo := 0) (hi := 2147483647) (gb_dnlt c_11501) (gb_it _) (gb_ic (a := 0) (by decide)) (by decide))
          refine gc_if (fun c_11504 => ?_) (fun c_11504 => ?_)
          · have j_11505 : gb_iv 0 2 p4 := (gb_rU (lo := 0) (hi := 2) (gb_dle c_11504) j_11503 (gb_ic (a := 2) (by decide)) (by decide))
            exact ct_Face_two_58 hn hT (fun _ h => ⟨rfl, h⟩) n _ _ _ _ _ _ _ _ (Or.resolve_left h_11490 c_11491) (Or.resolve_left h_11494 c_11495) j_11500 j_11505 (gb_iw (lo := (-1)) (hi := 2147483647) (gb_ic (a := (-1)) (by decide)) (by decide)) (gb_iw (lo := (-1)) (hi := 4) (gb_ic (a := (-1)) (by decide)) (by decide)) (gb_iw (lo := (-1)) (hi := 4) (gb_ic (a := (-1)) (by decide)) (by decide)) (gb_iw (lo := 0) (hi := 5) (gb_ic (a := 0) (by decide)) (by decide)) (gb_fuu hn (gb_iw (lo := 0) (hi := 5) (gb_ic (a := 0) (by decide)) (by decide)) (by decide))
          · have j_13532 : gb_iv 3 2147483647 p4 := (gb_rL (lo := 3) (hi := 2147483647) (gb_dnle c_11504) j_11503 (gb_ic (a := 2) (by decide)) (by decide))
            exact gc_some ⟨rfl, (gb_iw (lo := (-1)) (hi := 2147483647) (gb_ic (a := (-1)) (by decide)) (by decide))⟩
set_option maxHeartbeats 4000000 in
theorem ct_Face_alike_43 {n : Nat} (hn : gb_N ≤ n) {Q : gb_S → Int32 → Prop} {σ : gb_S} (hT : gb_TC σ) (hret : ∀ (r : Int32), gb_iv (-1) 255 r → Q σ r) : ∀ (mm : Nat) (v2 : Int32) (v3 : Int32) (v4 : Nat) (v5 : Int32) (v6 : Int32), gb_kB v4 = true → gb_iv 0 7 v2 → gb_iv 0 7 v3 → gb_iv 0 255 v5 → gb_iv 0 5 v6 → (5 - v6.toInt).toNat < mm → gb_tc (cs_Face_alike_43 n mm σ v2 v3 v4 v5 v6) Q := by
  intro mm
  induction mm with
  | zero =>
    intro v2 v3 v4 v5 v6 hv4 iv2 iv3 iv5 iv6 hm
    exact absurd hm (Nat.not_lt_zero _)
  | succ mm ih =>
    intro v2 v3 v4 v5 v6 hv4 iv2 iv3 iv5 iv6 hm
    rw [cs_Face_alike_43]
    refine gc_kk hv4 ?_
    refine gc_cdP (ct_Border_paths_B hn hT hv4) (fun r_20 qr_20 h_13741 => ?_)
    refine gc_if (fun c_13742 => ?_) (fun c_13742 => ?_)
    · exact gc_some (hret _ (gb_iw (lo := (-1)) (hi := 255) iv5 (by decide)))
    · have j_13743 : gb_iv 0 4 v6 := (gb_rU (lo := 0) (hi := 4) (gb_dnle c_13742) iv6 h_13741 (by decide))
      have j_13744 : gb_iv 1 5 r_20 := (gb_rL (lo := 1) (hi := 5) (gb_dnle c_13742) h_13741 j_13743 (by decide))
      refine gc_cdP (ct_Border_marksFirst_B hn hT hv4 iv2 j_13743) (fun r_25 qr_25 h_13745 => ?_)
      refine gc_cdP (ct_Border_marksFirst_B hn hT hv4 iv3 j_13743) (fun r_29 qr_29 h_13746 => ?_)
      refine gc_if (fun c_13747 => ?_) (fun c_13747 => ?_)
      · refine gc_lti (lo := 0) (hi := 255) (gb_ior iv5 (gb_iw (lo := 0) (hi := 255) (gb_ishl (lo := 1) (hi := 16) j_13743 (by decide)) (by decide))) (fun x_34 ex_34 ix_34 => ?_)
        refine gc_lti (lo := 1) (hi := 5) (gb_iadd (lo := 1) (hi := 5) j_13743 (gb_ic (a := 1) (by decide)) (by decide)) (fun x_35 ex_35 ix_35 => ?_)
        exact ih _ _ _ _ _ hv4 iv2 iv3 ix_34 (gb_iw (lo := 0) (hi := 5) ix_35 (by decide)) (gb_mup ex_35 j_13743 (by decide) hm)
      · refine gc_lti (lo := 1) (hi := 5) (gb_iadd (lo := 1) (hi := 5) j_13743 (gb_ic (a := 1) (by decide)) (by decide)) (fun x_33 ex_33 ix_33 => ?_)
        exact ih _ _ _ _ _ hv4 iv2 iv3 iv5 (gb_iw (lo := 0) (hi := 5) ix_33 (by decide)) (gb_mup ex_33 j_13743 (by decide) hm)
set_option maxHeartbeats 4000000 in
theorem ct_Face_alike {n : Nat} (hn : gb_N ≤ n) {σ : gb_S} {p1 : Int32} {p2 : Int32} {p3 : Int32} (hT : gb_TC σ) : gb_tc (cs_Face_alike n σ p1 p2 p3) (fun s r => s = σ ∧ gb_iv (-1) 255 r) := by
  unfold cs_Face_alike
  refine gc_cdP (ct_Face_borderAt hn hT) (fun r_2 qr_2 h_13637 => ?_)
  refine gc_if (fun c_13638 => ?_) (fun c_13638 => ?_)
  · exact gc_some ⟨rfl, (gb_iw (lo := (-1)) (hi := 255) (gb_ic (a := (-1)) (by decide)) (by decide))⟩
  · refine gc_kk (Or.resolve_left h_13637 c_13638) ?_
    refine gc_if (fun c_13639 => ?_) (fun c_13639 => ?_)
    · exact gc_some ⟨rfl, (gb_iw (lo := (-1)) (hi := 255) (gb_ic (a := (-1)) (by decide)) (by decide))⟩
    · refine gc_cdP (ct_Border_hasGoose_B hn hT (Or.resolve_left h_13637 c_13638)) (fun r_9 qr_9 h_13640 => ?_)
      refine gc_if (fun c_13641 => ?_) (fun c_13641 => ?_)
      · have j_13642 : gb_iv 0 0 r_9 := (gb_rU (lo := 0) (hi := 0) (gb_deq c_13641) h_13640.1 (gb_ic (a := 0) (by decide)) (by decide))
        exact gc_some ⟨rfl, (gb_iw (lo := (-1)) (hi := 255) (gb_ic (a := (-1)) (by decide)) (by decide))⟩
      · have j_13643 : gb_iv 1 1 r_9 := (gb_rN (lo := 1) (hi := 1) (v := 0) c_13641 h_13640.1 (by decide) (by decide))
        have j_13644 : gb_iv 0 7 p2 := (h_13640.2 c_13641)
        refine gc_cdP (ct_Border_hasGoose_B hn hT (Or.resolve_left h_13637 c_13638)) (fun r_14 qr_14 h_13645 => ?_)
        refine gc_if (fun c_13646 => ?_) (fun c_13646 => ?_)
        · have j_13647 : gb_iv 0 0 r_14 := (gb_rU (lo := 0) (hi := 0) (gb_deq c_13646) h_13645.1 (gb_ic (a := 0) (by decide)) (by decide))
          exact gc_some ⟨rfl, (gb_iw (lo := (-1)) (hi := 255) (gb_ic (a := (-1)) (by decide)) (by decide))⟩
        · have j_13648 : gb_iv 1 1 r_14 := (gb_rN (lo := 1) (hi := 1) (v := 0) c_13646 h_13645.1 (by decide) (by decide))
          have j_13649 : gb_iv 0 7 p3 := (h_13645.2 c_13646)
          exact ct_Face_alike_43 hn hT (fun _ h => ⟨rfl, h⟩) n _ _ _ _ _ (Or.resolve_left h_13637 c_13638) j_13644 j_13649 (gb_iw (lo := 0) (hi := 255) (gb_ic (a := 0) (by decide)) (by decide)) (gb_iw (lo := 0) (hi := 5) (gb_ic (a := 0) (by decide)) (by decide)) (gb_fuu hn (gb_iw (lo := 0) (hi := 5) (gb_ic (a := 0) (by decide)) (by decide)) (by decide))
set_option maxHeartbeats 4000000 in
theorem ct_Face_tar_51 {n : Nat} (hn : gb_N ≤ n) {Q : gb_S → Int32 → Prop} {σ : gb_S} (hT : gb_TC σ) (hret : ∀ (r : Int32), gb_iv (-2147483648) 2147483647 r → Q σ r) : ∀ (mm : Nat) (v2 : Int32) (v4 : Nat) (v5 : Int32) (v6 : Int32) (v7 : Int32), gb_kB v4 = true → gb_iv 0 4 v2 → gb_iv (-2147483648) 2147483647 v5 → gb_iv (-2147483648) 2147483647 v6 → gb_iv 0 12 v7 → (v7.toInt - 0).toNat < mm → gb_tc (cs_Face_tar_51 n mm σ v2 v4 v5 v6 v7) Q := by
  intro mm
  induction mm with
  | zero =>
    intro v2 v4 v5 v6 v7 hv4 iv2 iv5 iv6 iv7 hm
    exact absurd hm (Nat.not_lt_zero _)
  | succ mm ih =>
    intro v2 v4 v5 v6 v7 hv4 iv2 iv5 iv6 iv7 hm
    rw [cs_Face_tar_51]
    refine gc_kk hv4 ?_
    refine gc_if (fun c_14083 => ?_) (fun c_14083 => ?_)
    · have j_14084 : gb_iv 0 0 v7 := (gb_rU (lo := 0) (hi := 0) (gb_dle c_14083) iv7 (gb_ic (a := 0) (by decide)) (by decide))
      refine gc_if (fun c_14085 => ?_) (fun c_14085 => ?_)
      · have j_14086 : gb_iv (-2147483648) 0 v5 := (gb_rU (lo := (-2147483648)) (hi := 0) (gb_dle c_14085) (gb_it _) (gb_ic (a := 0) (by decide)) (by decide))
        exact gc_some (hret _ (gb_it _))
      · have j_14087 : gb_iv 1 2147483647 v5 := (gb_rL (lo := 1) (hi := 2147483647) (gb_dnle c_14085) (gb_it _) (gb_ic (a := 0) (by decide)) (by decide))
        exact gc_some (hret _ (gb_iw (lo := (-2147483648)) (hi := 2147483647) (gb_ic (a := (-1)) (by decide)) (by decide)))
    · have j_14088 : gb_iv 1 12 v7 := (gb_rL (lo := 1) (hi := 12) (gb_dnle c_14083) iv7 (gb_ic (a := 0) (by decide)) (by decide))
      refine gc_if (fun c_14089 => ?_) (fun c_14089 => ?_)
      · have j_14090 : gb_iv (-2147483648) 0 v5 := (gb_rU (lo := (-2147483648)) (hi := 0) (gb_dle c_14089) (gb_it _) (gb_ic (a := 0) (by decide)) (by decide))
        refine gc_if (fun c_14091 => ?_) (fun c_14091 => ?_)
        · exact gc_some (hret _ (gb_it _))
        · exact (gb_em (gb_rL (lo := 1) (hi := 0) (gb_dnle c_14091) j_14090 (gb_ic (a := 0) (by decide)) (by decide)) (by decide)).elim
      · have j_14092 : gb_iv 1 2147483647 v5 := (gb_rL (lo := 1) (hi := 2147483647) (gb_dnle c_14089) (gb_it _) (gb_ic (a := 0) (by decide)) (by decide))
        refine gc_cdP (ct_Border_milesThatSpare_B hn hT hv4 iv2) (fun r_25 qr_25 h_14093 => ?_)
        refine gc_nz j_14088 (by decide) ?_
        refine gc_lti (lo := (-2147483648)) (hi := 2147483647) (gb_it _) (fun x_29 ex_29 ix_29 => ?_)
        refine gc_lti (lo := (-2147483648)) (hi := 2147483647) (gb_imin (lo := (-2147483648)) (hi := 2147483647) (gb_it _) (gb_it _) (by decide)) (fun x_30 ex_30 ix_30 => ?_)
        refine gc_lti (lo := (-2147483648)) (hi := 2147483647) (gb_it _) (fun x_31 ex_31 ix_31 => ?_)
        refine gc_lti (lo := (-2147483648)) (hi := 2147483647) (gb_it _) (fun x_32 ex_32 ix_32 => ?_)
        refine gc_lti (lo := 0) (hi := 11) (gb_iadd (lo := 0) (hi := 11) j_14088 (gb_ic (a := (-1)) (by decide)) (by decide)) (fun x_33 ex_33 ix_33 => ?_)
        exact ih _ _ _ _ _ hv4 iv2 (gb_it _) (gb_it _) (gb_iw (lo := 0) (hi := 12) ix_33 (by decide)) (gb_mdn ex_33 j_14088 (by decide) hm)
set_option maxHeartbeats 4000000 in
theorem ct_Face_tar {n : Nat} (hn : gb_N ≤ n) {σ : gb_S} {p1 : Int32} {p2 : Int32} {p3 : Int32} (hT : gb_TC σ) : gb_tc (cs_Face_tar n σ p1 p2 p3) (fun s r => s = σ ∧ gb_iv (-2147483648) 2147483647 r) := by
  unfold cs_Face_tar
  refine gc_cdP (ct_Face_borderAt hn hT) (fun r_2 qr_2 h_13916 => ?_)
  refine gc_if (fun c_13917 => ?_) (fun c_13917 => ?_)
  · exact gc_some ⟨rfl, (gb_iw (lo := (-2147483648)) (hi := 2147483647) (gb_ic (a := (-1)) (by decide)) (by decide))⟩
  · refine gc_kk (Or.resolve_left h_13916 c_13917) ?_
    refine gc_cdP (ct_Border_hasPath_B hn hT (Or.resolve_left h_13916 c_13917)) (fun r_8 qr_8 h_13918 => ?_)
    refine gc_if (fun c_13919 => ?_) (fun c_13919 => ?_)
    · have j_13920 : gb_iv 0 0 r_8 := (gb_rU (lo := 0) (hi := 0) (gb_deq c_13919) h_13918.1 (gb_ic (a := 0) (by decide)) (by decide))
      exact gc_some ⟨rfl, (gb_iw (lo := (-2147483648)) (hi := 2147483647) (gb_ic (a := (-1)) (by decide)) (by decide))⟩
    · have j_13921 : gb_iv 1 1 r_8 := (gb_rN (lo := 1) (hi := 1) (v := 0) c_13919 h_13918.1 (by decide) (by decide))
      have j_13922 : gb_iv 0 4 p2 := (h_13918.2 c_13919)
      refine gc_if (fun c_13923 => ?_) (fun c_13923 => ?_)
      · have j_13924 : gb_iv (-2147483648) (-1) p3 := (gb_rU (lo := (-2147483648)) (hi := (-1)) (gb_dlt c_13923) (gb_it _) (gb_ic (a := 0) (by decide)) (by decide))
        exact gc_some ⟨rfl, (gb_iw (lo := (-2147483648)) (hi := 2147483647) (gb_ic (a := (-1)) (by decide)) (by decide))⟩
      · have j_13925 : gb_iv 0 2147483647 p3 := (gb_rL (lo := 0) (hi := 2147483647) (gb_dnlt c_13923) (gb_it _) (gb_ic (a := 0) (by decide)) (by decide))
        refine gc_if (fun c_13926 => ?_) (fun c_13926 => ?_)
        · have j_13927 : gb_iv 0 9999 p3 := (gb_rU (lo := 0) (hi := 9999) (gb_dle c_13926) j_13925 (gb_ic (a := 9999) (by decide)) (by decide))
          refine gc_cdP (ct_Border_barefoot_B hn hT (Or.resolve_left h_13916 c_13917) j_13922) (fun r_15 qr_15 h_13928 => ?_)
          refine gc_lti (lo := (-2147483648)) (hi := 2147483647) (gb_it _) (fun x_18 ex_18 ix_18 => ?_)
          exact ct_Face_tar_51 hn hT (fun _ h => ⟨rfl, h⟩) n _ _ _ _ _ (Or.resolve_left h_13916 c_13917) j_13922 (gb_it _) (gb_iw (lo := (-2147483648)) (hi := 2147483647) (gb_ic (a := 0) (by decide)) (by decide)) (gb_iw (lo := 0) (hi := 12) (gb_ic (a := 12) (by decide)) (by decide)) (gb_fud hn (gb_iw (lo := 0) (hi := 12) (gb_ic (a := 12) (by decide)) (by decide)) (by decide))
        · have j_14094 : gb_iv 10000 2147483647 p3 := (gb_rL (lo := 10000) (hi := 2147483647) (gb_dnle c_13926) j_13925 (gb_ic (a := 9999) (by decide)) (by decide))
          exact gc_some ⟨rfl, (gb_iw (lo := (-2147483648)) (hi := 2147483647) (gb_ic (a := (-1)) (by decide)) (by decide))⟩
set_option maxHeartbeats 4000000 in
theorem ct_Flocks_sumUp_B_c131_44 {n : Nat} (hn : gb_N ≤ n) {Q : gb_S → Unit → Prop} {k17 : gb_S → Nat → Int32 → Int32 → gb_CR Unit} {M17 : Nat} (hk17 : ∀ (σ : gb_S) (v1 : Nat) (v2 : Int32) (v4 : Int32), gb_TC σ → gb_kB v1 = true → gb_iv 0 4 v2 → gb_iv 0 8 v4 → (8 - v4.toInt).toNat < M17 → gb_tc (k17 σ v1 v2 v4) Q) (hret : ∀ (σ : gb_S) (r : Unit), gb_TC σ → True → Q σ r) : ∀ (mm : Nat) (σ : gb_S) (v1 : Nat) (v2 : Int32) (v4 : Int32) (v5 : Int32) (v6 : Int32) (v7 : Int32), gb_TC σ → gb_kB v1 = true → gb_iv 0 4 v2 → gb_iv 0 7 v4 → gb_iv (-2147483648) 2147483647 v5 → gb_iv 1 128 v6 → gb_iv 0 128 v7 → (8 - v4.toInt).toNat < M17 + 1 → (128 - v7.toInt).toNat < mm → gb_tc (cs_Flocks_sumUp_B_c131_44 n k17 mm σ v1 v2 v4 v5 v6 v7) Q := by
  intro mm
  induction mm with
  | zero =>
    intro σ v1 v2 v4 v5 v6 v7 hT hv1 iv2 iv4 iv5 iv6 iv7 hm17 hm
    exact absurd hm (Nat.not_lt_zero _)
  | succ mm ih =>
    intro σ v1 v2 v4 v5 v6 v7 hT hv1 iv2 iv4 iv5 iv6 iv7 hm17 hm
    rw [cs_Flocks_sumUp_B_c131_44]
    refine gc_kk hv1 ?_
    refine gc_if (fun c_16434 => ?_) (fun c_16434 => ?_)
    · have j_16435 : gb_iv 1 128 v7 := (gb_rL (lo := 1) (hi := 128) (gb_dle c_16434) iv7 iv6 (by decide))
      refine gc_lti (lo := 1) (hi := 8) (gb_iadd (lo := 1) (hi := 8) iv4 (gb_ic (a := 1) (by decide)) (by decide)) (fun x_21 ex_21 ix_21 => ?_)
      exact hk17 _ _ _ _ hT hv1 iv2 (gb_iw (lo := 0) (hi := 8) ix_21 (by decide)) (gb_mup ex_21 iv4 (by decide) hm17)
    · have j_16436 : gb_iv 0 127 v7 := (gb_rU (lo := 0) (hi := 127) (gb_dnle c_16434) iv7 iv6 (by decide))
      refine gc_ck j_16436 (by decide) ?_
      refine gc_lti (lo := (-2147483648)) (hi := 2147483647) (gb_it _) (fun x_23 ex_23 ix_23 => ?_)
      refine gc_ck (gb_iadd (lo := 1) (hi := 255) iv6 j_16436 (by decide)) (by decide) ?_
      refine gc_ltT (gc_su0 hT (rfl : gc_cat 131 = 0)) (fun s_25 es_25 hTs_25 => ?_)
      refine gc_lti (lo := 1) (hi := 128) (gb_iadd (lo := 1) (hi := 128) j_16436 (gb_ic (a := 1) (by decide)) (by decide)) (fun x_26 ex_26 ix_26 => ?_)
      exact ih _ _ _ _ _ _ _ hTs_25 hv1 iv2 iv4 (gb_it _) iv6 (gb_iw (lo := 0) (hi := 128) ix_26 (by decide)) hm17 (gb_mup ex_26 j_16436 (by decide) hm)
set_option maxHeartbeats 4000000 in
theorem ct_Flocks_sumUp_B_c131_17 {n : Nat} (hn : gb_N ≤ n) {Q : gb_S → Unit → Prop} (hret : ∀ (σ : gb_S) (r : Unit), gb_TC σ → True → Q σ r) : ∀ (mm : Nat) (σ : gb_S) (v1 : Nat) (v2 : Int32) (v4 : Int32), gb_TC σ → gb_kB v1 = true → gb_iv 0 4 v2 → gb_iv 0 8 v4 → (8 - v4.toInt).toNat < mm → gb_tc (cs_Flocks_sumUp_B_c131_17 n mm σ v1 v2 v4) Q := by
  intro mm
  induction mm with
  | zero =>
    intro σ v1 v2 v4 hT hv1 iv2 iv4 hm
    exact absurd hm (Nat.not_lt_zero _)
  | succ mm ih =>
    intro σ v1 v2 v4 hT hv1 iv2 iv4 hm
    rw [cs_Flocks_sumUp_B_c131_17]
    refine gc_kk hv1 ?_
    refine gc_cdP (ct_Border_geese_B hn hT hv1) (fun r_10 qr_10 h_16341 => ?_)
    refine gc_if (fun c_16342 => ?_) (fun c_16342 => ?_)
    · exact gc_some (hret _ _ hT trivial)
    · have j_16343 : gb_iv 0 7 v4 := (gb_rU (lo := 0) (hi := 7) (gb_dnle c_16342) iv4 h_16341 (by decide))
      have j_16344 : gb_iv 1 8 r_10 := (gb_rL (lo := 1) (hi := 8) (gb_dnle c_16342) h_16341 j_16343 (by decide))
      refine gc_cdP (ct_Border_marksFirst_B hn hT hv1 j_16343 iv2) (fun r_15 qr_15 h_16345 => ?_)
      refine gc_lti (lo := 1) (hi := 128) (gb_ishl (lo := 1) (hi := 128) j_16343 (by decide)) (fun x_18 ex_18 ix_18 => ?_)
      exact ct_Flocks_sumUp_B_c131_44 hn ih hret n _ _ _ _ _ _ _ hT hv1 iv2 j_16343 (gb_it _) ix_18 (gb_iw (lo := 0) (hi := 128) (gb_ic (a := 0) (by decide)) (by decide)) hm (gb_fuu hn (gb_iw (lo := 0) (hi := 128) (gb_ic (a := 0) (by decide)) (by decide)) (by decide))
set_option maxHeartbeats 4000000 in
theorem ct_Flocks_sumUp_B_c131 {n : Nat} (hn : gb_N ≤ n) {σ : gb_S} {p1 : Nat} {p2 : Int32} (hT : gb_TC σ) (hp1 : gb_kB p1 = true) (ip2 : gb_iv 0 4 p2) : gb_tc (cs_Flocks_sumUp_B_c131 n σ p1 p2) (fun s _ => gb_TC s ∧ True) := by
  unfold cs_Flocks_sumUp_B_c131
  refine gc_kk hp1 ?_
  refine gc_cdP (ct_Border_geese_B hn hT hp1) (fun r_3 qr_3 h_15218 => ?_)
  refine gc_ltT (gc_su (c := 11) (lo := 0) (hi := 256) hT (rfl : gc_cat 130 = 11) (gb_iw (lo := 0) (hi := 256) (gb_ishl (lo := 1) (hi := 256) h_15218 (by decide)) (by decide)) (by decide)) (fun s_6 es_6 hTs_6 => ?_)
  refine gc_ltT (gc_su0 hTs_6 (rfl : gc_cat 131 = 0)) (fun s_7 es_7 hTs_7 => ?_)
  exact ct_Flocks_sumUp_B_c131_17 hn (fun _ _ hT h => ⟨hT, h⟩) n _ _ _ _ hTs_7 hp1 ip2 (gb_iw (lo := 0) (hi := 8) (gb_ic (a := 0) (by decide)) (by decide)) (gb_fuu hn (gb_iw (lo := 0) (hi := 8) (gb_ic (a := 0) (by decide)) (by decide)) (by decide))
set_option maxHeartbeats 4000000 in
theorem ct_Flocks_sumUp_B_c132_44 {n : Nat} (hn : gb_N ≤ n) {Q : gb_S → Unit → Prop} {k17 : gb_S → Nat → Int32 → Int32 → gb_CR Unit} {M17 : Nat} (hk17 : ∀ (σ : gb_S) (v1 : Nat) (v2 : Int32) (v4 : Int32), gb_TC σ → gb_kB v1 = true → gb_iv 0 4 v2 → gb_iv 0 8 v4 → (8 - v4.toInt).toNat < M17 → gb_tc (k17 σ v1 v2 v4) Q) (hret : ∀ (σ : gb_S) (r : Unit), gb_TC σ → True → Q σ r) : ∀ (mm : Nat) (σ : gb_S) (v1 : Nat) (v2 : Int32) (v4 : Int32) (v5 : Int32) (v6 : Int32) (v7 : Int32), gb_TC σ → gb_kB v1 = true → gb_iv 0 4 v2 → gb_iv 0 7 v4 → gb_iv (-2147483648) 2147483647 v5 → gb_iv 1 128 v6 → gb_iv 0 128 v7 → (8 - v4.toInt).toNat < M17 + 1 → (128 - v7.toInt).toNat < mm → gb_tc (cs_Flocks_sumUp_B_c132_44 n k17 mm σ v1 v2 v4 v5 v6 v7) Q := by
  intro mm
  induction mm with
  | zero =>
    intro σ v1 v2 v4 v5 v6 v7 hT hv1 iv2 iv4 iv5 iv6 iv7 hm17 hm
    exact absurd hm (Nat.not_lt_zero _)
  | succ mm ih =>
    intro σ v1 v2 v4 v5 v6 v7 hT hv1 iv2 iv4 iv5 iv6 iv7 hm17 hm
    rw [cs_Flocks_sumUp_B_c132_44]
    refine gc_kk hv1 ?_
    refine gc_if (fun c_18776 => ?_) (fun c_18776 => ?_)
    · have j_18777 : gb_iv 1 128 v7 := (gb_rL (lo := 1) (hi := 128) (gb_dle c_18776) iv7 iv6 (by decide))
      refine gc_lti (lo := 1) (hi := 8) (gb_iadd (lo := 1) (hi := 8) iv4 (gb_ic (a := 1) (by decide)) (by decide)) (fun x_21 ex_21 ix_21 => ?_)
      exact hk17 _ _ _ _ hT hv1 iv2 (gb_iw (lo := 0) (hi := 8) ix_21 (by decide)) (gb_mup ex_21 iv4 (by decide) hm17)
    · have j_18778 : gb_iv 0 127 v7 := (gb_rU (lo := 0) (hi := 127) (gb_dnle c_18776) iv7 iv6 (by decide))
      refine gc_ck j_18778 (by decide) ?_
      refine gc_lti (lo := (-2147483648)) (hi := 2147483647) (gb_it _) (fun x_23 ex_23 ix_23 => ?_)
      refine gc_ck (gb_iadd (lo := 1) (hi := 255) iv6 j_18778 (by decide)) (by decide) ?_
      refine gc_ltT (gc_su0 hT (rfl : gc_cat 132 = 0)) (fun s_25 es_25 hTs_25 => ?_)
      refine gc_lti (lo := 1) (hi := 128) (gb_iadd (lo := 1) (hi := 128) j_18778 (gb_ic (a := 1) (by decide)) (by decide)) (fun x_26 ex_26 ix_26 => ?_)
      exact ih _ _ _ _ _ _ _ hTs_25 hv1 iv2 iv4 (gb_it _) iv6 (gb_iw (lo := 0) (hi := 128) ix_26 (by decide)) hm17 (gb_mup ex_26 j_18778 (by decide) hm)
set_option maxHeartbeats 4000000 in
theorem ct_Flocks_sumUp_B_c132_17 {n : Nat} (hn : gb_N ≤ n) {Q : gb_S → Unit → Prop} (hret : ∀ (σ : gb_S) (r : Unit), gb_TC σ → True → Q σ r) : ∀ (mm : Nat) (σ : gb_S) (v1 : Nat) (v2 : Int32) (v4 : Int32), gb_TC σ → gb_kB v1 = true → gb_iv 0 4 v2 → gb_iv 0 8 v4 → (8 - v4.toInt).toNat < mm → gb_tc (cs_Flocks_sumUp_B_c132_17 n mm σ v1 v2 v4) Q := by
  intro mm
  induction mm with
  | zero =>
    intro σ v1 v2 v4 hT hv1 iv2 iv4 hm
    exact absurd hm (Nat.not_lt_zero _)
  | succ mm ih =>
    intro σ v1 v2 v4 hT hv1 iv2 iv4 hm
    rw [cs_Flocks_sumUp_B_c132_17]
    refine gc_kk hv1 ?_
    refine gc_cdP (ct_Border_geese_B hn hT hv1) (fun r_10 qr_10 h_18683 => ?_)
    refine gc_if (fun c_18684 => ?_) (fun c_18684 => ?_)
    · exact gc_some (hret _ _ hT trivial)
    · have j_18685 : gb_iv 0 7 v4 := (gb_rU (lo := 0) (hi := 7) (gb_dnle c_18684) iv4 h_18683 (by decide))
      have j_18686 : gb_iv 1 8 r_10 := (gb_rL (lo := 1) (hi := 8) (gb_dnle c_18684) h_18683 j_18685 (by decide))
      refine gc_cdP (ct_Border_marksFirst_B hn hT hv1 j_18685 iv2) (fun r_15 qr_15 h_18687 => ?_)
      refine gc_lti (lo := 1) (hi := 128) (gb_ishl (lo := 1) (hi := 128) j_18685 (by decide)) (fun x_18 ex_18 ix_18 => ?_)
      exact ct_Flocks_sumUp_B_c132_44 hn ih hret n _ _ _ _ _ _ _ hT hv1 iv2 j_18685 (gb_it _) ix_18 (gb_iw (lo := 0) (hi := 128) (gb_ic (a := 0) (by decide)) (by decide)) hm (gb_fuu hn (gb_iw (lo := 0) (hi := 128) (gb_ic (a := 0) (by decide)) (by decide)) (by decide))
set_option maxHeartbeats 4000000 in
theorem ct_Flocks_sumUp_B_c132 {n : Nat} (hn : gb_N ≤ n) {σ : gb_S} {p1 : Nat} {p2 : Int32} (hT : gb_TC σ) (hp1 : gb_kB p1 = true) (ip2 : gb_iv 0 4 p2) : gb_tc (cs_Flocks_sumUp_B_c132 n σ p1 p2) (fun s _ => gb_TC s ∧ True) := by
  unfold cs_Flocks_sumUp_B_c132
  refine gc_kk hp1 ?_
  refine gc_cdP (ct_Border_geese_B hn hT hp1) (fun r_3 qr_3 h_17560 => ?_)
  refine gc_ltT (gc_su (c := 11) (lo := 0) (hi := 256) hT (rfl : gc_cat 130 = 11) (gb_iw (lo := 0) (hi := 256) (gb_ishl (lo := 1) (hi := 256) h_17560 (by decide)) (by decide)) (by decide)) (fun s_6 es_6 hTs_6 => ?_)
  refine gc_ltT (gc_su0 hTs_6 (rfl : gc_cat 132 = 0)) (fun s_7 es_7 hTs_7 => ?_)
  exact ct_Flocks_sumUp_B_c132_17 hn (fun _ _ hT h => ⟨hT, h⟩) n _ _ _ _ hTs_7 hp1 ip2 (gb_iw (lo := 0) (hi := 8) (gb_ic (a := 0) (by decide)) (by decide)) (gb_fuu hn (gb_iw (lo := 0) (hi := 8) (gb_ic (a := 0) (by decide)) (by decide)) (by decide))
set_option maxHeartbeats 4000000 in
theorem ct_java_lang_Integer_bitCount {n : Nat} (hn : gb_N ≤ n) {σ : gb_S} {p1 : Int32} (hT : gb_TC σ) : gb_tc (cs_java_lang_Integer_bitCount n σ p1) (fun s r => s = σ ∧ gb_iv 0 63 r) := by
  unfold cs_java_lang_Integer_bitCount
  refine gc_lti (lo := (-2147483648)) (hi := 2147483647) (gb_it _) (fun x_1 ex_1 ix_1 => ?_)
  refine gc_lti (lo := 0) (hi := 1717986918) (gb_iadd (lo := 0) (hi := 1717986918) (gb_iandr (lo := 0) (hi := 858993459) (gb_iw (lo := 0) (hi := 858993459) (gb_ic (a := 858993459) (by decide)) (by decide)) (by decide)) (gb_iandr (lo := 0) (hi := 858993459) (gb_iw (lo := 0) (hi := 858993459) (gb_ic (a := 858993459) (by decide)) (by decide)) (by decide)) (by decide)) (fun x_2 ex_2 ix_2 => ?_)
  refine gc_lti (lo := 0) (hi := 252645135) (gb_iandr (lo := 0) (hi := 252645135) (gb_iw (lo := 0) (hi := 252645135) (gb_ic (a := 252645135) (by decide)) (by decide)) (by decide)) (fun x_3 ex_3 ix_3 => ?_)
  refine gc_lti (lo := (-2147483648)) (hi := 2147483647) (gb_it _) (fun x_4 ex_4 ix_4 => ?_)
  refine gc_lti (lo := (-2147483648)) (hi := 2147483647) (gb_it _) (fun x_5 ex_5 ix_5 => ?_)
  exact gc_some ⟨rfl, (gb_iandr (lo := 0) (hi := 63) (gb_iw (lo := 0) (hi := 63) (gb_ic (a := 63) (by decide)) (by decide)) (by decide))⟩
set_option maxHeartbeats 4000000 in
theorem ct_Flocks_marksOfAny_B_76 {n : Nat} (hn : gb_N ≤ n) {Q : gb_S → Int32 → Prop} {k16 : gb_S → Int32 → Int32 → Int32 → Int32 → gb_CR Int32} {M16 : Nat} (hk16 : ∀ (σ : gb_S) (v3 : Int32) (v4 : Int32) (v5 : Int32) (v6 : Int32), gb_TC σ → gb_iv (-2147483648) 2147483647 v3 → gb_iv (-2147483648) 2147483647 v4 → gb_iv (-2147483648) 2147483647 v5 → gb_iv 0 256 v6 → (256 - v6.toInt).toNat < M16 → gb_tc (k16 σ v3 v4 v5 v6) Q) (hret : ∀ (σ : gb_S) (r : Int32), gb_TC σ → gb_iv (-2147483648) 2147483647 r → Q σ r) : ∀ (σ : gb_S) (v3 : Int32) (v4 : Int32) (v5 : Int32) (v6 : Int32) (t0 : Int32), gb_TC σ → gb_iv 0 63 v3 → gb_iv 0 0 v4 → gb_iv (-2147483648) 2147483647 v5 → gb_iv 0 255 v6 → gb_iv 0 0 t0 → (256 - v6.toInt).toNat < M16 + 1 → gb_tc (cs_Flocks_marksOfAny_B_76 n k16 σ v3 v4 v5 v6 t0) Q := by
  intro σ v3 v4 v5 v6 t0 hT iv3 iv4 iv5 iv6 it0 hm16
  unfold cs_Flocks_marksOfAny_B_76
  refine gc_if (fun c_20752 => ?_) (fun c_20752 => ?_)
  · have j_20753 : gb_iv (-2147483648) (-1) v5 := (gb_rU (lo := (-2147483648)) (hi := (-1)) (gb_deq c_20752) (gb_it _) (gb_ic (a := (-1)) (by decide)) (by decide))
    have j_20754 : gb_iv (-1) (-1) v5 := (gb_rL (lo := (-1)) (hi := (-1)) (gb_deq2 c_20752) j_20753 (gb_ic (a := (-1)) (by decide)) (by decide))
    refine gc_ck iv6 (by decide) ?_
    refine gc_lti (lo := (-2147483648)) (hi := 2147483647) (gb_it _) (fun x_19 ex_19 ix_19 => ?_)
    refine gc_lti (lo := 1) (hi := 256) (gb_iadd (lo := 1) (hi := 256) iv6 (gb_ic (a := 1) (by decide)) (by decide)) (fun x_20 ex_20 ix_20 => ?_)
    exact hk16 _ _ _ _ _ hT (gb_iw (lo := (-2147483648)) (hi := 2147483647) iv3 (by decide)) (gb_iw (lo := (-2147483648)) (hi := 2147483647) iv4 (by decide)) (gb_it _) (gb_iw (lo := 0) (hi := 256) ix_20 (by decide)) (gb_mup ex_20 iv6 (by decide) hm16)
  · refine gc_if (fun c_20755 => ?_) (fun c_20755 => ?_)
    · refine gc_lti (lo := 1) (hi := 256) (gb_iadd (lo := 1) (hi := 256) iv6 (gb_ic (a := 1) (by decide)) (by decide)) (fun x_22 ex_22 ix_22 => ?_)
      exact hk16 _ _ _ _ _ hT (gb_iw (lo := (-2147483648)) (hi := 2147483647) iv3 (by decide)) (gb_iw (lo := (-2147483648)) (hi := 2147483647) iv4 (by decide)) (gb_it _) (gb_iw (lo := 0) (hi := 256) ix_22 (by decide)) (gb_mup ex_22 iv6 (by decide) hm16)
    · exact (gb_em (gb_rN (lo := 1) (hi := (-1)) (v := 0) c_20755 it0 (by decide) (by decide)) (by decide)).elim
set_option maxHeartbeats 4000000 in
theorem ct_Flocks_marksOfAny_B_76_i1 {n : Nat} (hn : gb_N ≤ n) {Q : gb_S → Int32 → Prop} {k16 : gb_S → Int32 → Int32 → Int32 → Int32 → gb_CR Int32} {M16 : Nat} (hk16 : ∀ (σ : gb_S) (v3 : Int32) (v4 : Int32) (v5 : Int32) (v6 : Int32), gb_TC σ → gb_iv (-2147483648) 2147483647 v3 → gb_iv (-2147483648) 2147483647 v4 → gb_iv (-2147483648) 2147483647 v5 → gb_iv 0 256 v6 → (256 - v6.toInt).toNat < M16 → gb_tc (k16 σ v3 v4 v5 v6) Q) (hret : ∀ (σ : gb_S) (r : Int32), gb_TC σ → gb_iv (-2147483648) 2147483647 r → Q σ r) : ∀ (σ : gb_S) (v3 : Int32) (v4 : Int32) (v5 : Int32) (v6 : Int32) (t0 : Int32), gb_TC σ → gb_iv 0 63 v3 → gb_iv 0 0 v4 → gb_iv (-2147483647) 2147483647 v5 → gb_iv 0 255 v6 → gb_iv 1 1 t0 → (256 - v6.toInt).toNat < M16 + 1 → gb_tc (cs_Flocks_marksOfAny_B_76 n k16 σ v3 v4 v5 v6 t0) Q := by
  intro σ v3 v4 v5 v6 t0 hT iv3 iv4 iv5 iv6 it0 hm16
  unfold cs_Flocks_marksOfAny_B_76
  refine gc_if (fun c_20758 => ?_) (fun c_20758 => ?_)
  · have j_20759 : gb_iv (-2147483647) (-1) v5 := (gb_rU (lo := (-2147483647)) (hi := (-1)) (gb_deq c_20758) iv5 (gb_ic (a := (-1)) (by decide)) (by decide))
    have j_20760 : gb_iv (-1) (-1) v5 := (gb_rL (lo := (-1)) (hi := (-1)) (gb_deq2 c_20758) j_20759 (gb_ic (a := (-1)) (by decide)) (by decide))
    refine gc_ck iv6 (by decide) ?_
    refine gc_lti (lo := (-2147483648)) (hi := 2147483647) (gb_it _) (fun x_19 ex_19 ix_19 => ?_)
    refine gc_lti (lo := 1) (hi := 256) (gb_iadd (lo := 1) (hi := 256) iv6 (gb_ic (a := 1) (by decide)) (by decide)) (fun x_20 ex_20 ix_20 => ?_)
    exact hk16 _ _ _ _ _ hT (gb_iw (lo := (-2147483648)) (hi := 2147483647) iv3 (by decide)) (gb_iw (lo := (-2147483648)) (hi := 2147483647) iv4 (by decide)) (gb_it _) (gb_iw (lo := 0) (hi := 256) ix_20 (by decide)) (gb_mup ex_20 iv6 (by decide) hm16)
  · refine gc_if (fun c_20761 => ?_) (fun c_20761 => ?_)
    · exact (gb_em (gb_rU (lo := 1) (hi := 0) (gb_deq c_20761) it0 (gb_ic (a := 0) (by decide)) (by decide)) (by decide)).elim
    · refine gc_ck iv6 (by decide) ?_
      refine gc_lti (lo := (-2147483648)) (hi := 2147483647) (gb_it _) (fun x_24 ex_24 ix_24 => ?_)
      refine gc_lti (lo := 1) (hi := 256) (gb_iadd (lo := 1) (hi := 256) iv6 (gb_ic (a := 1) (by decide)) (by decide)) (fun x_25 ex_25 ix_25 => ?_)
      exact hk16 _ _ _ _ _ hT (gb_iw (lo := (-2147483648)) (hi := 2147483647) iv3 (by decide)) (gb_iw (lo := (-2147483648)) (hi := 2147483647) iv4 (by decide)) (gb_it _) (gb_iw (lo := 0) (hi := 256) ix_25 (by decide)) (gb_mup ex_25 iv6 (by decide) hm16)
set_option maxHeartbeats 4000000 in
theorem ct_Flocks_marksOfAny_B_76_i2 {n : Nat} (hn : gb_N ≤ n) {Q : gb_S → Int32 → Prop} {k16 : gb_S → Int32 → Int32 → Int32 → Int32 → gb_CR Int32} {M16 : Nat} (hk16 : ∀ (σ : gb_S) (v3 : Int32) (v4 : Int32) (v5 : Int32) (v6 : Int32), gb_TC σ → gb_iv (-2147483648) 2147483647 v3 → gb_iv (-2147483648) 2147483647 v4 → gb_iv (-2147483648) 2147483647 v5 → gb_iv 0 256 v6 → (256 - v6.toInt).toNat < M16 → gb_tc (k16 σ v3 v4 v5 v6) Q) (hret : ∀ (σ : gb_S) (r : Int32), gb_TC σ → gb_iv (-2147483648) 2147483647 r → Q σ r) : ∀ (σ : gb_S) (v3 : Int32) (v4 : Int32) (v5 : Int32) (v6 : Int32) (t0 : Int32), gb_TC σ → gb_iv 0 63 v3 → gb_iv (-2147483648) 2147483647 v4 → gb_iv (-2147483648) 2147483647 v5 → gb_iv 0 255 v6 → gb_iv 0 0 t0 → (256 - v6.toInt).toNat < M16 + 1 → gb_tc (cs_Flocks_marksOfAny_B_76 n k16 σ v3 v4 v5 v6 t0) Q := by
  intro σ v3 v4 v5 v6 t0 hT iv3 iv4 iv5 iv6 it0 hm16
  unfold cs_Flocks_marksOfAny_B_76
  refine gc_if (fun c_20763 => ?_) (fun c_20763 => ?_)
  · have j_20764 : gb_iv (-2147483648) (-1) v5 := (gb_rU (lo := (-2147483648)) (hi := (-1)) (gb_deq c_20763) (gb_it _) (gb_ic (a := (-1)) (by decide)) (by decide))
    have j_20765 : gb_iv (-1) (-1) v5 := (gb_rL (lo := (-1)) (hi := (-1)) (gb_deq2 c_20763) j_20764 (gb_ic (a := (-1)) (by decide)) (by decide))
    refine gc_ck iv6 (by decide) ?_
    refine gc_lti (lo := (-2147483648)) (hi := 2147483647) (gb_it _) (fun x_19 ex_19 ix_19 => ?_)
    refine gc_lti (lo := 1) (hi := 256) (gb_iadd (lo := 1) (hi := 256) iv6 (gb_ic (a := 1) (by decide)) (by decide)) (fun x_20 ex_20 ix_20 => ?_)
    exact hk16 _ _ _ _ _ hT (gb_iw (lo := (-2147483648)) (hi := 2147483647) iv3 (by decide)) (gb_it _) (gb_it _) (gb_iw (lo := 0) (hi := 256) ix_20 (by decide)) (gb_mup ex_20 iv6 (by decide) hm16)
  · refine gc_if (fun c_20766 => ?_) (fun c_20766 => ?_)
    · refine gc_lti (lo := 1) (hi := 256) (gb_iadd (lo := 1) (hi := 256) iv6 (gb_ic (a := 1) (by decide)) (by decide)) (fun x_22 ex_22 ix_22 => ?_)
      exact hk16 _ _ _ _ _ hT (gb_iw (lo := (-2147483648)) (hi := 2147483647) iv3 (by decide)) (gb_it _) (gb_it _) (gb_iw (lo := 0) (hi := 256) ix_22 (by decide)) (gb_mup ex_22 iv6 (by decide) hm16)
    · exact (gb_em (gb_rN (lo := 1) (hi := (-1)) (v := 0) c_20766 it0 (by decide) (by decide)) (by decide)).elim
set_option maxHeartbeats 4000000 in
theorem ct_Flocks_marksOfAny_B_76_i3 {n : Nat} (hn : gb_N ≤ n) {Q : gb_S → Int32 → Prop} {k16 : gb_S → Int32 → Int32 → Int32 → Int32 → gb_CR Int32} {M16 : Nat} (hk16 : ∀ (σ : gb_S) (v3 : Int32) (v4 : Int32) (v5 : Int32) (v6 : Int32), gb_TC σ → gb_iv (-2147483648) 2147483647 v3 → gb_iv (-2147483648) 2147483647 v4 → gb_iv (-2147483648) 2147483647 v5 → gb_iv 0 256 v6 → (256 - v6.toInt).toNat < M16 → gb_tc (k16 σ v3 v4 v5 v6) Q) (hret : ∀ (σ : gb_S) (r : Int32), gb_TC σ → gb_iv (-2147483648) 2147483647 r → Q σ r) : ∀ (σ : gb_S) (v3 : Int32) (v4 : Int32) (v5 : Int32) (v6 : Int32) (t0 : Int32), gb_TC σ → gb_iv 0 63 v3 → gb_iv (-2147483648) 2147483647 v4 → gb_iv (-2147483648) 2147483646 v5 → gb_iv 0 255 v6 → gb_iv 1 1 t0 → (256 - v6.toInt).toNat < M16 + 1 → gb_tc (cs_Flocks_marksOfAny_B_76 n k16 σ v3 v4 v5 v6 t0) Q := by
  intro σ v3 v4 v5 v6 t0 hT iv3 iv4 iv5 iv6 it0 hm16
  unfold cs_Flocks_marksOfAny_B_76
  refine gc_if (fun c_20769 => ?_) (fun c_20769 => ?_)
  · have j_20770 : gb_iv (-2147483648) (-1) v5 := (gb_rU (lo := (-2147483648)) (hi := (-1)) (gb_deq c_20769) iv5 (gb_ic (a := (-1)) (by decide)) (by decide))
    have j_20771 : gb_iv (-1) (-1) v5 := (gb_rL (lo := (-1)) (hi := (-1)) (gb_deq2 c_20769) j_20770 (gb_ic (a := (-1)) (by decide)) (by decide))
    refine gc_ck iv6 (by decide) ?_
    refine gc_lti (lo := (-2147483648)) (hi := 2147483647) (gb_it _) (fun x_19 ex_19 ix_19 => ?_)
    refine gc_lti (lo := 1) (hi := 256) (gb_iadd (lo := 1) (hi := 256) iv6 (gb_ic (a := 1) (by decide)) (by decide)) (fun x_20 ex_20 ix_20 => ?_)
    exact hk16 _ _ _ _ _ hT (gb_iw (lo := (-2147483648)) (hi := 2147483647) iv3 (by decide)) (gb_it _) (gb_it _) (gb_iw (lo := 0) (hi := 256) ix_20 (by decide)) (gb_mup ex_20 iv6 (by decide) hm16)
  · refine gc_if (fun c_20772 => ?_) (fun c_20772 => ?_)
    · exact (gb_em (gb_rU (lo := 1) (hi := 0) (gb_deq c_20772) it0 (gb_ic (a := 0) (by decide)) (by decide)) (by decide)).elim
    · refine gc_ck iv6 (by decide) ?_
      refine gc_lti (lo := (-2147483648)) (hi := 2147483647) (gb_it _) (fun x_24 ex_24 ix_24 => ?_)
      refine gc_lti (lo := 1) (hi := 256) (gb_iadd (lo := 1) (hi := 256) iv6 (gb_ic (a := 1) (by decide)) (by decide)) (fun x_25 ex_25 ix_25 => ?_)
      exact hk16 _ _ _ _ _ hT (gb_iw (lo := (-2147483648)) (hi := 2147483647) iv3 (by decide)) (gb_it _) (gb_it _) (gb_iw (lo := 0) (hi := 256) ix_25 (by decide)) (gb_mup ex_25 iv6 (by decide) hm16)
set_option maxHeartbeats 4000000 in
theorem ct_Flocks_marksOfAny_B_16 {n : Nat} (hn : gb_N ≤ n) {Q : gb_S → Int32 → Prop} (hret : ∀ (σ : gb_S) (r : Int32), gb_TC σ → gb_iv (-2147483648) 2147483647 r → Q σ r) : ∀ (mm : Nat) (σ : gb_S) (v3 : Int32) (v4 : Int32) (v5 : Int32) (v6 : Int32), gb_TC σ → gb_iv (-2147483648) 2147483647 v3 → gb_iv (-2147483648) 2147483647 v4 → gb_iv (-2147483648) 2147483647 v5 → gb_iv 0 256 v6 → (256 - v6.toInt).toNat < mm → gb_tc (cs_Flocks_marksOfAny_B_16 n mm σ v3 v4 v5 v6) Q := by
  intro mm
  induction mm with
  | zero =>
    intro σ v3 v4 v5 v6 hT iv3 iv4 iv5 iv6 hm
    exact absurd hm (Nat.not_lt_zero _)
  | succ mm ih =>
    intro σ v3 v4 v5 v6 hT iv3 iv4 iv5 iv6 hm
    rw [cs_Flocks_marksOfAny_B_16]
    refine gc_if (fun c_20741 => ?_) (fun c_20741 => ?_)
    · exact gc_some (hret _ _ hT (gb_it _))
    · have j_20742 : gb_iv 0 255 v6 := (gb_rU (lo := 0) (hi := 255) (gb_dnle c_20741) iv6 (gc_rd (c := 11) (lo := 0) (hi := 256) hT (rfl : gc_cat 130 = 11) (by decide)) (by decide))
      have j_20743 : gb_iv 1 256 (σ.1 130 4) := (gb_rL (lo := 1) (hi := 256) (gb_dnle c_20741) (gc_rd (c := 11) (lo := 0) (hi := 256) hT (rfl : gc_cat 130 = 11) (by decide)) j_20742 (by decide))
      refine gc_cdP (ct_java_lang_Integer_bitCount hn hT) (fun r_8 qr_8 h_20744 => ?_)
      refine gc_if (fun c_20745 => ?_) (fun c_20745 => ?_)
      · have j_20746 : gb_iv 0 2147483647 v3 := (gb_rL (lo := 0) (hi := 2147483647) (gb_deq c_20745) (gb_it _) h_20744 (by decide))
        have j_20747 : gb_iv 0 63 v3 := (gb_rU (lo := 0) (hi := 63) (gb_deq2 c_20745) j_20746 h_20744 (by decide))
        refine gc_if (fun c_20748 => ?_) (fun c_20748 => ?_)
        · have j_20749 : gb_iv (-2147483648) 0 v4 := (gb_rU (lo := (-2147483648)) (hi := 0) (gb_deq c_20748) (gb_it _) (gb_ic (a := 0) (by decide)) (by decide))
          have j_20750 : gb_iv 0 0 v4 := (gb_rL (lo := 0) (hi := 0) (gb_deq2 c_20748) j_20749 (gb_ic (a := 0) (by decide)) (by decide))
          refine gc_ck j_20742 (by decide) ?_
          refine gc_lti (lo := (-2147483648)) (hi := 2147483647) (gb_it _) (fun x_15 ex_15 ix_15 => ?_)
          refine gc_if (fun c_20751 => ?_) (fun c_20751 => ?_)
          · exact ct_Flocks_marksOfAny_B_76 hn ih hret _ _ _ _ _ _ hT j_20747 j_20750 (gb_it _) j_20742 (gb_ic (a := 0) (by decide)) hm
          · have j_20756 : gb_iv (-2147483648) 2147483646 x_15 := (gb_rU (lo := (-2147483648)) (hi := 2147483646) (gb_dnle c_20751) (gb_it _) (gb_it _) (by decide))
            have j_20757 : gb_iv (-2147483647) 2147483647 v5 := (gb_rL (lo := (-2147483647)) (hi := 2147483647) (gb_dnle c_20751) (gb_it _) j_20756 (by decide))
            exact ct_Flocks_marksOfAny_B_76_i1 hn ih hret _ _ _ _ _ _ hT j_20747 j_20750 j_20757 j_20742 (gb_ic (a := 1) (by decide)) hm
        · refine gc_ck j_20742 (by decide) ?_
          refine gc_lti (lo := (-2147483648)) (hi := 2147483647) (gb_it _) (fun x_27 ex_27 ix_27 => ?_)
          refine gc_if (fun c_20762 => ?_) (fun c_20762 => ?_)
          · exact ct_Flocks_marksOfAny_B_76_i2 hn ih hret _ _ _ _ _ _ hT j_20747 (gb_it _) (gb_it _) j_20742 (gb_ic (a := 0) (by decide)) hm
          · have j_20767 : gb_iv (-2147483648) 2147483646 v5 := (gb_rU (lo := (-2147483648)) (hi := 2147483646) (gb_dnle c_20762) (gb_it _) (gb_it _) (by decide))
            have j_20768 : gb_iv (-2147483647) 2147483647 x_27 := (gb_rL (lo := (-2147483647)) (hi := 2147483647) (gb_dnle c_20762) (gb_it _) j_20767 (by decide))
            exact ct_Flocks_marksOfAny_B_76_i3 hn ih hret _ _ _ _ _ _ hT j_20747 (gb_it _) j_20767 j_20742 (gb_ic (a := 1) (by decide)) hm
      · refine gc_lti (lo := 1) (hi := 256) (gb_iadd (lo := 1) (hi := 256) j_20742 (gb_ic (a := 1) (by decide)) (by decide)) (fun x_12 ex_12 ix_12 => ?_)
        exact ih _ _ _ _ _ hT (gb_it _) (gb_it _) (gb_it _) (gb_iw (lo := 0) (hi := 256) ix_12 (by decide)) (gb_mup ex_12 j_20742 (by decide) hm)
set_option maxHeartbeats 4000000 in
theorem ct_Flocks_marksOfAny_B {n : Nat} (hn : gb_N ≤ n) {σ : gb_S} {p1 : Nat} {p2 : Int32} {p3 : Int32} {p4 : Int32} (hT : gb_TC σ) (hp1 : gb_kB p1 = true) (ip2 : gb_iv 0 4 p2) : gb_tc (cs_Flocks_marksOfAny_B n σ p1 p2 p3 p4) (fun s r => gb_TC s ∧ gb_iv (-2147483648) 2147483647 r) := by
  unfold cs_Flocks_marksOfAny_B
  refine gc_kk hp1 ?_
  refine gc_cdT (ct_Flocks_sumUp_B_c131 hn hT hp1 ip2) (fun s_2 u_19760 hTs_2 _ => ?_)
  exact ct_Flocks_marksOfAny_B_16 hn (fun _ _ hT h => ⟨hT, h⟩) n _ _ _ _ _ hTs_2 (gb_it _) (gb_it _) (gb_iw (lo := (-2147483648)) (hi := 2147483647) (gb_ic (a := (-1)) (by decide)) (by decide)) (gb_iw (lo := 0) (hi := 256) (gb_ic (a := 0) (by decide)) (by decide)) (gb_fuu hn (gb_iw (lo := 0) (hi := 256) (gb_ic (a := 0) (by decide)) (by decide)) (by decide))
set_option maxHeartbeats 4000000 in
theorem ct_Face_span {n : Nat} (hn : gb_N ≤ n) {σ : gb_S} {p1 : Int32} {p2 : Int32} {p3 : Int32} {p4 : Int32} (hT : gb_TC σ) : gb_tc (cs_Face_span n σ p1 p2 p3 p4) (fun s r => gb_TC s ∧ gb_iv (-2147483648) 2147483647 r) := by
  unfold cs_Face_span
  refine gc_cdP (ct_Face_borderAt hn hT) (fun r_2 qr_2 h_20788 => ?_)
  refine gc_if (fun c_20789 => ?_) (fun c_20789 => ?_)
  · exact gc_some ⟨hT, (gb_iw (lo := (-2147483648)) (hi := 2147483647) (gb_ic (a := (-1)) (by decide)) (by decide))⟩
  · refine gc_kk (Or.resolve_left h_20788 c_20789) ?_
    refine gc_cdP (ct_Border_hasPath_B hn hT (Or.resolve_left h_20788 c_20789)) (fun r_8 qr_8 h_20790 => ?_)
    refine gc_if (fun c_20791 => ?_) (fun c_20791 => ?_)
    · have j_20792 : gb_iv 0 0 r_8 := (gb_rU (lo := 0) (hi := 0) (gb_deq c_20791) h_20790.1 (gb_ic (a := 0) (by decide)) (by decide))
      exact gc_some ⟨hT, (gb_iw (lo := (-2147483648)) (hi := 2147483647) (gb_ic (a := (-1)) (by decide)) (by decide))⟩
    · have j_20793 : gb_iv 1 1 r_8 := (gb_rN (lo := 1) (hi := 1) (v := 0) c_20791 h_20790.1 (by decide) (by decide))
      have j_20794 : gb_iv 0 4 p2 := (h_20790.2 c_20791)
      refine gc_if (fun c_20795 => ?_) (fun c_20795 => ?_)
      · have j_20796 : gb_iv (-2147483648) (-1) p3 := (gb_rU (lo := (-2147483648)) (hi := (-1)) (gb_dlt c_20795) (gb_it _) (gb_ic (a := 0) (by decide)) (by decide))
        exact gc_some ⟨hT, (gb_iw (lo := (-2147483648)) (hi := 2147483647) (gb_ic (a := (-1)) (by decide)) (by decide))⟩
      · have j_20797 : gb_iv 0 2147483647 p3 := (gb_rL (lo := 0) (hi := 2147483647) (gb_dnlt c_20795) (gb_it _) (gb_ic (a := 0) (by decide)) (by decide))
        refine gc_cdP (ct_Border_geese_B hn hT (Or.resolve_left h_20788 c_20789)) (fun r_14 qr_14 h_20798 => ?_)
        refine gc_if (fun c_20799 => ?_) (fun c_20799 => ?_)
        · have j_20800 : gb_iv 0 8 p3 := (gb_rU (lo := 0) (hi := 8) (gb_dle c_20799) j_20797 h_20798 (by decide))
          refine gc_cdT (ct_Flocks_marksOfAny_B hn hT (Or.resolve_left h_20788 c_20789) j_20794) (fun s_18 r_19 hTs_18 h_20801 => ?_)
          exact gc_some ⟨hTs_18, (gb_it _)⟩
        · have j_20802 : gb_iv 1 2147483647 p3 := (gb_rL (lo := 1) (hi := 2147483647) (gb_dnle c_20799) j_20797 h_20798 (by decide))
          exact gc_some ⟨hT, (gb_iw (lo := (-2147483648)) (hi := 2147483647) (gb_ic (a := (-1)) (by decide)) (by decide))⟩
set_option maxHeartbeats 4000000 in
theorem ct_Flocks_paysAll_B_3 {n : Nat} (hn : gb_N ≤ n) {Q : gb_S → Int32 → Prop} {σ : gb_S} (hT : gb_TC σ) (hret : ∀ (r : Int32), gb_iv 0 1 r → Q σ r) : ∀ (mm : Nat) (v1 : Nat) (v2 : Int32) (v3 : Int32) (v4 : Int32), gb_kB v1 = true → gb_iv 0 255 v2 → gb_iv 0 4 v3 → gb_iv 0 8 v4 → (8 - v4.toInt).toNat < mm → gb_tc (cs_Flocks_paysAll_B_3 n mm σ v1 v2 v3 v4) Q := by
  intro mm
  induction mm with
  | zero =>
    intro v1 v2 v3 v4 hv1 iv2 iv3 iv4 hm
    exact absurd hm (Nat.not_lt_zero _)
  | succ mm ih =>
    intro v1 v2 v3 v4 hv1 iv2 iv3 iv4 hm
    rw [cs_Flocks_paysAll_B_3]
    refine gc_kk hv1 ?_
    refine gc_cdP (ct_Border_geese_B hn hT hv1) (fun r_4 qr_4 h_21193 => ?_)
    refine gc_if (fun c_21194 => ?_) (fun c_21194 => ?_)
    · exact gc_some (hret _ (gb_iw (lo := 0) (hi := 1) (gb_ic (a := 0) (by decide)) (by decide)))
    · have j_21195 : gb_iv 0 7 v4 := (gb_rU (lo := 0) (hi := 7) (gb_dnle c_21194) iv4 h_21193 (by decide))
      have j_21196 : gb_iv 1 8 r_4 := (gb_rL (lo := 1) (hi := 8) (gb_dnle c_21194) h_21193 j_21195 (by decide))
      refine gc_lti (lo := 0) (hi := 255) (gb_iand (lo := 0) (hi := 255) iv2 (by decide)) (fun x_8 ex_8 ix_8 => ?_)
      refine gc_if (fun c_21197 => ?_) (fun c_21197 => ?_)
      · refine gc_lti (lo := 1) (hi := 8) (gb_iadd (lo := 1) (hi := 8) j_21195 (gb_ic (a := 1) (by decide)) (by decide)) (fun x_10 ex_10 ix_10 => ?_)
        exact ih _ _ _ _ hv1 iv2 iv3 (gb_iw (lo := 0) (hi := 8) ix_10 (by decide)) (gb_mup ex_10 j_21195 (by decide) hm)
      · refine gc_kk (gc_q4 hT) ?_
        refine gc_ck ix_8 (by decide) ?_
        refine gc_lt (fun x_13 ex_13 => ?_)
        refine gc_if (fun c_21198 => ?_) (fun c_21198 => ?_)
        · have j_21199 : gb_iv (-2147483648) 0 (lg_cmp x_13 (1 : Int64)) := (gb_rU (lo := (-2147483648)) (hi := 0) (gb_deq c_21198) (gb_it _) (gb_ic (a := 0) (by decide)) (by decide))
          have j_21200 : gb_iv 0 0 (lg_cmp x_13 (1 : Int64)) := (gb_rL (lo := 0) (hi := 0) (gb_deq2 c_21198) j_21199 (gb_ic (a := 0) (by decide)) (by decide))
          refine gc_cdP (ct_Border_marksFirst_B hn hT hv1 j_21195 iv3) (fun r_17 qr_17 h_21201 => ?_)
          refine gc_cdP (ct_Border_payOf_B hn hT hv1 iv3) (fun r_21 qr_21 h_21202 => ?_)
          refine gc_if (fun c_21203 => ?_) (fun c_21203 => ?_)
          · have j_21204 : gb_iv (-2147483648) 0 r_21 := (gb_rU (lo := (-2147483648)) (hi := 0) (gb_dle c_21203) (gb_it _) (gb_ic (a := 0) (by decide)) (by decide))
            refine gc_lti (lo := 1) (hi := 8) (gb_iadd (lo := 1) (hi := 8) j_21195 (gb_ic (a := 1) (by decide)) (by decide)) (fun x_25 ex_25 ix_25 => ?_)
            exact ih _ _ _ _ hv1 iv2 iv3 (gb_iw (lo := 0) (hi := 8) ix_25 (by decide)) (gb_mup ex_25 j_21195 (by decide) hm)
          · have j_21205 : gb_iv 1 2147483647 r_21 := (gb_rL (lo := 1) (hi := 2147483647) (gb_dnle c_21203) (gb_it _) (gb_ic (a := 0) (by decide)) (by decide))
            exact gc_some (hret _ (gb_iw (lo := 0) (hi := 1) (gb_ic (a := 1) (by decide)) (by decide)))
        · refine gc_lti (lo := 1) (hi := 8) (gb_iadd (lo := 1) (hi := 8) j_21195 (gb_ic (a := 1) (by decide)) (by decide)) (fun x_15 ex_15 ix_15 => ?_)
          exact ih _ _ _ _ hv1 iv2 iv3 (gb_iw (lo := 0) (hi := 8) ix_15 (by decide)) (gb_mup ex_15 j_21195 (by decide) hm)
set_option maxHeartbeats 4000000 in
theorem ct_Flocks_paysAll_B {n : Nat} (hn : gb_N ≤ n) {σ : gb_S} {p1 : Nat} {p2 : Int32} {p3 : Int32} (hT : gb_TC σ) (hp1 : gb_kB p1 = true) (ip2 : gb_iv 0 255 p2) (ip3 : gb_iv 0 4 p3) : gb_tc (cs_Flocks_paysAll_B n σ p1 p2 p3) (fun s r => s = σ ∧ gb_iv 0 1 r) := by
  unfold cs_Flocks_paysAll_B
  refine gc_kk hp1 ?_
  exact ct_Flocks_paysAll_B_3 hn hT (fun _ h => ⟨rfl, h⟩) n _ _ _ _ hp1 ip2 ip3 (gb_iw (lo := 0) (hi := 8) (gb_ic (a := 0) (by decide)) (by decide)) (gb_fuu hn (gb_iw (lo := 0) (hi := 8) (gb_ic (a := 0) (by decide)) (by decide)) (by decide))
set_option maxHeartbeats 4000000 in
theorem ct_java_util_Arrays_fillJ_J_6 {n : Nat} (hn : gb_N ≤ n) {Q : gb_S → Unit → Prop} (hret : ∀ (σ : gb_S) (r : Unit), gb_TC σ → True → Q σ r) : ∀ (mm : Nat) (σ : gb_S) (v0 : Nat) (v1 : Int64) (v3 : Int32) (v4 : Int32), gb_TC σ → gb_kJ v0 = true → gb_iv 0 256 v3 → gb_iv 256 256 v4 → (256 - v3.toInt).toNat < mm → gb_tc (cs_java_util_Arrays_fillJ_J_6 n mm σ v0 v1 v3 v4) Q := by
  intro mm
  induction mm with
  | zero =>
    intro σ v0 v1 v3 v4 hT hv0 iv3 iv4 hm
    exact absurd hm (Nat.not_lt_zero _)
  | succ mm ih =>
    intro σ v0 v1 v3 v4 hT hv0 iv3 iv4 hm
    rw [cs_java_util_Arrays_fillJ_J_6]
    refine gc_kk hv0 ?_
    refine gc_if (fun c_21300 => ?_) (fun c_21300 => ?_)
    · have j_21301 : gb_iv 256 256 v3 := (gb_rL (lo := 256) (hi := 256) (gb_dle c_21300) iv3 iv4 (by decide))
      exact gc_some (hret _ _ hT trivial)
    · have j_21302 : gb_iv 0 255 v3 := (gb_rU (lo := 0) (hi := 255) (gb_dnle c_21300) iv3 iv4 (by decide))
      refine gc_ck j_21302 (by decide) ?_
      refine gc_ltT (gc_sg hT) (fun s_5 es_5 hTs_5 => ?_)
      refine gc_lti (lo := 1) (hi := 256) (gb_iadd (lo := 1) (hi := 256) j_21302 (gb_ic (a := 1) (by decide)) (by decide)) (fun x_6 ex_6 ix_6 => ?_)
      exact ih _ _ _ _ _ hTs_5 hv0 (gb_iw (lo := 0) (hi := 256) ix_6 (by decide)) iv4 (gb_mup ex_6 j_21302 (by decide) hm)
set_option maxHeartbeats 4000000 in
theorem ct_java_util_Arrays_fillJ_J {n : Nat} (hn : gb_N ≤ n) {σ : gb_S} {p1 : Nat} {p2 : Int64} (hT : gb_TC σ) (hp1 : gb_kJ p1 = true) : gb_tc (cs_java_util_Arrays_fillJ_J n σ p1 p2) (fun s _ => gb_TC s ∧ True) := by
  unfold cs_java_util_Arrays_fillJ_J
  refine gc_kk hp1 ?_
  exact ct_java_util_Arrays_fillJ_J_6 hn (fun _ _ hT h => ⟨hT, h⟩) n _ _ _ _ _ hT hp1 (gb_iw (lo := 0) (hi := 256) (gb_ic (a := 0) (by decide)) (by decide)) (gb_ic (a := 256) (by decide)) (gb_fuu hn (gb_iw (lo := 0) (hi := 256) (gb_ic (a := 0) (by decide)) (by decide)) (by decide))
set_option maxHeartbeats 4000000 in
theorem ct_Flocks_allWays_4 {n : Nat} (hn : gb_N ≤ n) {Q : gb_S → Int64 → Prop} {σ : gb_S} (hT : gb_TC σ) (hret : ∀ (r : Int64), True → Q σ r) : ∀ (mm : Nat) (v1 : Int64) (v3 : Int32), gb_iv 0 256 v3 → (256 - v3.toInt).toNat < mm → gb_tc (cs_Flocks_allWays_4 n mm σ v1 v3) Q := by
  intro mm
  induction mm with
  | zero =>
    intro v1 v3 iv3 hm
    exact absurd hm (Nat.not_lt_zero _)
  | succ mm ih =>
    intro v1 v3 iv3 hm
    rw [cs_Flocks_allWays_4]
    refine gc_if (fun c_21489 => ?_) (fun c_21489 => ?_)
    · exact gc_some (hret _ trivial)
    · have j_21490 : gb_iv 0 255 v3 := (gb_rU (lo := 0) (hi := 255) (gb_dnle c_21489) iv3 (gc_rd (c := 11) (lo := 0) (hi := 256) hT (rfl : gc_cat 130 = 11) (by decide)) (by decide))
      have j_21491 : gb_iv 1 256 (σ.1 130 4) := (gb_rL (lo := 1) (hi := 256) (gb_dnle c_21489) (gc_rd (c := 11) (lo := 0) (hi := 256) hT (rfl : gc_cat 130 = 11) (by decide)) j_21490 (by decide))
      refine gc_kk (gc_q4 hT) ?_
      refine gc_ck j_21490 (by decide) ?_
      refine gc_lt (fun x_4 ex_4 => ?_)
      refine gc_lt (fun x_5 ex_5 => ?_)
      refine gc_lti (lo := 1) (hi := 256) (gb_iadd (lo := 1) (hi := 256) j_21490 (gb_ic (a := 1) (by decide)) (by decide)) (fun x_6 ex_6 ix_6 => ?_)
      exact ih _ _ (gb_iw (lo := 0) (hi := 256) ix_6 (by decide)) (gb_mup ex_6 j_21490 (by decide) hm)
set_option maxHeartbeats 4000000 in
theorem ct_Flocks_allWays {n : Nat} (hn : gb_N ≤ n) {σ : gb_S} (hT : gb_TC σ) : gb_tc (cs_Flocks_allWays n σ) (fun s _ => s = σ ∧ True) := by
  unfold cs_Flocks_allWays
  exact ct_Flocks_allWays_4 hn hT (fun _ h => ⟨rfl, h⟩) n _ _ (gb_iw (lo := 0) (hi := 256) (gb_ic (a := 0) (by decide)) (by decide)) (gb_fuu hn (gb_iw (lo := 0) (hi := 256) (gb_ic (a := 0) (by decide)) (by decide)) (by decide))
set_option maxHeartbeats 4000000 in
theorem ct_Flocks_fewestGone_5 {n : Nat} (hn : gb_N ≤ n) {Q : gb_S → Int32 → Prop} {σ : gb_S} (hT : gb_TC σ) (hret : ∀ (r : Int32), gb_iv 0 8 r → Q σ r) : ∀ (mm : Nat) (v1 : Int32) (v2 : Int32), gb_iv 0 8 v1 → gb_iv 0 256 v2 → (256 - v2.toInt).toNat < mm → gb_tc (cs_Flocks_fewestGone_5 n mm σ v1 v2) Q := by
  intro mm
  induction mm with
  | zero =>
    intro v1 v2 iv1 iv2 hm
    exact absurd hm (Nat.not_lt_zero _)
  | succ mm ih =>
    intro v1 v2 iv1 iv2 hm
    rw [cs_Flocks_fewestGone_5]
    refine gc_if (fun c_21926 => ?_) (fun c_21926 => ?_)
    · exact gc_some (hret _ iv1)
    · have j_21927 : gb_iv 0 255 v2 := (gb_rU (lo := 0) (hi := 255) (gb_dnle c_21926) iv2 (gc_rd (c := 11) (lo := 0) (hi := 256) hT (rfl : gc_cat 130 = 11) (by decide)) (by decide))
      have j_21928 : gb_iv 1 256 (σ.1 130 4) := (gb_rL (lo := 1) (hi := 256) (gb_dnle c_21926) (gc_rd (c := 11) (lo := 0) (hi := 256) hT (rfl : gc_cat 130 = 11) (by decide)) j_21927 (by decide))
      refine gc_kk (gc_q4 hT) ?_
      refine gc_ck j_21927 (by decide) ?_
      refine gc_lt (fun x_4 ex_4 => ?_)
      refine gc_if (fun c_21929 => ?_) (fun c_21929 => ?_)
      · have j_21930 : gb_iv (-2147483648) 0 (lg_cmp x_4 (0 : Int64)) := (gb_rU (lo := (-2147483648)) (hi := 0) (gb_dle c_21929) (gb_it _) (gb_ic (a := 0) (by decide)) (by decide))
        refine gc_lti (lo := 1) (hi := 256) (gb_iadd (lo := 1) (hi := 256) j_21927 (gb_ic (a := 1) (by decide)) (by decide)) (fun x_6 ex_6 ix_6 => ?_)
        exact ih _ _ iv1 (gb_iw (lo := 0) (hi := 256) ix_6 (by decide)) (gb_mup ex_6 j_21927 (by decide) hm)
      · have j_21931 : gb_iv 1 2147483647 (lg_cmp x_4 (0 : Int64)) := (gb_rL (lo := 1) (hi := 2147483647) (gb_dnle c_21929) (gb_it _) (gb_ic (a := 0) (by decide)) (by decide))
        refine gc_cdP (ct_java_lang_Integer_bitCount hn hT) (fun r_8 qr_8 h_21932 => ?_)
        refine gc_lti (lo := 0) (hi := 8) (gb_imin (lo := 0) (hi := 8) iv1 h_21932 (by decide)) (fun x_11 ex_11 ix_11 => ?_)
        refine gc_lti (lo := 1) (hi := 256) (gb_iadd (lo := 1) (hi := 256) j_21927 (gb_ic (a := 1) (by decide)) (by decide)) (fun x_12 ex_12 ix_12 => ?_)
        exact ih _ _ ix_11 (gb_iw (lo := 0) (hi := 256) ix_12 (by decide)) (gb_mup ex_12 j_21927 (by decide) hm)
set_option maxHeartbeats 4000000 in
theorem ct_Flocks_fewestGone {n : Nat} (hn : gb_N ≤ n) {σ : gb_S} (hT : gb_TC σ) : gb_tc (cs_Flocks_fewestGone n σ) (fun s r => s = σ ∧ gb_iv 0 8 r) := by
  unfold cs_Flocks_fewestGone
  exact ct_Flocks_fewestGone_5 hn hT (fun _ h => ⟨rfl, h⟩) n _ _ (gb_iw (lo := 0) (hi := 8) (gb_ic (a := 8) (by decide)) (by decide)) (gb_iw (lo := 0) (hi := 256) (gb_ic (a := 0) (by decide)) (by decide)) (gb_fuu hn (gb_iw (lo := 0) (hi := 256) (gb_ic (a := 0) (by decide)) (by decide)) (by decide))
set_option maxHeartbeats 4000000 in
theorem ct_Flocks_mostGone_4 {n : Nat} (hn : gb_N ≤ n) {Q : gb_S → Int32 → Prop} {σ : gb_S} (hT : gb_TC σ) (hret : ∀ (r : Int32), gb_iv 0 63 r → Q σ r) : ∀ (mm : Nat) (v1 : Int32) (v2 : Int32), gb_iv 0 63 v1 → gb_iv 0 256 v2 → (256 - v2.toInt).toNat < mm → gb_tc (cs_Flocks_mostGone_4 n mm σ v1 v2) Q := by
  intro mm
  induction mm with
  | zero =>
    intro v1 v2 iv1 iv2 hm
    exact absurd hm (Nat.not_lt_zero _)
  | succ mm ih =>
    intro v1 v2 iv1 iv2 hm
    rw [cs_Flocks_mostGone_4]
    refine gc_if (fun c_22367 => ?_) (fun c_22367 => ?_)
    · exact gc_some (hret _ iv1)
    · have j_22368 : gb_iv 0 255 v2 := (gb_rU (lo := 0) (hi := 255) (gb_dnle c_22367) iv2 (gc_rd (c := 11) (lo := 0) (hi := 256) hT (rfl : gc_cat 130 = 11) (by decide)) (by decide))
      have j_22369 : gb_iv 1 256 (σ.1 130 4) := (gb_rL (lo := 1) (hi := 256) (gb_dnle c_22367) (gc_rd (c := 11) (lo := 0) (hi := 256) hT (rfl : gc_cat 130 = 11) (by decide)) j_22368 (by decide))
      refine gc_kk (gc_q4 hT) ?_
      refine gc_ck j_22368 (by decide) ?_
      refine gc_lt (fun x_4 ex_4 => ?_)
      refine gc_if (fun c_22370 => ?_) (fun c_22370 => ?_)
      · have j_22371 : gb_iv (-2147483648) 0 (lg_cmp x_4 (0 : Int64)) := (gb_rU (lo := (-2147483648)) (hi := 0) (gb_dle c_22370) (gb_it _) (gb_ic (a := 0) (by decide)) (by decide))
        refine gc_lti (lo := 1) (hi := 256) (gb_iadd (lo := 1) (hi := 256) j_22368 (gb_ic (a := 1) (by decide)) (by decide)) (fun x_6 ex_6 ix_6 => ?_)
        exact ih _ _ iv1 (gb_iw (lo := 0) (hi := 256) ix_6 (by decide)) (gb_mup ex_6 j_22368 (by decide) hm)
      · have j_22372 : gb_iv 1 2147483647 (lg_cmp x_4 (0 : Int64)) := (gb_rL (lo := 1) (hi := 2147483647) (gb_dnle c_22370) (gb_it _) (gb_ic (a := 0) (by decide)) (by decide))
        refine gc_cdP (ct_java_lang_Integer_bitCount hn hT) (fun r_8 qr_8 h_22373 => ?_)
        refine gc_lti (lo := 0) (hi := 63) (gb_imax (lo := 0) (hi := 63) iv1 h_22373 (by decide)) (fun x_11 ex_11 ix_11 => ?_)
        refine gc_lti (lo := 1) (hi := 256) (gb_iadd (lo := 1) (hi := 256) j_22368 (gb_ic (a := 1) (by decide)) (by decide)) (fun x_12 ex_12 ix_12 => ?_)
        exact ih _ _ ix_11 (gb_iw (lo := 0) (hi := 256) ix_12 (by decide)) (gb_mup ex_12 j_22368 (by decide) hm)
set_option maxHeartbeats 4000000 in
theorem ct_Flocks_mostGone {n : Nat} (hn : gb_N ≤ n) {σ : gb_S} (hT : gb_TC σ) : gb_tc (cs_Flocks_mostGone n σ) (fun s r => s = σ ∧ gb_iv 0 63 r) := by
  unfold cs_Flocks_mostGone
  exact ct_Flocks_mostGone_4 hn hT (fun _ h => ⟨rfl, h⟩) n _ _ (gb_iw (lo := 0) (hi := 63) (gb_ic (a := 0) (by decide)) (by decide)) (gb_iw (lo := 0) (hi := 256) (gb_ic (a := 0) (by decide)) (by decide)) (gb_fuu hn (gb_iw (lo := 0) (hi := 256) (gb_ic (a := 0) (by decide)) (by decide)) (by decide))
set_option maxHeartbeats 4000000 in
theorem ct_Flocks_sureOnes_9 {n : Nat} (hn : gb_N ≤ n) {Q : gb_S → Int32 → Prop} {σ : gb_S} (hT : gb_TC σ) (hret : ∀ (r : Int32), gb_iv (-1) 255 r → Q σ r) : ∀ (mm : Nat) (v1 : Int32) (v2 : Int32), gb_iv (-1) 255 v1 → gb_iv 0 256 v2 → (256 - v2.toInt).toNat < mm → gb_tc (cs_Flocks_sureOnes_9 n mm σ v1 v2) Q := by
  intro mm
  induction mm with
  | zero =>
    intro v1 v2 iv1 iv2 hm
    exact absurd hm (Nat.not_lt_zero _)
  | succ mm ih =>
    intro v1 v2 iv1 iv2 hm
    rw [cs_Flocks_sureOnes_9]
    refine gc_if (fun c_22746 => ?_) (fun c_22746 => ?_)
    · exact gc_some (hret _ iv1)
    · have j_22747 : gb_iv 0 255 v2 := (gb_rU (lo := 0) (hi := 255) (gb_dnle c_22746) iv2 (gc_rd (c := 11) (lo := 0) (hi := 256) hT (rfl : gc_cat 130 = 11) (by decide)) (by decide))
      have j_22748 : gb_iv 1 256 (σ.1 130 4) := (gb_rL (lo := 1) (hi := 256) (gb_dnle c_22746) (gc_rd (c := 11) (lo := 0) (hi := 256) hT (rfl : gc_cat 130 = 11) (by decide)) j_22747 (by decide))
      refine gc_kk (gc_q4 hT) ?_
      refine gc_ck j_22747 (by decide) ?_
      refine gc_lt (fun x_5 ex_5 => ?_)
      refine gc_if (fun c_22749 => ?_) (fun c_22749 => ?_)
      · have j_22750 : gb_iv (-2147483648) 0 (lg_cmp x_5 (0 : Int64)) := (gb_rU (lo := (-2147483648)) (hi := 0) (gb_dle c_22749) (gb_it _) (gb_ic (a := 0) (by decide)) (by decide))
        refine gc_lti (lo := 1) (hi := 256) (gb_iadd (lo := 1) (hi := 256) j_22747 (gb_ic (a := 1) (by decide)) (by decide)) (fun x_7 ex_7 ix_7 => ?_)
        exact ih _ _ iv1 (gb_iw (lo := 0) (hi := 256) ix_7 (by decide)) (gb_mup ex_7 j_22747 (by decide) hm)
      · have j_22751 : gb_iv 1 2147483647 (lg_cmp x_5 (0 : Int64)) := (gb_rL (lo := 1) (hi := 2147483647) (gb_dnle c_22749) (gb_it _) (gb_ic (a := 0) (by decide)) (by decide))
        refine gc_lti (lo := 0) (hi := 255) (gb_iandr (lo := 0) (hi := 255) j_22747 (by decide)) (fun x_8 ex_8 ix_8 => ?_)
        refine gc_lti (lo := 1) (hi := 256) (gb_iadd (lo := 1) (hi := 256) j_22747 (gb_ic (a := 1) (by decide)) (by decide)) (fun x_9 ex_9 ix_9 => ?_)
        exact ih _ _ (gb_iw (lo := (-1)) (hi := 255) ix_8 (by decide)) (gb_iw (lo := 0) (hi := 256) ix_9 (by decide)) (gb_mup ex_9 j_22747 (by decide) hm)
set_option maxHeartbeats 4000000 in
theorem ct_Flocks_sureOnes {n : Nat} (hn : gb_N ≤ n) {σ : gb_S} (hT : gb_TC σ) : gb_tc (cs_Flocks_sureOnes n σ) (fun s r => s = σ ∧ gb_iv (-1) 255 r) := by
  unfold cs_Flocks_sureOnes
  refine gc_lti (lo := (-1)) (hi := 255) (gb_isub (lo := (-1)) (hi := 255) (gc_rd (c := 11) (lo := 0) (hi := 256) hT (rfl : gc_cat 130 = 11) (by decide)) (gb_ic (a := 1) (by decide)) (by decide)) (fun x_1 ex_1 ix_1 => ?_)
  exact ct_Flocks_sureOnes_9 hn hT (fun _ h => ⟨rfl, h⟩) n _ _ ix_1 (gb_iw (lo := 0) (hi := 256) (gb_ic (a := 0) (by decide)) (by decide)) (gb_fuu hn (gb_iw (lo := 0) (hi := 256) (gb_ic (a := 0) (by decide)) (by decide)) (by decide))
set_option maxHeartbeats 4000000 in
theorem ct_Flocks_nearest_B_16 {n : Nat} (hn : gb_N ≤ n) {Q : gb_S → Int32 → Prop} (hret : ∀ (σ : gb_S) (r : Int32), gb_TC σ → gb_iv 0 255 r → Q σ r) : ∀ (mm : Nat) (σ : gb_S) (v3 : Int32) (v4 : Int32) (v5 : Int32), gb_TC σ → gb_iv (-2147483648) 2147483647 v3 → gb_iv 0 255 v4 → gb_iv 1 256 v5 → (256 - v5.toInt).toNat < mm → gb_tc (cs_Flocks_nearest_B_16 n mm σ v3 v4 v5) Q := by
  intro mm
  induction mm with
  | zero =>
    intro σ v3 v4 v5 hT iv3 iv4 iv5 hm
    exact absurd hm (Nat.not_lt_zero _)
  | succ mm ih =>
    intro σ v3 v4 v5 hT iv3 iv4 iv5 hm
    rw [cs_Flocks_nearest_B_16]
    refine gc_if (fun c_23114 => ?_) (fun c_23114 => ?_)
    · exact gc_some (hret _ _ hT iv4)
    · have j_23115 : gb_iv 1 255 v5 := (gb_rU (lo := 1) (hi := 255) (gb_dnle c_23114) iv5 (gc_rd (c := 11) (lo := 0) (hi := 256) hT (rfl : gc_cat 130 = 11) (by decide)) (by decide))
      have j_23116 : gb_iv 2 256 (σ.1 130 4) := (gb_rL (lo := 2) (hi := 256) (gb_dnle c_23114) (gc_rd (c := 11) (lo := 0) (hi := 256) hT (rfl : gc_cat 130 = 11) (by decide)) j_23115 (by decide))
      refine gc_ck j_23115 (by decide) ?_
      refine gc_lti (lo := (-2147483648)) (hi := 2147483647) (gb_it _) (fun x_8 ex_8 ix_8 => ?_)
      refine gc_lti (lo := (-2147483648)) (hi := 2147483647) (gb_iite (gb_iw (lo := (-2147483648)) (hi := 2147483647) (gb_it _) (by decide)) (gb_iw (lo := (-2147483648)) (hi := 2147483647) (gb_it _) (by decide))) (fun x_9 ex_9 ix_9 => ?_)
      refine gc_ck iv4 (by decide) ?_
      refine gc_lti (lo := (-2147483648)) (hi := 2147483647) (gb_it _) (fun x_11 ex_11 ix_11 => ?_)
      refine gc_lti (lo := (-2147483648)) (hi := 2147483647) (gb_iite (gb_iw (lo := (-2147483648)) (hi := 2147483647) (gb_it _) (by decide)) (gb_iw (lo := (-2147483648)) (hi := 2147483647) (gb_it _) (by decide))) (fun x_12 ex_12 ix_12 => ?_)
      refine gc_if (fun c_23117 => ?_) (fun c_23117 => ?_)
      · refine gc_lti (lo := 2) (hi := 256) (gb_iadd (lo := 2) (hi := 256) j_23115 (gb_ic (a := 1) (by decide)) (by decide)) (fun x_14 ex_14 ix_14 => ?_)
        exact ih _ _ _ _ hT (gb_it _) iv4 (gb_iw (lo := 1) (hi := 256) ix_14 (by decide)) (gb_mup ex_14 j_23115 (by decide) hm)
      · have j_23118 : gb_iv (-2147483648) 2147483646 x_9 := (gb_rU (lo := (-2147483648)) (hi := 2147483646) (gb_dnle c_23117) (gb_it _) (gb_it _) (by decide))
        have j_23119 : gb_iv (-2147483647) 2147483647 x_12 := (gb_rL (lo := (-2147483647)) (hi := 2147483647) (gb_dnle c_23117) (gb_it _) j_23118 (by decide))
        refine gc_lti (lo := 2) (hi := 256) (gb_iadd (lo := 2) (hi := 256) j_23115 (gb_ic (a := 1) (by decide)) (by decide)) (fun x_15 ex_15 ix_15 => ?_)
        exact ih _ _ _ _ hT (gb_it _) (gb_iw (lo := 0) (hi := 255) j_23115 (by decide)) (gb_iw (lo := 1) (hi := 256) ix_15 (by decide)) (gb_mup ex_15 j_23115 (by decide) hm)
set_option maxHeartbeats 4000000 in
theorem ct_Flocks_nearest_B {n : Nat} (hn : gb_N ≤ n) {σ : gb_S} {p1 : Nat} {p2 : Int32} {p3 : Int32} (hT : gb_TC σ) (hp1 : gb_kB p1 = true) (ip2 : gb_iv 0 4 p2) : gb_tc (cs_Flocks_nearest_B n σ p1 p2 p3) (fun s r => gb_TC s ∧ gb_iv 0 255 r) := by
  unfold cs_Flocks_nearest_B
  refine gc_kk hp1 ?_
  refine gc_cdT (ct_Flocks_sumUp_B_c131 hn hT hp1 ip2) (fun s_2 u_22933 hTs_2 _ => ?_)
  exact ct_Flocks_nearest_B_16 hn (fun _ _ hT h => ⟨hT, h⟩) n _ _ _ _ hTs_2 (gb_it _) (gb_iw (lo := 0) (hi := 255) (gb_ic (a := 0) (by decide)) (by decide)) (gb_iw (lo := 1) (hi := 256) (gb_ic (a := 1) (by decide)) (by decide)) (gb_fuu hn (gb_iw (lo := 1) (hi := 256) (gb_ic (a := 1) (by decide)) (by decide)) (by decide))
set_option maxHeartbeats 4000000 in
theorem ct_Face_near {n : Nat} (hn : gb_N ≤ n) {σ : gb_S} {p1 : Int32} {p2 : Int32} {p3 : Int32} (hT : gb_TC σ) : gb_tc (cs_Face_near n σ p1 p2 p3) (fun s r => gb_TC s ∧ gb_iv (-1) 255 r) := by
  unfold cs_Face_near
  refine gc_cdP (ct_Face_borderAt hn hT) (fun r_2 qr_2 h_23141 => ?_)
  refine gc_if (fun c_23142 => ?_) (fun c_23142 => ?_)
  · refine gc_cdP (ct_Face_dawnAt hn hT) (fun r_7 qr_7 h_23143 => ?_)
    refine gc_if (fun c_23144 => ?_) (fun c_23144 => ?_)
    · exact gc_some ⟨hT, (gb_iw (lo := (-1)) (hi := 255) (gb_ic (a := (-1)) (by decide)) (by decide))⟩
    · refine gc_kk (Or.resolve_left h_23143 c_23144) ?_
      exact gc_some ⟨hT, (gb_iw (lo := (-1)) (hi := 255) (gb_ic (a := (-1)) (by decide)) (by decide))⟩
  · refine gc_kk (Or.resolve_left h_23141 c_23142) ?_
    refine gc_cdP (ct_Face_dawnAt hn hT) (fun r_14 qr_14 h_23145 => ?_)
    refine gc_if (fun c_23146 => ?_) (fun c_23146 => ?_)
    · exact gc_some ⟨hT, (gb_iw (lo := (-1)) (hi := 255) (gb_ic (a := (-1)) (by decide)) (by decide))⟩
    · refine gc_kk (Or.resolve_left h_23145 c_23146) ?_
      refine gc_if (fun c_23147 => ?_) (fun c_23147 => ?_)
      · have j_23148 : gb_iv (-2147483648) (-1) p3 := (gb_rU (lo := (-2147483648)) (hi := (-1)) (gb_dlt c_23147) (gb_it _) (gb_ic (a := 0) (by decide)) (by decide))
        exact gc_some ⟨hT, (gb_iw (lo := (-1)) (hi := 255) (gb_ic (a := (-1)) (by decide)) (by decide))⟩
      · have j_23149 : gb_iv 0 2147483647 p3 := (gb_rL (lo := 0) (hi := 2147483647) (gb_dnlt c_23147) (gb_it _) (gb_ic (a := 0) (by decide)) (by decide))
        refine gc_cdP (ct_Lines_size_D hn hT (Or.resolve_left h_23145 c_23146)) (fun r_21 qr_21 h_23150 => ?_)
        refine gc_if (fun c_23151 => ?_) (fun c_23151 => ?_)
        · exact gc_some ⟨hT, (gb_iw (lo := (-1)) (hi := 255) (gb_ic (a := (-1)) (by decide)) (by decide))⟩
        · have j_23152 : gb_iv 0 4 p3 := (gb_rU (lo := 0) (hi := 4) (gb_dnle c_23151) j_23149 h_23150 (by decide))
          have j_23153 : gb_iv 1 5 r_21 := (gb_rL (lo := 1) (hi := 5) (gb_dnle c_23151) h_23150 j_23152 (by decide))
          refine gc_cdP (ct_Dawn_pathSeen_D hn hT (Or.resolve_left h_23145 c_23146) j_23152) (fun r_26 qr_26 h_23154 => ?_)
          refine gc_cdP (ct_Border_hasPath_B hn hT (Or.resolve_left h_23141 c_23142)) (fun r_30 qr_30 h_23155 => ?_)
          refine gc_if (fun c_23156 => ?_) (fun c_23156 => ?_)
          · have j_23157 : gb_iv 0 0 r_30 := (gb_rU (lo := 0) (hi := 0) (gb_deq c_23156) h_23155.1 (gb_ic (a := 0) (by decide)) (by decide))
            exact gc_some ⟨hT, (gb_iw (lo := (-1)) (hi := 255) (gb_ic (a := (-1)) (by decide)) (by decide))⟩
          · have j_23158 : gb_iv 1 1 r_30 := (gb_rN (lo := 1) (hi := 1) (v := 0) c_23156 h_23155.1 (by decide) (by decide))
            have j_23159 : gb_iv 0 4 r_26 := (h_23155.2 c_23156)
            refine gc_cdE qr_26 ?_
            refine gc_cdP (ct_Dawn_marksSeen_D hn hT (Or.resolve_left h_23145 c_23146) j_23152) (fun r_39 qr_39 h_23160 => ?_)
            refine gc_cdT (ct_Flocks_nearest_B hn hT (Or.resolve_left h_23141 c_23142) j_23159) (fun s_42 r_43 hTs_42 h_23161 => ?_)
            exact gc_some ⟨hTs_42, (gb_iw (lo := (-1)) (hi := 255) h_23161 (by decide))⟩
set_option maxHeartbeats 4000000 in
theorem ct_Face_toeOf_B_D_12 {n : Nat} (hn : gb_N ≤ n) {Q : gb_S → Int32 → Prop} {σ : gb_S} (hT : gb_TC σ) {k2 : gb_S → Nat → Nat → Int32 → gb_CR Int32} {M2 : Nat} (hk2 : ∀ (v0 : Nat) (v1 : Nat) (v2 : Int32), gb_kB v0 = true → gb_kD v1 = true → gb_iv 0 8 v2 → (8 - v2.toInt).toNat < M2 → gb_tc (k2 σ v0 v1 v2) Q) (hret : ∀ (r : Int32), gb_iv (-1) 7 r → Q σ r) : ∀ (mm : Nat) (v0 : Nat) (v1 : Nat) (v2 : Int32) (v3 : Int32), gb_kB v0 = true → gb_kD v1 = true → gb_iv 0 7 v2 → gb_iv 0 5 v3 → (8 - v2.toInt).toNat < M2 + 1 → (5 - v3.toInt).toNat < mm → gb_tc (cs_Face_toeOf_B_D_12 n k2 mm σ v0 v1 v2 v3) Q := by
  intro mm
  induction mm with
  | zero =>
    intro v0 v1 v2 v3 hv0 hv1 iv2 iv3 hm2 hm
    exact absurd hm (Nat.not_lt_zero _)
  | succ mm ih =>
    intro v0 v1 v2 v3 hv0 hv1 iv2 iv3 hm2 hm
    rw [cs_Face_toeOf_B_D_12]
    refine gc_kk hv0 ?_
    refine gc_kk hv1 ?_
    refine gc_cdP (ct_Lines_size_D hn hT hv1) (fun r_13 qr_13 h_28525 => ?_)
    refine gc_if (fun c_28526 => ?_) (fun c_28526 => ?_)
    · refine gc_lti (lo := 1) (hi := 8) (gb_iadd (lo := 1) (hi := 8) iv2 (gb_ic (a := 1) (by decide)) (by decide)) (fun x_17 ex_17 ix_17 => ?_)
      exact hk2 _ _ _ hv0 hv1 (gb_iw (lo := 0) (hi := 8) ix_17 (by decide)) (gb_mup ex_17 iv2 (by decide) hm2)
    · have j_28527 : gb_iv 0 4 v3 := (gb_rU (lo := 0) (hi := 4) (gb_dnle c_28526) iv3 h_28525 (by decide))
      have j_28528 : gb_iv 1 5 r_13 := (gb_rL (lo := 1) (hi := 5) (gb_dnle c_28526) h_28525 j_28527 (by decide))
      refine gc_cdP (ct_Dawn_pathSeen_D hn hT hv1 j_28527) (fun r_19 qr_19 h_28529 => ?_)
      refine gc_cdP (ct_Border_hasPath_B hn hT hv0) (fun r_23 qr_23 h_28530 => ?_)
      refine gc_if (fun c_28531 => ?_) (fun c_28531 => ?_)
      · have j_28532 : gb_iv 0 0 r_23 := (gb_rU (lo := 0) (hi := 0) (gb_deq c_28531) h_28530.1 (gb_ic (a := 0) (by decide)) (by decide))
        refine gc_lti (lo := 1) (hi := 5) (gb_iadd (lo := 1) (hi := 5) j_28527 (gb_ic (a := 1) (by decide)) (by decide)) (fun x_27 ex_27 ix_27 => ?_)
        exact ih _ _ _ _ hv0 hv1 iv2 (gb_iw (lo := 0) (hi := 5) ix_27 (by decide)) hm2 (gb_mup ex_27 j_28527 (by decide) hm)
      · have j_28533 : gb_iv 1 1 r_23 := (gb_rN (lo := 1) (hi := 1) (v := 0) c_28531 h_28530.1 (by decide) (by decide))
        have j_28534 : gb_iv 0 4 r_19 := (h_28530.2 c_28531)
        refine gc_cdP (ct_Border_marksFirst_B hn hT hv0 iv2 j_28534) (fun r_29 qr_29 h_28535 => ?_)
        refine gc_cdP (ct_Dawn_marksSeen_D hn hT hv1 j_28527) (fun r_33 qr_33 h_28536 => ?_)
        refine gc_if (fun c_28537 => ?_) (fun c_28537 => ?_)
        · exact gc_some (hret _ (gb_iw (lo := (-1)) (hi := 7) iv2 (by decide)))
        · refine gc_lti (lo := 1) (hi := 5) (gb_iadd (lo := 1) (hi := 5) j_28527 (gb_ic (a := 1) (by decide)) (by decide)) (fun x_37 ex_37 ix_37 => ?_)
          exact ih _ _ _ _ hv0 hv1 iv2 (gb_iw (lo := 0) (hi := 5) ix_37 (by decide)) hm2 (gb_mup ex_37 j_28527 (by decide) hm)
set_option maxHeartbeats 4000000 in
theorem ct_Face_toeOf_B_D_2 {n : Nat} (hn : gb_N ≤ n) {Q : gb_S → Int32 → Prop} {σ : gb_S} (hT : gb_TC σ) (hret : ∀ (r : Int32), gb_iv (-1) 7 r → Q σ r) : ∀ (mm : Nat) (v0 : Nat) (v1 : Nat) (v2 : Int32), gb_kB v0 = true → gb_kD v1 = true → gb_iv 0 8 v2 → (8 - v2.toInt).toNat < mm → gb_tc (cs_Face_toeOf_B_D_2 n mm σ v0 v1 v2) Q := by
  intro mm
  induction mm with
  | zero =>
    intro v0 v1 v2 hv0 hv1 iv2 hm
    exact absurd hm (Nat.not_lt_zero _)
  | succ mm ih =>
    intro v0 v1 v2 hv0 hv1 iv2 hm
    rw [cs_Face_toeOf_B_D_2]
    refine gc_kk hv0 ?_
    refine gc_kk hv1 ?_
    refine gc_cdP (ct_Border_geese_B hn hT hv0) (fun r_6 qr_6 h_28352 => ?_)
    refine gc_if (fun c_28353 => ?_) (fun c_28353 => ?_)
    · exact gc_some (hret _ (gb_iw (lo := (-1)) (hi := 7) (gb_ic (a := (-1)) (by decide)) (by decide)))
    · have j_28354 : gb_iv 0 7 v2 := (gb_rU (lo := 0) (hi := 7) (gb_dnle c_28353) iv2 h_28352 (by decide))
      have j_28355 : gb_iv 1 8 r_6 := (gb_rL (lo := 1) (hi := 8) (gb_dnle c_28353) h_28352 j_28354 (by decide))
      exact ct_Face_toeOf_B_D_12 hn hT ih hret n _ _ _ _ hv0 hv1 j_28354 (gb_iw (lo := 0) (hi := 5) (gb_ic (a := 0) (by decide)) (by decide)) hm (gb_fuu hn (gb_iw (lo := 0) (hi := 5) (gb_ic (a := 0) (by decide)) (by decide)) (by decide))
set_option maxHeartbeats 4000000 in
theorem ct_Face_toeOf_B_D {n : Nat} (hn : gb_N ≤ n) {σ : gb_S} {p1 : Nat} {p2 : Nat} (hT : gb_TC σ) (hp1 : gb_kB p1 = true) (hp2 : gb_kD p2 = true) : gb_tc (cs_Face_toeOf_B_D n σ p1 p2) (fun s r => s = σ ∧ gb_iv (-1) 7 r) := by
  unfold cs_Face_toeOf_B_D
  refine gc_kk hp1 ?_
  refine gc_kk hp2 ?_
  exact ct_Face_toeOf_B_D_2 hn hT (fun _ h => ⟨rfl, h⟩) n _ _ _ hp1 hp2 (gb_iw (lo := 0) (hi := 8) (gb_ic (a := 0) (by decide)) (by decide)) (gb_fuu hn (gb_iw (lo := 0) (hi := 8) (gb_ic (a := 0) (by decide)) (by decide)) (by decide))
set_option maxHeartbeats 4000000 in
theorem ct_Face_numberBelow {n : Nat} (hn : gb_N ≤ n) {σ : gb_S} {p1 : Int32} (hT : gb_TC σ) : gb_tc (cs_Face_numberBelow n σ p1) (fun s r => gb_TC s ∧ gb_iv 0 65535 r) := by
  unfold cs_Face_numberBelow
  refine gc_ltT (gc_su0 hT (rfl : gc_cat 0 = 0)) (fun s_1 es_1 hTs_1 => ?_)
  refine gc_if (fun c_28541 => ?_) (fun c_28541 => ?_)
  · have j_28542 : gb_iv (-2147483648) 0 p1 := (gb_rU (lo := (-2147483648)) (hi := 0) (gb_dle c_28541) (gb_it _) (gb_ic (a := 0) (by decide)) (by decide))
    exact gc_some ⟨hTs_1, (gb_iw (lo := 0) (hi := 65535) (gb_ic (a := 0) (by decide)) (by decide))⟩
  · have j_28543 : gb_iv 1 2147483647 p1 := (gb_rL (lo := 1) (hi := 2147483647) (gb_dnle c_28541) (gb_it _) (gb_ic (a := 0) (by decide)) (by decide))
    refine gc_nz j_28543 (by decide) ?_
    refine gc_lti (lo := 0) (hi := 65535) (gb_irem (lo := 0) (hi := 65535) (gb_iushr _) j_28543 (by decide)) (fun x_4 ex_4 ix_4 => ?_)
    exact gc_some ⟨hTs_1, ix_4⟩
set_option maxHeartbeats 4000000 in
theorem ct_Play_allTallies_4 {n : Nat} (hn : gb_N ≤ n) {Q : gb_S → Int32 → Prop} {σ : gb_S} (hT : gb_TC σ) (hret : ∀ (r : Int32), gb_iv (-2147483648) 2147483647 r → Q σ r) : ∀ (mm : Nat) (v1 : Int32) (v2 : Int32), gb_iv (-2147483648) 2147483647 v1 → gb_iv 0 5 v2 → (5 - v2.toInt).toNat < mm → gb_tc (cs_Play_allTallies_4 n mm σ v1 v2) Q := by
  intro mm
  induction mm with
  | zero =>
    intro v1 v2 iv1 iv2 hm
    exact absurd hm (Nat.not_lt_zero _)
  | succ mm ih =>
    intro v1 v2 iv1 iv2 hm
    rw [cs_Play_allTallies_4]
    refine gc_kk (gc_q1 hT) ?_
    refine gc_cdP (ct_Border_paths_B hn hT (gc_q1 hT)) (fun r_3 qr_3 h_28674 => ?_)
    refine gc_if (fun c_28675 => ?_) (fun c_28675 => ?_)
    · exact gc_some (hret _ (gb_it _))
    · have j_28676 : gb_iv 0 4 v2 := (gb_rU (lo := 0) (hi := 4) (gb_dnle c_28675) iv2 h_28674 (by decide))
      have j_28677 : gb_iv 1 5 r_3 := (gb_rL (lo := 1) (hi := 5) (gb_dnle c_28675) h_28674 j_28676 (by decide))
      refine gc_cdP (ct_Play_tally hn hT j_28676) (fun r_8 qr_8 h_28678 => ?_)
      refine gc_lti (lo := (-2147483648)) (hi := 2147483647) (gb_it _) (fun x_11 ex_11 ix_11 => ?_)
      refine gc_lti (lo := 1) (hi := 5) (gb_iadd (lo := 1) (hi := 5) j_28676 (gb_ic (a := 1) (by decide)) (by decide)) (fun x_12 ex_12 ix_12 => ?_)
      exact ih _ _ (gb_it _) (gb_iw (lo := 0) (hi := 5) ix_12 (by decide)) (gb_mup ex_12 j_28676 (by decide) hm)
set_option maxHeartbeats 4000000 in
theorem ct_Play_allTallies {n : Nat} (hn : gb_N ≤ n) {σ : gb_S} (hT : gb_TC σ) : gb_tc (cs_Play_allTallies n σ) (fun s r => s = σ ∧ gb_iv (-2147483648) 2147483647 r) := by
  unfold cs_Play_allTallies
  exact ct_Play_allTallies_4 hn hT (fun _ h => ⟨rfl, h⟩) n _ _ (gb_iw (lo := (-2147483648)) (hi := 2147483647) (gb_ic (a := 0) (by decide)) (by decide)) (gb_iw (lo := 0) (hi := 5) (gb_ic (a := 0) (by decide)) (by decide)) (gb_fuu hn (gb_iw (lo := 0) (hi := 5) (gb_ic (a := 0) (by decide)) (by decide)) (by decide))
