set_option maxHeartbeats 4000000 in
theorem ct_numberBelow05 {n : Nat} (hn : gb_N ≤ n) {σ : gb_S} {p1 : Int32} (hT : gb_TC σ) (ip1 : gb_iv 0 5 p1) : gb_tc (cs_Face_numberBelow n σ p1) (fun s r => gb_TC s ∧ gb_iv 0 4 r) := by
  unfold cs_Face_numberBelow
  refine gc_ltT (gc_su0 hT (rfl : gc_cat 0 = 0)) (fun s_1 es_1 hTs_1 => ?_)
  refine gc_if (fun c_28436 => ?_) (fun c_28436 => ?_)
  · have j_28437 : gb_iv 0 0 p1 := (gb_rU (lo := 0) (hi := 0) (gb_dle c_28436) ip1 (gb_ic (a := 0) (by decide)) (by decide))
    exact gc_some ⟨hTs_1, (gb_iw (lo := 0) (hi := 4) (gb_ic (a := 0) (by decide)) (by decide))⟩
  · have j_28438 : gb_iv 1 5 p1 := (gb_rL (lo := 1) (hi := 5) (gb_dnle c_28436) ip1 (gb_ic (a := 0) (by decide)) (by decide))
    refine gc_nz j_28438 (by decide) ?_
    refine gc_lti (lo := 0) (hi := 4) (gb_irem (lo := 0) (hi := 4) (gb_iushr _) j_28438 (by decide)) (fun x_4 ex_4 ix_4 => ?_)
    exact gc_some ⟨hTs_1, ix_4⟩
set_option maxHeartbeats 4000000 in
theorem ct_Face_drawnNight_B_70 {n : Nat} (hn : gb_N ≤ n) {Q : gb_S → Int32 → Prop} (hret : ∀ (σ : gb_S) (r : Int32), gb_TC σ → gb_iv (-2147483648) 2147483647 r → Q σ r) : ∀ (mm : Nat) (σ : gb_S) (v1 : Nat) (v2 : Int32) (v3 : Int32) (v4 : Int32), gb_TC σ → gb_kB v1 = true → gb_iv 0 2 v2 → gb_iv (-2147483648) 2147483647 v3 → gb_iv 0 5 v4 → (5 - v4.toInt).toNat < mm → gb_tc (cs_Face_drawnNight_B_70 n mm σ v1 v2 v3 v4) Q := by
  intro mm
  induction mm with
  | zero =>
    intro σ v1 v2 v3 v4 hT hv1 iv2 iv3 iv4 hm
    exact absurd hm (Nat.not_lt_zero _)
  | succ mm ih =>
    intro σ v1 v2 v3 v4 hT hv1 iv2 iv3 iv4 hm
    rw [cs_Face_drawnNight_B_70]
    refine gc_kk hv1 ?_
    refine gc_cdP (ct_Border_paths_B hn hT hv1) (fun r_22 qr_22 h_48803 => ?_)
    refine gc_if (fun c_48804 => ?_) (fun c_48804 => ?_)
    · refine gc_if (fun c_48805 => ?_) (fun c_48805 => ?_)
      · have j_48806 : gb_iv 0 0 v2 := (gb_rU (lo := 0) (hi := 0) (gb_deq c_48805) iv2 (gb_ic (a := 0) (by decide)) (by decide))
        refine gc_cdP (ct_Play_allTallies hn hT) (fun r_28 qr_28 h_48807 => ?_)
        exact gc_some (hret _ _ hT (gb_it _))
      · have j_48808 : gb_iv 1 2 v2 := (gb_rN (lo := 1) (hi := 2) (v := 0) c_48805 iv2 (by decide) (by decide))
        refine gc_if (fun c_48809 => ?_) (fun c_48809 => ?_)
        · have j_48810 : gb_iv 1 1 v2 := (gb_rU (lo := 1) (hi := 1) (gb_deq c_48809) j_48808 (gb_ic (a := 1) (by decide)) (by decide))
          refine gc_cdP (ct_Play_allPay hn hT) (fun r_33 qr_33 h_48811 => ?_)
          exact gc_some (hret _ _ hT (gb_it _))
        · have j_48812 : gb_iv 2 2 v2 := (gb_rN (lo := 2) (hi := 2) (v := 1) c_48809 j_48808 (by decide) (by decide))
          refine gc_if (fun c_48813 => ?_) (fun c_48813 => ?_)
          · exact gc_some (hret _ _ hT (gb_it _))
          · exact (gb_em (gb_rN (lo := 3) (hi := 1) (v := 2) c_48813 j_48812 (by decide) (by decide)) (by decide)).elim
    · have j_48814 : gb_iv 0 4 v4 := (gb_rU (lo := 0) (hi := 4) (gb_dnle c_48804) iv4 h_48803 (by decide))
      have j_48815 : gb_iv 1 5 r_22 := (gb_rL (lo := 1) (hi := 5) (gb_dnle c_48804) h_48803 j_48814 (by decide))
      refine gc_cdT (ct_Face_numberBelow hn hT) (fun s_44 r_45 hTs_44 h_48816 => ?_)
      refine gc_cdP (ct_Border_pad_B hn hTs_44 hv1 j_48814) (fun r_49 qr_49 h_48817 => ?_)
      refine gc_if (fun c_48818 => ?_) (fun c_48818 => ?_)
      · refine gc_lti (lo := 1) (hi := 5) (gb_iadd (lo := 1) (hi := 5) j_48814 (gb_ic (a := 1) (by decide)) (by decide)) (fun x_53 ex_53 ix_53 => ?_)
        exact ih _ _ _ _ _ hTs_44 hv1 iv2 (gb_it _) (gb_iw (lo := 0) (hi := 5) ix_53 (by decide)) (gb_mup ex_53 j_48814 (by decide) hm)
      · have j_48819 : gb_iv (-2147483648) 2147483646 r_45 := (gb_rU (lo := (-2147483648)) (hi := 2147483646) (gb_dnle c_48818) (gb_it _) (gb_it _) (by decide))
        have j_48820 : gb_iv (-2147483647) 2147483647 r_49 := (gb_rL (lo := (-2147483647)) (hi := 2147483647) (gb_dnle c_48818) (gb_it _) j_48819 (by decide))
        refine gc_lti (lo := (-2147483648)) (hi := 2147483647) (gb_it _) (fun x_54 ex_54 ix_54 => ?_)
        refine gc_lti (lo := 1) (hi := 5) (gb_iadd (lo := 1) (hi := 5) j_48814 (gb_ic (a := 1) (by decide)) (by decide)) (fun x_55 ex_55 ix_55 => ?_)
        exact ih _ _ _ _ _ hTs_44 hv1 iv2 (gb_it _) (gb_iw (lo := 0) (hi := 5) ix_55 (by decide)) (gb_mup ex_55 j_48814 (by decide) hm)
set_option maxHeartbeats 4000000 in
theorem ct_Face_drawnNight_B_10 {n : Nat} (hn : gb_N ≤ n) {Q : gb_S → Int32 → Prop} (hret : ∀ (σ : gb_S) (r : Int32), gb_TC σ → gb_iv (-2147483648) 2147483647 r → Q σ r) : ∀ (mm : Nat) (σ : gb_S) (v1 : Nat) (v2 : Int32) (v3 : Int32), gb_TC σ → gb_kB v1 = true → gb_iv 0 2 v2 → gb_iv 0 8 v3 → (8 - v3.toInt).toNat < mm → gb_tc (cs_Face_drawnNight_B_10 n mm σ v1 v2 v3) Q := by
  intro mm
  induction mm with
  | zero =>
    intro σ v1 v2 v3 hT hv1 iv2 iv3 hm
    exact absurd hm (Nat.not_lt_zero _)
  | succ mm ih =>
    intro σ v1 v2 v3 hT hv1 iv2 iv3 hm
    rw [cs_Face_drawnNight_B_10]
    refine gc_kk hv1 ?_
    refine gc_cdP (ct_Border_geese_B hn hT hv1) (fun r_8 qr_8 h_48151 => ?_)
    refine gc_if (fun c_48152 => ?_) (fun c_48152 => ?_)
    · refine gc_cdT (ct_Face_numberBelow hn hT) (fun s_12 r_13 hTs_12 h_48153 => ?_)
      refine gc_cdT (ct_Play_rainDown hn hTs_12) (fun s_16 u_48154 hTs_16 _ => ?_)
      exact ct_Face_drawnNight_B_70 hn hret n _ _ _ _ _ hTs_16 hv1 iv2 (gb_iw (lo := (-2147483648)) (hi := 2147483647) (gb_ic (a := 0) (by decide)) (by decide)) (gb_iw (lo := 0) (hi := 5) (gb_ic (a := 0) (by decide)) (by decide)) (gb_fuu hn (gb_iw (lo := 0) (hi := 5) (gb_ic (a := 0) (by decide)) (by decide)) (by decide))
    · have j_48821 : gb_iv 0 7 v3 := (gb_rU (lo := 0) (hi := 7) (gb_dnle c_48152) iv3 h_48151 (by decide))
      have j_48822 : gb_iv 1 8 r_8 := (gb_rL (lo := 1) (hi := 8) (gb_dnle c_48152) h_48151 j_48821 (by decide))
      refine gc_cdP (ct_Border_paths_B hn hT hv1) (fun r_57 qr_57 h_48823 => ?_)
      refine gc_cdT (ct_numberBelow05 hn hT h_48823) (fun s_60 r_61 hTs_60 h_48824 => ?_)
      refine gc_cdT (ct_Play_go_c116 hn hTs_60 j_48821 h_48824) (fun s_64 u_48825 hTs_64 _ => ?_)
      refine gc_lti (lo := 1) (hi := 8) (gb_iadd (lo := 1) (hi := 8) j_48821 (gb_ic (a := 1) (by decide)) (by decide)) (fun x_68 ex_68 ix_68 => ?_)
      exact ih _ _ _ _ hTs_64 hv1 iv2 (gb_iw (lo := 0) (hi := 8) ix_68 (by decide)) (gb_mup ex_68 j_48821 (by decide) hm)
set_option maxHeartbeats 4000000 in
theorem ct_drawnNight_a {n : Nat} (hn : gb_N ≤ n) {σ : gb_S} {p1 : Nat} {p2 : Int32} (hT : gb_TC σ) (hp1 : gb_kB p1 = true) (ip2 : gb_iv 0 2 p2) : gb_tc (cs_Face_drawnNight_B n σ p1 p2) (fun s r => gb_TC s ∧ gb_iv (-2147483648) 2147483647 r) := by
  unfold cs_Face_drawnNight_B
  refine gc_kk hp1 ?_
  refine gc_cdT (ct_Play_begin_B hn hT hp1) (fun s_2 u_38295 hTs_2 _ => ?_)
  exact ct_Face_drawnNight_B_10 hn (fun _ _ hT h => ⟨hT, h⟩) n _ _ _ _ hTs_2 hp1 ip2 (gb_iw (lo := 0) (hi := 8) (gb_ic (a := 0) (by decide)) (by decide)) (gb_fuu hn (gb_iw (lo := 0) (hi := 8) (gb_ic (a := 0) (by decide)) (by decide)) (by decide))
set_option maxHeartbeats 4000000 in
theorem ct_Face_drawnNight_B_70_i1 {n : Nat} (hn : gb_N ≤ n) {Q : gb_S → Int32 → Prop} (hret : ∀ (σ : gb_S) (r : Int32), gb_TC σ → gb_iv 0 2147483647 r → Q σ r) : ∀ (mm : Nat) (σ : gb_S) (v1 : Nat) (v2 : Int32) (v3 : Int32) (v4 : Int32), gb_TC σ → gb_kB v1 = true → gb_iv 10 14 v2 → gb_iv (-2147483648) 2147483647 v3 → gb_iv 0 5 v4 → (5 - v4.toInt).toNat < mm → gb_tc (cs_Face_drawnNight_B_70 n mm σ v1 v2 v3 v4) Q := by
  intro mm
  induction mm with
  | zero =>
    intro σ v1 v2 v3 v4 hT hv1 iv2 iv3 iv4 hm
    exact absurd hm (Nat.not_lt_zero _)
  | succ mm ih =>
    intro σ v1 v2 v3 v4 hT hv1 iv2 iv3 iv4 hm
    rw [cs_Face_drawnNight_B_70]
    refine gc_kk hv1 ?_
    refine gc_cdP (ct_Border_paths_B hn hT hv1) (fun r_22 qr_22 h_64726 => ?_)
    refine gc_if (fun c_64727 => ?_) (fun c_64727 => ?_)
    · refine gc_if (fun c_64728 => ?_) (fun c_64728 => ?_)
      · exact (gb_em (gb_rU (lo := 10) (hi := 0) (gb_deq c_64728) iv2 (gb_ic (a := 0) (by decide)) (by decide)) (by decide)).elim
      · refine gc_if (fun c_64729 => ?_) (fun c_64729 => ?_)
        · exact (gb_em (gb_rU (lo := 10) (hi := 1) (gb_deq c_64729) iv2 (gb_ic (a := 1) (by decide)) (by decide)) (by decide)).elim
        · refine gc_if (fun c_64730 => ?_) (fun c_64730 => ?_)
          · exact (gb_em (gb_rU (lo := 10) (hi := 2) (gb_deq c_64730) iv2 (gb_ic (a := 2) (by decide)) (by decide)) (by decide)).elim
          · refine gc_if (fun c_64731 => ?_) (fun c_64731 => ?_)
            · exact (gb_em (gb_rL (lo := 20) (hi := 14) (gb_dle c_64731) iv2 (gb_ic (a := 20) (by decide)) (by decide)) (by decide)).elim
            · refine gc_cdP (ct_Play_tally hn hT (gb_isub (lo := 0) (hi := 4) iv2 (gb_ic (a := 10) (by decide)) (by decide))) (fun r_41 qr_41 h_64732 => ?_)
              exact gc_some (hret _ _ hT h_64732)
    · have j_64733 : gb_iv 0 4 v4 := (gb_rU (lo := 0) (hi := 4) (gb_dnle c_64727) iv4 h_64726 (by decide))
      have j_64734 : gb_iv 1 5 r_22 := (gb_rL (lo := 1) (hi := 5) (gb_dnle c_64727) h_64726 j_64733 (by decide))
      refine gc_cdT (ct_Face_numberBelow hn hT) (fun s_44 r_45 hTs_44 h_64735 => ?_)
      refine gc_cdP (ct_Border_pad_B hn hTs_44 hv1 j_64733) (fun r_49 qr_49 h_64736 => ?_)
      refine gc_if (fun c_64737 => ?_) (fun c_64737 => ?_)
      · refine gc_lti (lo := 1) (hi := 5) (gb_iadd (lo := 1) (hi := 5) j_64733 (gb_ic (a := 1) (by decide)) (by decide)) (fun x_53 ex_53 ix_53 => ?_)
        exact ih _ _ _ _ _ hTs_44 hv1 iv2 (gb_it _) (gb_iw (lo := 0) (hi := 5) ix_53 (by decide)) (gb_mup ex_53 j_64733 (by decide) hm)
      · have j_64738 : gb_iv (-2147483648) 2147483646 r_45 := (gb_rU (lo := (-2147483648)) (hi := 2147483646) (gb_dnle c_64737) (gb_it _) (gb_it _) (by decide))
        have j_64739 : gb_iv (-2147483647) 2147483647 r_49 := (gb_rL (lo := (-2147483647)) (hi := 2147483647) (gb_dnle c_64737) (gb_it _) j_64738 (by decide))
        refine gc_lti (lo := (-2147483648)) (hi := 2147483647) (gb_it _) (fun x_54 ex_54 ix_54 => ?_)
        refine gc_lti (lo := 1) (hi := 5) (gb_iadd (lo := 1) (hi := 5) j_64733 (gb_ic (a := 1) (by decide)) (by decide)) (fun x_55 ex_55 ix_55 => ?_)
        exact ih _ _ _ _ _ hTs_44 hv1 iv2 (gb_it _) (gb_iw (lo := 0) (hi := 5) ix_55 (by decide)) (gb_mup ex_55 j_64733 (by decide) hm)
set_option maxHeartbeats 4000000 in
theorem ct_Face_drawnNight_B_10_i1 {n : Nat} (hn : gb_N ≤ n) {Q : gb_S → Int32 → Prop} (hret : ∀ (σ : gb_S) (r : Int32), gb_TC σ → gb_iv 0 2147483647 r → Q σ r) : ∀ (mm : Nat) (σ : gb_S) (v1 : Nat) (v2 : Int32) (v3 : Int32), gb_TC σ → gb_kB v1 = true → gb_iv 10 14 v2 → gb_iv 0 8 v3 → (8 - v3.toInt).toNat < mm → gb_tc (cs_Face_drawnNight_B_10 n mm σ v1 v2 v3) Q := by
  intro mm
  induction mm with
  | zero =>
    intro σ v1 v2 v3 hT hv1 iv2 iv3 hm
    exact absurd hm (Nat.not_lt_zero _)
  | succ mm ih =>
    intro σ v1 v2 v3 hT hv1 iv2 iv3 hm
    rw [cs_Face_drawnNight_B_10]
    refine gc_kk hv1 ?_
    refine gc_cdP (ct_Border_geese_B hn hT hv1) (fun r_8 qr_8 h_64218 => ?_)
    refine gc_if (fun c_64219 => ?_) (fun c_64219 => ?_)
    · refine gc_cdT (ct_Face_numberBelow hn hT) (fun s_12 r_13 hTs_12 h_64220 => ?_)
      refine gc_cdT (ct_Play_rainDown hn hTs_12) (fun s_16 u_64221 hTs_16 _ => ?_)
      exact ct_Face_drawnNight_B_70_i1 hn hret n _ _ _ _ _ hTs_16 hv1 iv2 (gb_iw (lo := (-2147483648)) (hi := 2147483647) (gb_ic (a := 0) (by decide)) (by decide)) (gb_iw (lo := 0) (hi := 5) (gb_ic (a := 0) (by decide)) (by decide)) (gb_fuu hn (gb_iw (lo := 0) (hi := 5) (gb_ic (a := 0) (by decide)) (by decide)) (by decide))
    · have j_64740 : gb_iv 0 7 v3 := (gb_rU (lo := 0) (hi := 7) (gb_dnle c_64219) iv3 h_64218 (by decide))
      have j_64741 : gb_iv 1 8 r_8 := (gb_rL (lo := 1) (hi := 8) (gb_dnle c_64219) h_64218 j_64740 (by decide))
      refine gc_cdP (ct_Border_paths_B hn hT hv1) (fun r_57 qr_57 h_64742 => ?_)
      refine gc_cdT (ct_numberBelow05 hn hT h_64742) (fun s_60 r_61 hTs_60 h_64743 => ?_)
      refine gc_cdT (ct_Play_go_c116 hn hTs_60 j_64740 h_64743) (fun s_64 u_64744 hTs_64 _ => ?_)
      refine gc_lti (lo := 1) (hi := 8) (gb_iadd (lo := 1) (hi := 8) j_64740 (gb_ic (a := 1) (by decide)) (by decide)) (fun x_68 ex_68 ix_68 => ?_)
      exact ih _ _ _ _ hTs_64 hv1 iv2 (gb_iw (lo := 0) (hi := 8) ix_68 (by decide)) (gb_mup ex_68 j_64740 (by decide) hm)
set_option maxHeartbeats 4000000 in
theorem ct_drawnNight_b {n : Nat} (hn : gb_N ≤ n) {σ : gb_S} {p1 : Nat} {p2 : Int32} (hT : gb_TC σ) (hp1 : gb_kB p1 = true) (ip2 : gb_iv 10 14 p2) : gb_tc (cs_Face_drawnNight_B n σ p1 p2) (fun s r => gb_TC s ∧ gb_iv 0 2147483647 r) := by
  unfold cs_Face_drawnNight_B
  refine gc_kk hp1 ?_
  refine gc_cdT (ct_Play_begin_B hn hT hp1) (fun s_2 u_56522 hTs_2 _ => ?_)
  exact ct_Face_drawnNight_B_10_i1 hn (fun _ _ hT h => ⟨hT, h⟩) n _ _ _ _ hTs_2 hp1 ip2 (gb_iw (lo := 0) (hi := 8) (gb_ic (a := 0) (by decide)) (by decide)) (gb_fuu hn (gb_iw (lo := 0) (hi := 8) (gb_ic (a := 0) (by decide)) (by decide)) (by decide))
set_option maxHeartbeats 4000000 in
theorem ct_Face_drawnNight_B_70_i2 {n : Nat} (hn : gb_N ≤ n) {Q : gb_S → Int32 → Prop} (hret : ∀ (σ : gb_S) (r : Int32), gb_TC σ → gb_iv (-2147483648) 2147483647 r → Q σ r) : ∀ (mm : Nat) (σ : gb_S) (v1 : Nat) (v2 : Int32) (v3 : Int32) (v4 : Int32), gb_TC σ → gb_kB v1 = true → gb_iv 20 27 v2 → gb_iv (-2147483648) 2147483647 v3 → gb_iv 0 5 v4 → (5 - v4.toInt).toNat < mm → gb_tc (cs_Face_drawnNight_B_70 n mm σ v1 v2 v3 v4) Q := by
  intro mm
  induction mm with
  | zero =>
    intro σ v1 v2 v3 v4 hT hv1 iv2 iv3 iv4 hm
    exact absurd hm (Nat.not_lt_zero _)
  | succ mm ih =>
    intro σ v1 v2 v3 v4 hT hv1 iv2 iv3 iv4 hm
    rw [cs_Face_drawnNight_B_70]
    refine gc_kk hv1 ?_
    refine gc_cdP (ct_Border_paths_B hn hT hv1) (fun r_22 qr_22 h_79529 => ?_)
    refine gc_if (fun c_79530 => ?_) (fun c_79530 => ?_)
    · refine gc_if (fun c_79531 => ?_) (fun c_79531 => ?_)
      · exact (gb_em (gb_rU (lo := 20) (hi := 0) (gb_deq c_79531) iv2 (gb_ic (a := 0) (by decide)) (by decide)) (by decide)).elim
      · refine gc_if (fun c_79532 => ?_) (fun c_79532 => ?_)
        · exact (gb_em (gb_rU (lo := 20) (hi := 1) (gb_deq c_79532) iv2 (gb_ic (a := 1) (by decide)) (by decide)) (by decide)).elim
        · refine gc_if (fun c_79533 => ?_) (fun c_79533 => ?_)
          · exact (gb_em (gb_rU (lo := 20) (hi := 2) (gb_deq c_79533) iv2 (gb_ic (a := 2) (by decide)) (by decide)) (by decide)).elim
          · refine gc_if (fun c_79534 => ?_) (fun c_79534 => ?_)
            · refine gc_ck (gb_isub (lo := 0) (hi := 7) iv2 (gb_ic (a := 20) (by decide)) (by decide)) (by decide) ?_
              refine gc_lti (lo := (-2147483648)) (hi := 2147483647) (gb_it _) (fun x_39 ex_39 ix_39 => ?_)
              exact gc_some (hret _ _ hT (gb_it _))
            · exact (gb_em (gb_rU (lo := 20) (hi := 19) (gb_dnle c_79534) iv2 (gb_ic (a := 20) (by decide)) (by decide)) (by decide)).elim
    · have j_79535 : gb_iv 0 4 v4 := (gb_rU (lo := 0) (hi := 4) (gb_dnle c_79530) iv4 h_79529 (by decide))
      have j_79536 : gb_iv 1 5 r_22 := (gb_rL (lo := 1) (hi := 5) (gb_dnle c_79530) h_79529 j_79535 (by decide))
      refine gc_cdT (ct_Face_numberBelow hn hT) (fun s_44 r_45 hTs_44 h_79537 => ?_)
      refine gc_cdP (ct_Border_pad_B hn hTs_44 hv1 j_79535) (fun r_49 qr_49 h_79538 => ?_)
      refine gc_if (fun c_79539 => ?_) (fun c_79539 => ?_)
      · refine gc_lti (lo := 1) (hi := 5) (gb_iadd (lo := 1) (hi := 5) j_79535 (gb_ic (a := 1) (by decide)) (by decide)) (fun x_53 ex_53 ix_53 => ?_)
        exact ih _ _ _ _ _ hTs_44 hv1 iv2 (gb_it _) (gb_iw (lo := 0) (hi := 5) ix_53 (by decide)) (gb_mup ex_53 j_79535 (by decide) hm)
      · have j_79540 : gb_iv (-2147483648) 2147483646 r_45 := (gb_rU (lo := (-2147483648)) (hi := 2147483646) (gb_dnle c_79539) (gb_it _) (gb_it _) (by decide))
        have j_79541 : gb_iv (-2147483647) 2147483647 r_49 := (gb_rL (lo := (-2147483647)) (hi := 2147483647) (gb_dnle c_79539) (gb_it _) j_79540 (by decide))
        refine gc_lti (lo := (-2147483648)) (hi := 2147483647) (gb_it _) (fun x_54 ex_54 ix_54 => ?_)
        refine gc_lti (lo := 1) (hi := 5) (gb_iadd (lo := 1) (hi := 5) j_79535 (gb_ic (a := 1) (by decide)) (by decide)) (fun x_55 ex_55 ix_55 => ?_)
        exact ih _ _ _ _ _ hTs_44 hv1 iv2 (gb_it _) (gb_iw (lo := 0) (hi := 5) ix_55 (by decide)) (gb_mup ex_55 j_79535 (by decide) hm)
set_option maxHeartbeats 4000000 in
theorem ct_Face_drawnNight_B_10_i2 {n : Nat} (hn : gb_N ≤ n) {Q : gb_S → Int32 → Prop} (hret : ∀ (σ : gb_S) (r : Int32), gb_TC σ → gb_iv (-2147483648) 2147483647 r → Q σ r) : ∀ (mm : Nat) (σ : gb_S) (v1 : Nat) (v2 : Int32) (v3 : Int32), gb_TC σ → gb_kB v1 = true → gb_iv 20 27 v2 → gb_iv 0 8 v3 → (8 - v3.toInt).toNat < mm → gb_tc (cs_Face_drawnNight_B_10 n mm σ v1 v2 v3) Q := by
  intro mm
  induction mm with
  | zero =>
    intro σ v1 v2 v3 hT hv1 iv2 iv3 hm
    exact absurd hm (Nat.not_lt_zero _)
  | succ mm ih =>
    intro σ v1 v2 v3 hT hv1 iv2 iv3 hm
    rw [cs_Face_drawnNight_B_10]
    refine gc_kk hv1 ?_
    refine gc_cdP (ct_Border_geese_B hn hT hv1) (fun r_8 qr_8 h_79057 => ?_)
    refine gc_if (fun c_79058 => ?_) (fun c_79058 => ?_)
    · refine gc_cdT (ct_Face_numberBelow hn hT) (fun s_12 r_13 hTs_12 h_79059 => ?_)
      refine gc_cdT (ct_Play_rainDown hn hTs_12) (fun s_16 u_79060 hTs_16 _ => ?_)
      exact ct_Face_drawnNight_B_70_i2 hn hret n _ _ _ _ _ hTs_16 hv1 iv2 (gb_iw (lo := (-2147483648)) (hi := 2147483647) (gb_ic (a := 0) (by decide)) (by decide)) (gb_iw (lo := 0) (hi := 5) (gb_ic (a := 0) (by decide)) (by decide)) (gb_fuu hn (gb_iw (lo := 0) (hi := 5) (gb_ic (a := 0) (by decide)) (by decide)) (by decide))
    · have j_79542 : gb_iv 0 7 v3 := (gb_rU (lo := 0) (hi := 7) (gb_dnle c_79058) iv3 h_79057 (by decide))
      have j_79543 : gb_iv 1 8 r_8 := (gb_rL (lo := 1) (hi := 8) (gb_dnle c_79058) h_79057 j_79542 (by decide))
      refine gc_cdP (ct_Border_paths_B hn hT hv1) (fun r_57 qr_57 h_79544 => ?_)
      refine gc_cdT (ct_numberBelow05 hn hT h_79544) (fun s_60 r_61 hTs_60 h_79545 => ?_)
      refine gc_cdT (ct_Play_go_c116 hn hTs_60 j_79542 h_79545) (fun s_64 u_79546 hTs_64 _ => ?_)
      refine gc_lti (lo := 1) (hi := 8) (gb_iadd (lo := 1) (hi := 8) j_79542 (gb_ic (a := 1) (by decide)) (by decide)) (fun x_68 ex_68 ix_68 => ?_)
      exact ih _ _ _ _ hTs_64 hv1 iv2 (gb_iw (lo := 0) (hi := 8) ix_68 (by decide)) (gb_mup ex_68 j_79542 (by decide) hm)
set_option maxHeartbeats 4000000 in
theorem ct_drawnNight_c {n : Nat} (hn : gb_N ≤ n) {σ : gb_S} {p1 : Nat} {p2 : Int32} (hT : gb_TC σ) (hp1 : gb_kB p1 = true) (ip2 : gb_iv 20 27 p2) : gb_tc (cs_Face_drawnNight_B n σ p1 p2) (fun s r => gb_TC s ∧ gb_iv (-2147483648) 2147483647 r) := by
  unfold cs_Face_drawnNight_B
  refine gc_kk hp1 ?_
  refine gc_cdT (ct_Play_begin_B hn hT hp1) (fun s_2 u_71901 hTs_2 _ => ?_)
  exact ct_Face_drawnNight_B_10_i2 hn (fun _ _ hT h => ⟨hT, h⟩) n _ _ _ _ hTs_2 hp1 ip2 (gb_iw (lo := 0) (hi := 8) (gb_ic (a := 0) (by decide)) (by decide)) (gb_fuu hn (gb_iw (lo := 0) (hi := 8) (gb_ic (a := 0) (by decide)) (by decide)) (by decide))
set_option maxHeartbeats 4000000 in
theorem ct_Face_drawn_54 {n : Nat} (hn : gb_N ≤ n) {Q : gb_S → Int32 → Prop} (hret : ∀ (σ : gb_S) (r : Int32), gb_TC σ → gb_iv (-2147483648) 2147483647 r → Q σ r) : ∀ (mm : Nat) (σ : gb_S) (v3 : Int32) (v4 : Int32) (v5 : Nat) (v6 : Int32) (v7 : Int32), gb_TC σ → gb_kB v5 = true → gb_iv (-2147483648) 2147483647 v3 → gb_iv 0 2 v4 → gb_iv (-2147483648) 2147483647 v6 → gb_iv 0 2147483647 v7 → (2147483647 - v7.toInt).toNat < mm → gb_tc (cs_Face_drawn_54 n mm σ v3 v4 v5 v6 v7) Q := by
  intro mm
  induction mm with
  | zero =>
    intro σ v3 v4 v5 v6 v7 hT hv5 iv3 iv4 iv6 iv7 hm
    exact absurd hm (Nat.not_lt_zero _)
  | succ mm ih =>
    intro σ v3 v4 v5 v6 v7 hT hv5 iv3 iv4 iv6 iv7 hm
    rw [cs_Face_drawn_54]
    refine gc_kk hv5 ?_
    refine gc_if (fun c_79687 => ?_) (fun c_79687 => ?_)
    · exact gc_some (hret _ _ hT (gb_it _))
    · have j_79688 : gb_iv 0 2147483646 v7 := (gb_rU (lo := 0) (hi := 2147483646) (gb_dnle c_79687) iv7 (gb_it _) (by decide))
      have j_79689 : gb_iv 1 2147483647 v3 := (gb_rL (lo := 1) (hi := 2147483647) (gb_dnle c_79687) (gb_it _) j_79688 (by decide))
      refine gc_cdT (ct_drawnNight_a hn hT hv5 iv4) (fun s_22 r_23 hTs_22 h_79690 => ?_)
      refine gc_lti (lo := (-2147483648)) (hi := 2147483647) (gb_it _) (fun x_26 ex_26 ix_26 => ?_)
      refine gc_lti (lo := 1) (hi := 2147483647) (gb_iadd (lo := 1) (hi := 2147483647) j_79688 (gb_ic (a := 1) (by decide)) (by decide)) (fun x_27 ex_27 ix_27 => ?_)
      exact ih _ _ _ _ _ _ hTs_22 hv5 (gb_iw (lo := (-2147483648)) (hi := 2147483647) j_79689 (by decide)) iv4 (gb_it _) (gb_iw (lo := 0) (hi := 2147483647) ix_27 (by decide)) (gb_mup ex_27 j_79688 (by decide) hm)
set_option maxHeartbeats 4000000 in
theorem ct_drawnAll_a {n : Nat} (hn : gb_N ≤ n) {σ : gb_S} {v3 : Int32} {v4 : Int32} {v5 : Nat} (hT : gb_TC σ) (hv5 : gb_kB v5 = true) (iv4 : gb_iv 0 2 v4) : gb_tc (cs_Face_drawn_54 n n σ v3 v4 v5 0 0) (fun s r => gb_TC s ∧ gb_iv (-2147483648) 2147483647 r) := by
  exact ct_Face_drawn_54 hn (fun _ _ hT h => ⟨hT, h⟩) n _ _ _ _ _ _ hT hv5 (gb_it _) iv4 (gb_iw (lo := (-2147483648)) (hi := 2147483647) (gb_ic (a := 0) (by decide)) (by decide)) (gb_iw (lo := 0) (hi := 2147483647) (gb_ic (a := 0) (by decide)) (by decide)) (gb_fuu hn (gb_iw (lo := 0) (hi := 2147483647) (gb_ic (a := 0) (by decide)) (by decide)) (by decide))
set_option maxHeartbeats 4000000 in
theorem ct_Face_drawn_54_i1 {n : Nat} (hn : gb_N ≤ n) {Q : gb_S → Int32 → Prop} (hret : ∀ (σ : gb_S) (r : Int32), gb_TC σ → gb_iv (-2147483648) 2147483647 r → Q σ r) : ∀ (mm : Nat) (σ : gb_S) (v3 : Int32) (v4 : Int32) (v5 : Nat) (v6 : Int32) (v7 : Int32), gb_TC σ → gb_kB v5 = true → gb_iv (-2147483648) 2147483647 v3 → gb_iv 10 14 v4 → gb_iv (-2147483648) 2147483647 v6 → gb_iv 0 2147483647 v7 → (2147483647 - v7.toInt).toNat < mm → gb_tc (cs_Face_drawn_54 n mm σ v3 v4 v5 v6 v7) Q := by
  intro mm
  induction mm with
  | zero =>
    intro σ v3 v4 v5 v6 v7 hT hv5 iv3 iv4 iv6 iv7 hm
    exact absurd hm (Nat.not_lt_zero _)
  | succ mm ih =>
    intro σ v3 v4 v5 v6 v7 hT hv5 iv3 iv4 iv6 iv7 hm
    rw [cs_Face_drawn_54]
    refine gc_kk hv5 ?_
    refine gc_if (fun c_79831 => ?_) (fun c_79831 => ?_)
    · exact gc_some (hret _ _ hT (gb_it _))
    · have j_79832 : gb_iv 0 2147483646 v7 := (gb_rU (lo := 0) (hi := 2147483646) (gb_dnle c_79831) iv7 (gb_it _) (by decide))
      have j_79833 : gb_iv 1 2147483647 v3 := (gb_rL (lo := 1) (hi := 2147483647) (gb_dnle c_79831) (gb_it _) j_79832 (by decide))
      refine gc_cdT (ct_drawnNight_b hn hT hv5 iv4) (fun s_22 r_23 hTs_22 h_79834 => ?_)
      refine gc_lti (lo := (-2147483648)) (hi := 2147483647) (gb_it _) (fun x_26 ex_26 ix_26 => ?_)
      refine gc_lti (lo := 1) (hi := 2147483647) (gb_iadd (lo := 1) (hi := 2147483647) j_79832 (gb_ic (a := 1) (by decide)) (by decide)) (fun x_27 ex_27 ix_27 => ?_)
      exact ih _ _ _ _ _ _ hTs_22 hv5 (gb_iw (lo := (-2147483648)) (hi := 2147483647) j_79833 (by decide)) iv4 (gb_it _) (gb_iw (lo := 0) (hi := 2147483647) ix_27 (by decide)) (gb_mup ex_27 j_79832 (by decide) hm)
set_option maxHeartbeats 4000000 in
theorem ct_drawnAll_b {n : Nat} (hn : gb_N ≤ n) {σ : gb_S} {v3 : Int32} {v4 : Int32} {v5 : Nat} (hT : gb_TC σ) (hv5 : gb_kB v5 = true) (iv4 : gb_iv 10 14 v4) : gb_tc (cs_Face_drawn_54 n n σ v3 v4 v5 0 0) (fun s r => gb_TC s ∧ gb_iv (-2147483648) 2147483647 r) := by
  exact ct_Face_drawn_54_i1 hn (fun _ _ hT h => ⟨hT, h⟩) n _ _ _ _ _ _ hT hv5 (gb_it _) iv4 (gb_iw (lo := (-2147483648)) (hi := 2147483647) (gb_ic (a := 0) (by decide)) (by decide)) (gb_iw (lo := 0) (hi := 2147483647) (gb_ic (a := 0) (by decide)) (by decide)) (gb_fuu hn (gb_iw (lo := 0) (hi := 2147483647) (gb_ic (a := 0) (by decide)) (by decide)) (by decide))
set_option maxHeartbeats 4000000 in
theorem ct_Face_drawn_54_i2 {n : Nat} (hn : gb_N ≤ n) {Q : gb_S → Int32 → Prop} (hret : ∀ (σ : gb_S) (r : Int32), gb_TC σ → gb_iv (-2147483648) 2147483647 r → Q σ r) : ∀ (mm : Nat) (σ : gb_S) (v3 : Int32) (v4 : Int32) (v5 : Nat) (v6 : Int32) (v7 : Int32), gb_TC σ → gb_kB v5 = true → gb_iv (-2147483648) 2147483647 v3 → gb_iv 20 27 v4 → gb_iv (-2147483648) 2147483647 v6 → gb_iv 0 2147483647 v7 → (2147483647 - v7.toInt).toNat < mm → gb_tc (cs_Face_drawn_54 n mm σ v3 v4 v5 v6 v7) Q := by
  intro mm
  induction mm with
  | zero =>
    intro σ v3 v4 v5 v6 v7 hT hv5 iv3 iv4 iv6 iv7 hm
    exact absurd hm (Nat.not_lt_zero _)
  | succ mm ih =>
    intro σ v3 v4 v5 v6 v7 hT hv5 iv3 iv4 iv6 iv7 hm
    rw [cs_Face_drawn_54]
    refine gc_kk hv5 ?_
    refine gc_if (fun c_79975 => ?_) (fun c_79975 => ?_)
    · exact gc_some (hret _ _ hT (gb_it _))
    · have j_79976 : gb_iv 0 2147483646 v7 := (gb_rU (lo := 0) (hi := 2147483646) (gb_dnle c_79975) iv7 (gb_it _) (by decide))
      have j_79977 : gb_iv 1 2147483647 v3 := (gb_rL (lo := 1) (hi := 2147483647) (gb_dnle c_79975) (gb_it _) j_79976 (by decide))
      refine gc_cdT (ct_drawnNight_c hn hT hv5 iv4) (fun s_22 r_23 hTs_22 h_79978 => ?_)
      refine gc_lti (lo := (-2147483648)) (hi := 2147483647) (gb_it _) (fun x_26 ex_26 ix_26 => ?_)
      refine gc_lti (lo := 1) (hi := 2147483647) (gb_iadd (lo := 1) (hi := 2147483647) j_79976 (gb_ic (a := 1) (by decide)) (by decide)) (fun x_27 ex_27 ix_27 => ?_)
      exact ih _ _ _ _ _ _ hTs_22 hv5 (gb_iw (lo := (-2147483648)) (hi := 2147483647) j_79977 (by decide)) iv4 (gb_it _) (gb_iw (lo := 0) (hi := 2147483647) ix_27 (by decide)) (gb_mup ex_27 j_79976 (by decide) hm)
set_option maxHeartbeats 4000000 in
theorem ct_drawnAll_c {n : Nat} (hn : gb_N ≤ n) {σ : gb_S} {v3 : Int32} {v4 : Int32} {v5 : Nat} (hT : gb_TC σ) (hv5 : gb_kB v5 = true) (iv4 : gb_iv 20 27 v4) : gb_tc (cs_Face_drawn_54 n n σ v3 v4 v5 0 0) (fun s r => gb_TC s ∧ gb_iv (-2147483648) 2147483647 r) := by
  exact ct_Face_drawn_54_i2 hn (fun _ _ hT h => ⟨hT, h⟩) n _ _ _ _ _ _ hT hv5 (gb_it _) iv4 (gb_iw (lo := (-2147483648)) (hi := 2147483647) (gb_ic (a := 0) (by decide)) (by decide)) (gb_iw (lo := 0) (hi := 2147483647) (gb_ic (a := 0) (by decide)) (by decide)) (gb_fuu hn (gb_iw (lo := 0) (hi := 2147483647) (gb_ic (a := 0) (by decide)) (by decide)) (by decide))
set_option maxHeartbeats 4000000 in
theorem ct_isDrawnOf {n : Nat} (hn : gb_N ≤ n) {σ : gb_S} {p1 : Nat} {p2 : Int32} (hT : gb_TC σ) (h1 : gb_kB p1 = true) : gb_tc (cs_Face_isDrawnOf_B n σ p1 p2) (fun s r => s = σ ∧ (¬ r = 0 → gb_iv 0 2 p2 ∨ gb_iv 10 14 p2 ∨ gb_iv 20 27 p2)) := by
  have no : ∀ {P : Prop}, ¬ (0 : Int32) = 0 → P := fun h => absurd rfl h
  have z0 : (0 : Int32).toInt = 0 := by decide
  have z2 : (2 : Int32).toInt = 2 := by decide
  have g : gb_tc (gb_cd (cs_Border_hasGoose_B n σ p1 (p2 - 20)) (fun s_6 r_7 => (if r_7 = 0 then (some (s_6, 0) : gb_CR Int32) else some (s_6, 1)))) (fun s r => s = σ ∧ (¬ r = 0 → gb_iv 0 2 p2 ∨ gb_iv 10 14 p2 ∨ gb_iv 20 27 p2)) := by
    refine gc_cdP (ct_Border_hasGoose_B hn hT h1) (fun r _ hr => gc_if (fun _ => gc_some ⟨rfl, no⟩) (fun c => gc_some ⟨rfl, fun _ => Or.inr (Or.inr ?_)⟩))
    exact gb_vsub (lo := 20) (hi := 27) (v := 20) (hr.2 c) (by decide) (by decide)
  have t9 : gb_tc (cs_Face_isDrawnOf_B_9 n σ p1 p2) (fun s r => s = σ ∧ (¬ r = 0 → gb_iv 0 2 p2 ∨ gb_iv 10 14 p2 ∨ gb_iv 20 27 p2)) := by
    unfold cs_Face_isDrawnOf_B_9
    refine gc_kk h1 (gc_if (fun _ => gc_if (fun _ => gc_some ⟨rfl, no⟩) (fun _ => g)) (fun _ => gc_if (fun _ => gc_if (fun _ => gc_some ⟨rfl, no⟩) (fun _ => g)) (fun _ => ?_)))
    refine gc_cdP (ct_Border_hasPath_B hn hT h1) (fun r _ hr => gc_if (fun _ => gc_if (fun _ => gc_some ⟨rfl, no⟩) (fun _ => g)) (fun c => gc_some ⟨rfl, fun _ => Or.inr (Or.inl ?_)⟩))
    exact gb_vsub (lo := 10) (hi := 14) (v := 10) (hr.2 c) (by decide) (by decide)
  unfold cs_Face_isDrawnOf_B
  refine gc_kk h1 (gc_if (fun _ => t9) (fun c => gc_if (fun c2 => gc_some ⟨rfl, fun _ => Or.inl ?_⟩) (fun _ => t9)))
  have h3 := gb_dnlt c
  have h4 := gb_dle c2
  exact ⟨by omega, by omega⟩
theorem ct_Face_drawn {n : Nat} (hn : gb_N ≤ n) {σ : gb_S} {p1 p2 p3 p4 : Int32} (hT : gb_TC σ) : gb_tc (cs_Face_drawn n σ p1 p2 p3 p4) (fun s r => gb_TC s ∧ gb_iv (-2147483648) 2147483647 r) := by
  unfold cs_Face_drawn
  refine gc_cdP (ct_Face_borderAt hn hT) (fun r _ hr => gc_if (fun _ => gc_some ⟨hT, gb_it _⟩) (fun c => ?_))
  have h1 := Or.resolve_left hr c
  refine gc_kk h1 (gc_cdP (ct_Border_paths_B hn hT h1) (fun r2 _ h2 => gc_if (fun _ => gc_some ⟨hT, gb_it _⟩) (fun _ => gc_if (fun _ => gc_some ⟨hT, gb_it _⟩) (fun _ => gc_if (fun _ => gc_some ⟨hT, gb_it _⟩) (fun _ => ?_)))))
  refine gc_cdP (ct_isDrawnOf hn hT h1) (fun r3 _ h3 => gc_if (fun _ => gc_some ⟨hT, gb_it _⟩) (fun c3 => ?_))
  refine gc_ltT (gc_su0 hT rfl) (fun s2 e2 hT2 => ?_)
  rcases h3 c3 with q | q | q
  · exact ct_drawnAll_a hn hT2 h1 q
  · exact ct_drawnAll_b hn hT2 h1 q
  · exact ct_drawnAll_c hn hT2 h1 q
/-! images -/
theorem gb_fitB {x : Int32} (h : gb_iv (-128) 127 x) : fits .byte (.int x) = true := by
  obtain ⟨h1, h2⟩ := h
  have a1 : (-128 : Int32).toInt = -128 := by decide
  have a2 : (127 : Int32).toInt = 127 := by decide
  show (decide (-128 ≤ x) && decide (x ≤ 127)) = true
  rw [decide_eq_true (Int32.le_iff_toInt_le.mpr (by omega)), decide_eq_true (Int32.le_iff_toInt_le.mpr (by omega))]
  rfl
theorem gb_fitAll {F : Nat → Int32} (h : ∀ j, gb_iv (-128) 127 (F j)) : (List.range 600).all (fun i => fits .byte (.int (F i))) = true := by
  rw [List.all_eq_true]
  intro i _
  exact gb_fitB (h i)
def gc_ks (p : Int32) (r : Nat) : Prop := (p = 0 → gb_kB r = true) ∧ (p = 1 → gb_kN r = true) ∧ (p = 2 → gb_kL r = true) ∧ (p = 3 → gb_kD r = true)
set_option maxHeartbeats 4000000 in
theorem ct_sheetOf {n : Nat} {σ : gb_S} {k0 : Nat} {p1 p2 : Int32} (hk : gb_kT k0 = true) (i1 : gb_iv 0 3 p1) (i2 : gb_iv 0 1 p2) : gb_tc (cs_Told_sheetOf_T n σ k0 p1 p2) (fun s r => s = σ ∧ gc_ks p1 r) := by
  unfold cs_Told_sheetOf_T
  refine gc_kk hk ?_
  have hz := gc_01 i2
  refine gc_if (fun c => gc_ck i2 (by decide) (gc_lt (fun a ea => ?_))) (fun c0 => ?_)
  · have h : gb_kB a = true := by
      rw [ea]
      rcases gb_kT_or hk with e | e | e | e <;> (rw [e]; rcases hz with q | q <;> (rw [q]; rfl))
    exact gc_kk h (gc_some ⟨rfl, fun _ => h, fun q => absurd (c.symm.trans q) (by decide), fun q => absurd (c.symm.trans q) (by decide), fun q => absurd (c.symm.trans q) (by decide)⟩)
  refine gc_if (fun c => gc_ck i2 (by decide) (gc_lt (fun a ea => ?_))) (fun c1 => ?_)
  · have h : gb_kN a = true := by
      rw [ea]
      rcases gb_kT_or hk with e | e | e | e <;> (rw [e]; rcases hz with q | q <;> (rw [q]; rfl))
    exact gc_kk h (gc_some ⟨rfl, fun q => absurd (c.symm.trans q) (by decide), fun _ => h, fun q => absurd (c.symm.trans q) (by decide), fun q => absurd (c.symm.trans q) (by decide)⟩)
  refine gc_if (fun c => gc_ck i2 (by decide) (gc_lt (fun a ea => ?_))) (fun c2 => gc_ck i2 (by decide) (gc_lt (fun a ea => ?_)))
  · have h : gb_kL a = true := by
      rw [ea]
      rcases gb_kT_or hk with e | e | e | e <;> (rw [e]; rcases hz with q | q <;> (rw [q]; rfl))
    exact gc_kk h (gc_some ⟨rfl, fun q => absurd (c.symm.trans q) (by decide), fun q => absurd (c.symm.trans q) (by decide), fun _ => h, fun q => absurd (c.symm.trans q) (by decide)⟩)
  · have h : gb_kD a = true := by
      rw [ea]
      rcases gb_kT_or hk with e | e | e | e <;> (rw [e]; rcases hz with q | q <;> (rw [q]; rfl))
    exact gc_kk h (gc_some ⟨rfl, fun q => absurd q c0, fun q => absurd q c1, fun q => absurd q c2, fun _ => h⟩)
theorem ct_Sheet_copyFrom_B_B {n : Nat} {σ : gb_S} {k0 p1 : Nat} (hT : gb_TC σ) (h0 : gb_kB k0 = true) (h1 : gb_kB p1 = true) : gb_tc (cs_Sheet_copyFrom_B_B n σ k0 p1) (fun s _ => gb_TC s ∧ True) := by
  unfold cs_Sheet_copyFrom_B_B
  refine gc_kk h0 (gc_kk h1 (gc_lti (lo := 58) (hi := 58) ⟨by decide, by decide⟩ (fun x ex ix => gc_ac (gb_ic (a := 0) (by decide)) (gb_ic (a := 0) (by decide)) ix (by decide) ?_)))
  exact gc_ltT (gc_cpy hT (gc_catB h0) (gc_catB h1)) (fun s2 e2 hT2 => gc_some ⟨hT2, trivial⟩)
theorem ct_Sheet_copyFrom_NN {n : Nat} {σ : gb_S} {k0 p1 : Nat} (hT : gb_TC σ) (h0 : gb_kN k0 = true) (h1 : gb_kN p1 = true) : gb_tc (cs_Sheet_copyFrom_N_N n σ k0 p1) (fun s _ => gb_TC s ∧ True) := by
  unfold cs_Sheet_copyFrom_N_N
  refine gc_kk h0 (gc_kk h1 (gc_lti (lo := 97) (hi := 97) ⟨by decide, by decide⟩ (fun x ex ix => gc_ac (gb_ic (a := 0) (by decide)) (gb_ic (a := 0) (by decide)) ix (by decide) ?_)))
  exact gc_ltT (gc_cpy hT (gc_catN h0) (gc_catN h1)) (fun s2 e2 hT2 => gc_some ⟨hT2, trivial⟩)
theorem ct_Sheet_copyFrom_L_L {n : Nat} {σ : gb_S} {k0 p1 : Nat} (hT : gb_TC σ) (h0 : gb_kL k0 = true) (h1 : gb_kL p1 = true) : gb_tc (cs_Sheet_copyFrom_L_L n σ k0 p1) (fun s _ => gb_TC s ∧ True) := by
  unfold cs_Sheet_copyFrom_L_L
  refine gc_kk h0 (gc_kk h1 (gc_lti (lo := 25) (hi := 25) ⟨by decide, by decide⟩ (fun x ex ix => gc_ac (gb_ic (a := 0) (by decide)) (gb_ic (a := 0) (by decide)) ix (by decide) ?_)))
  exact gc_ltT (gc_cpy hT (gc_catL h0) (gc_catL h1)) (fun s2 e2 hT2 => gc_some ⟨hT2, trivial⟩)
theorem ct_Sheet_copyFrom_D_D {n : Nat} {σ : gb_S} {k0 p1 : Nat} (hT : gb_TC σ) (h0 : gb_kD k0 = true) (h1 : gb_kD p1 = true) : gb_tc (cs_Sheet_copyFrom_D_D n σ k0 p1) (fun s _ => gb_TC s ∧ True) := by
  unfold cs_Sheet_copyFrom_D_D
  refine gc_kk h0 (gc_kk h1 (gc_lti (lo := 16) (hi := 16) ⟨by decide, by decide⟩ (fun x ex ix => gc_ac (gb_ic (a := 0) (by decide)) (gb_ic (a := 0) (by decide)) ix (by decide) ?_)))
  exact gc_ltT (gc_cpy hT (gc_catD h0) (gc_catD h1)) (fun s2 e2 hT2 => gc_some ⟨hT2, trivial⟩)
theorem gc_4 {p : Int32} (i : gb_iv 0 3 p) : p = 0 ∨ p = 1 ∨ p = 2 ∨ p = 3 := by
  obtain ⟨h1, h2⟩ := i
  have c : p.toInt = 0 ∨ p.toInt = 1 ∨ p.toInt = 2 ∨ p.toInt = 3 := by omega
  rcases c with c | c | c | c
  · exact Or.inl (gb_ieq (c.trans (by decide)))
  · exact Or.inr (Or.inl (gb_ieq (c.trans (by decide))))
  · exact Or.inr (Or.inr (Or.inl (gb_ieq (c.trans (by decide)))))
  · exact Or.inr (Or.inr (Or.inr (gb_ieq (c.trans (by decide)))))
theorem gc_BN {k : Nat} (h : gb_kN k = true) : ¬ gb_kB k = true := by
  rcases gb_kN_or h with rfl | rfl | rfl | rfl | rfl | rfl | rfl | rfl | rfl | rfl <;> decide
theorem gc_BL {k : Nat} (h : gb_kL k = true) : ¬ gb_kB k = true ∧ ¬ gb_kN k = true := by
  rcases gb_kL_or h with rfl | rfl | rfl | rfl | rfl | rfl | rfl | rfl | rfl <;> exact ⟨by decide, by decide⟩
theorem gc_BD {k : Nat} (h : gb_kD k = true) : ¬ gb_kB k = true ∧ ¬ gb_kN k = true ∧ ¬ gb_kL k = true := by
  rcases gb_kD_or h with rfl | rfl | rfl | rfl | rfl | rfl | rfl | rfl | rfl <;> exact ⟨by decide, by decide, by decide⟩
set_option maxHeartbeats 4000000 in
theorem ct_Told_copyFrom_9 {n : Nat} (hn : gb_N ≤ n) {Q : gb_S → Unit → Prop} {k2 : gb_S → Nat → Nat → Int32 → gb_CR Unit} {M : Nat} {v0 v1 : Nat} (h0 : gb_kT v0 = true) (h1 : gb_kT v1 = true) (hk : ∀ (σ : gb_S) (v2 : Int32), gb_TC σ → gb_iv 0 4 v2 → (4 - v2.toInt).toNat < M → gb_tc (k2 σ v0 v1 v2) Q) : ∀ (mm : Nat) (σ : gb_S) (v2 v3 : Int32), gb_TC σ → gb_iv 0 3 v2 → gb_iv 0 2 v3 → (4 - v2.toInt).toNat < M + 1 → (2 - v3.toInt).toNat < mm → gb_tc (cs_Told_copyFrom_T_T_9 n k2 mm σ v0 v1 v2 v3) Q := by
  intro mm
  induction mm with
  | zero =>
    intro σ v2 v3 hT i2 i3 hM hm
    exact absurd hm (Nat.not_lt_zero _)
  | succ mm ih =>
    intro σ v2 v3 hT i2 i3 hM hm
    rw [cs_Told_copyFrom_T_T_9]
    refine gc_kk h0 (gc_kk h1 (gc_if (fun c => ?_) (fun c => ?_)))
    · have it : gb_iv 0 2 ((σ.1 (v1 + 21)) (Int32.toNatClampNeg v2)) := gc_rd (c := 5) hT (gc_catT h1).2.1 ⟨Int.le_refl _, Int.le_refl _⟩
      refine gc_ck i2 (by decide) (gc_lti it (fun x ex ix => gc_ck i2 (by decide) (gc_ltT (gc_su (c := 5) (lo := 0) (hi := 2) hT (gc_catT h0).2.1 ix ⟨Int.le_refl _, Int.le_refl _⟩) (fun s2 e2 hT2 => gc_lt (fun y ey => ?_)))))
      refine hk s2 y hT2 ?_ (gb_mup ey i2 (by decide) hM)
      rw [ey]
      exact gb_iw (gb_iadd (lo := 1) (hi := 4) i2 (gb_ic (a := 1) (by decide)) (by decide)) (by decide)
    · have i3' : gb_iv 0 1 v3 := gb_rU (s := 1) (gb_dnle c) i3 (gb_ic (a := 2) (by decide)) (by decide)
      have st : ∀ x : Int32, x = v3 + 1 → gb_iv 0 2 x := fun x e => by
        rw [e]
        exact gb_iw (gb_iadd (lo := 1) (hi := 2) i3' (gb_ic (a := 1) (by decide)) (by decide)) (by decide)
      have nx : ∀ s2, gb_TC s2 → gb_tc (gb_lt (v3 + 1) (fun x_41 => cs_Told_copyFrom_T_T_9 n k2 mm s2 v0 v1 v2 x_41)) Q := fun s2 hT2 => gc_lt (fun x ex => ih s2 v2 x hT2 i2 (st x ex) hM (gb_mup ex i3' (by decide) hm))
      refine gc_cdP (ct_sheetOf h0 i2 i3') (fun r _ hr => ?_)
      have hr0 : ¬ r = 0 := by
        rcases gc_4 i2 with e | e | e | e
        · exact gb_nzB (hr.1 e)
        · exact gb_nzN (hr.2.1 e)
        · exact gb_nzL (hr.2.2.1 e)
        · exact gb_nzD (hr.2.2.2 e)
      rw [if_neg hr0]
      refine gc_cdP (ct_sheetOf h1 i2 i3') (fun q _ hq => ?_)
      have hq0 : ¬ q = 0 := by
        rcases gc_4 i2 with e | e | e | e
        · exact gb_nzB (hq.1 e)
        · exact gb_nzN (hq.2.1 e)
        · exact gb_nzL (hq.2.2.1 e)
        · exact gb_nzD (hq.2.2.2 e)
      rw [if_neg hq0]
      rcases gc_4 i2 with e | e | e | e
      · have a := hr.1 e
        have b := hq.1 e
        rw [if_pos a]
        exact gc_kk b (gc_cdT (ct_Sheet_copyFrom_B_B hT a b) (fun s2 _ hT2 _ => nx s2 hT2))
      · have a := hr.2.1 e
        have b := hq.2.1 e
        rw [if_neg (gc_BN a), if_pos a]
        exact gc_kk b (gc_cdT (ct_Sheet_copyFrom_NN hT a b) (fun s2 _ hT2 _ => nx s2 hT2))
      · have a := hr.2.2.1 e
        have b := hq.2.2.1 e
        rw [if_neg (gc_BL a).1, if_neg (gc_BL a).2, if_pos a]
        exact gc_kk b (gc_cdT (ct_Sheet_copyFrom_L_L hT a b) (fun s2 _ hT2 _ => nx s2 hT2))
      · have a := hr.2.2.2 e
        have b := hq.2.2.2 e
        rw [if_neg (gc_BD a).1, if_neg (gc_BD a).2.1, if_neg (gc_BD a).2.2, if_pos a]
        exact gc_kk b (gc_cdT (ct_Sheet_copyFrom_D_D hT a b) (fun s2 _ hT2 _ => nx s2 hT2))
set_option maxHeartbeats 4000000 in
theorem ct_Told_copyFrom_2 {n : Nat} (hn : gb_N ≤ n) {v0 v1 : Nat} (h0 : gb_kT v0 = true) (h1 : gb_kT v1 = true) : ∀ (mm : Nat) (σ : gb_S) (v2 : Int32), gb_TC σ → gb_iv 0 4 v2 → (4 - v2.toInt).toNat < mm → gb_tc (cs_Told_copyFrom_T_T_2 n mm σ v0 v1 v2) (fun s _ => gb_TC s ∧ True) := by
  intro mm
  induction mm with
  | zero =>
    intro σ v2 hT i2 hm
    exact absurd hm (Nat.not_lt_zero _)
  | succ mm ih =>
    intro σ v2 hT i2 hm
    rw [cs_Told_copyFrom_T_T_2]
    refine gc_kk h0 (gc_kk h1 (gc_if (fun c => ?_) (fun c => ?_)))
    · have e7 := (gc_catT h0).1
      have e7' := (gc_catT h1).1
      refine gc_ac (gb_ic (a := 0) (by decide)) (gb_ic (a := 0) (by decide)) (gb_ic (a := 600) (by decide)) (by decide) (gc_kk (gb_fitAll (fun j => gc_rd (c := 6) hT (gc_catT h1).2.2 ⟨Int.le_refl _, Int.le_refl _⟩)) ?_)
      refine gc_ltT (gc_cpy hT (gc_catT h0).2.2 (gc_catT h1).2.2) (fun s2 e2 hT2 => ?_)
      refine gc_ltT (gc_su (c := 7) (lo := 0) (hi := 600) hT2 e7 (gc_rd (c := 7) hT2 e7' (by decide)) (by decide)) (fun s3 e3 hT3 => ?_)
      refine gc_ltT (gc_su (c := 7) (lo := -2147483648) (hi := 2147483647) hT3 e7 (gb_it _) (by decide)) (fun s4 e4 hT4 => ?_)
      exact gc_ltT (gc_su (c := 7) (lo := -2147483648) (hi := 2147483647) hT4 e7 (gb_it _) (by decide)) (fun s5 e5 hT5 => gc_some ⟨hT5, trivial⟩)
    · have i2' : gb_iv 0 3 v2 := gb_rU (s := 1) (gb_dnle c) i2 (gb_ic (a := 4) (by decide)) (by decide)
      have i0 : gb_iv 0 2 (0 : Int32) := gb_iw (gb_ic (a := 0) (by decide)) (by decide)
      exact ct_Told_copyFrom_9 hn h0 h1 (fun s v hs iv hv => ih s v hs iv hv) n σ v2 0 hT i2' i0 hm (gb_fuu hn i0 (by decide))
theorem ct_Told_copyFrom {n : Nat} (hn : gb_N ≤ n) {σ : gb_S} {v0 v1 : Nat} (hT : gb_TC σ) (h0 : gb_kT v0 = true) (h1 : gb_kT v1 = true) : gb_tc (cs_Told_copyFrom_T_T n σ v0 v1) (fun s _ => gb_TC s ∧ True) := by
  unfold cs_Told_copyFrom_T_T
  have i0 : gb_iv 0 4 (0 : Int32) := gb_iw (gb_ic (a := 0) (by decide)) (by decide)
  exact gc_kk h0 (gc_kk h1 (ct_Told_copyFrom_2 hn h0 h1 n σ 0 hT i0 (gb_fuu hn i0 (by decide))))
theorem gc_gT {p : Int32} (i : gb_iv 0 2 p) : gb_kT (([25, 48, 71] : List Nat).getD (Int32.toNatClampNeg p) 0) = true := by
  obtain ⟨h1, h2⟩ := i
  have c : p.toInt = 0 ∨ p.toInt = 1 ∨ p.toInt = 2 := by omega
  rcases c with c | c | c
  · rw [gb_tn (j := 0) c]
    rfl
  · rw [gb_tn (j := 1) c]
    rfl
  · rw [gb_tn (j := 2) c]
    rfl
theorem ct_Face_image {n : Nat} (hn : gb_N ≤ n) {σ : gb_S} {p1 : Int32} (hT : gb_TC σ) : gb_tc (cs_Face_image n σ p1) (fun s r => gb_TC s ∧ (gb_iv 0 2 p1 ∧ r = 1 ∨ ¬ gb_iv 0 2 p1 ∧ r = 0)) := by
  have z0 : (0 : Int32).toInt = 0 := by decide
  have z3 : (3 : Int32).toInt = 3 := by decide
  unfold cs_Face_image
  refine gc_if (fun c => gc_some ⟨hT, Or.inr ⟨fun h => ?_, rfl⟩⟩) (fun c => gc_if (fun c2 => ?_) (fun c2 => gc_some ⟨hT, Or.inr ⟨fun h => ?_, rfl⟩⟩))
  · have := gb_dlt c
    have := h.1
    omega
  · have i1 : gb_iv 0 2 p1 := by
      have := gb_dnlt c
      have := gb_dlt c2
      exact ⟨by omega, by omega⟩
    refine gc_ck i1 (by decide) (gc_lt (fun a ea => ?_))
    have ha : gb_kT a = true := by
      rw [ea]
      exact gc_gT i1
    refine gc_kk ha (gc_cdT (ct_Told_copyFrom hn hT ha rfl) (fun s2 _ hT2 _ => gc_ck i1 (by decide) (gc_ltT (gc_su0 hT2 rfl) (fun s3 e3 hT3 => gc_some ⟨hT3, Or.inl ⟨i1, rfl⟩⟩))))
  · have := gb_dnlt c2
    have := h.2
    omega
theorem ct_Face_again {n : Nat} (hn : gb_N ≤ n) {σ : gb_S} {p1 : Int32} (hT : gb_TC σ) : gb_tc (cs_Face_again n σ p1) (fun s _ => gb_TC s) := by
  have z0 : (0 : Int32).toInt = 0 := by decide
  have z3 : (3 : Int32).toInt = 3 := by decide
  unfold cs_Face_again
  refine gc_if (fun c => gc_some hT) (fun c => gc_if (fun c2 => gc_some hT) (fun c2 => ?_))
  have i1 : gb_iv 0 2 p1 := by
    have := gb_dnlt c
    have := gb_dnle c2
    exact ⟨by omega, by omega⟩
  refine gc_ck i1 (by decide) (gc_lt (fun x ex => gc_if (fun _ => gc_some hT) (fun _ => gc_ck i1 (by decide) (gc_lt (fun a ea => ?_)))))
  have ha : gb_kT a = true := by
    rw [ea]
    exact gc_gT i1
  exact gc_kk ha (gc_cdT (ct_Told_copyFrom hn hT rfl ha) (fun s2 _ hT2 _ => gc_some hT2))
