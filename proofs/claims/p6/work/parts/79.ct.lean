/-! THE CLASS: the rest (written by wip/tot) -/
set_option maxHeartbeats 4000000 in
theorem ct_Face_feed {n : Nat} (hn : gb_N ≤ n) {σ : gb_S} {p1 : Int32} {p2 : Int32} {p3 : Int32} {p4 : Int32} {p5 : Int32} (hT : gb_TC σ) : gb_tc (cs_Face_feed n σ p1 p2 p3 p4 p5) (fun s r => gb_TC s ∧ gb_iv (-1) 600 r) := by
  unfold cs_Face_feed
  refine gc_if (fun c_28704 => ?_) (fun c_28704 => ?_)
  · have j_28705 : gb_iv 0 580 (σ.1 1 6) := (gb_rU (lo := 0) (hi := 580) (gb_dle c_28704) (gc_rd (c := 7) (lo := 0) (hi := 600) hT (rfl : gc_cat 1 = 7) (by decide)) (gb_ic (a := 580) (by decide)) (by decide))
    refine gc_cdT (ct_Told_addBytes hn hT) (fun s_2 u_28706 hTs_2 _ => ?_)
    refine gc_cdT (ct_Told_addBytes hn hTs_2) (fun s_6 u_28707 hTs_6 _ => ?_)
    refine gc_cdT (ct_Told_addBytes hn hTs_6) (fun s_10 u_28708 hTs_10 _ => ?_)
    refine gc_cdT (ct_Told_addBytes hn hTs_10) (fun s_14 u_28709 hTs_14 _ => ?_)
    refine gc_cdT (ct_Told_addBytes hn hTs_14) (fun s_18 u_28710 hTs_18 _ => ?_)
    exact gc_some ⟨hTs_18, (gb_iw (lo := (-1)) (hi := 600) (gc_rd (c := 7) (lo := 0) (hi := 600) hTs_18 (rfl : gc_cat 1 = 7) (by decide)) (by decide))⟩
  · have j_28711 : gb_iv 581 600 (σ.1 1 6) := (gb_rL (lo := 581) (hi := 600) (gb_dnle c_28704) (gc_rd (c := 7) (lo := 0) (hi := 600) hT (rfl : gc_cat 1 = 7) (by decide)) (gb_ic (a := 580) (by decide)) (by decide))
    exact gc_some ⟨hT, (gb_iw (lo := (-1)) (hi := 600) (gb_ic (a := (-1)) (by decide)) (by decide))⟩
set_option maxHeartbeats 4000000 in
theorem ct_Face_split {n : Nat} (hn : gb_N ≤ n) {σ : gb_S} {p1 : Int32} {p2 : Int32} {p3 : Int32} {p4 : Int32} (hT : gb_TC σ) : gb_tc (cs_Face_split n σ p1 p2 p3 p4) (fun s r => gb_TC s ∧ gb_iv (-2147483648) 2147483647 r) := by
  unfold cs_Face_split
  refine gc_cdP (ct_Face_borderAt hn hT) (fun r_2 qr_2 h_28729 => ?_)
  refine gc_if (fun c_28730 => ?_) (fun c_28730 => ?_)
  · exact gc_some ⟨hT, (gb_iw (lo := (-2147483648)) (hi := 2147483647) (gb_ic (a := (-1)) (by decide)) (by decide))⟩
  · refine gc_kk (Or.resolve_left h_28729 c_28730) ?_
    refine gc_if (fun c_28731 => ?_) (fun c_28731 => ?_)
    · exact gc_some ⟨hT, (gb_iw (lo := (-2147483648)) (hi := 2147483647) (gb_ic (a := (-1)) (by decide)) (by decide))⟩
    · refine gc_cdP (ct_Border_hasPath_B hn hT (Or.resolve_left h_28729 c_28730)) (fun r_9 qr_9 h_28732 => ?_)
      refine gc_if (fun c_28733 => ?_) (fun c_28733 => ?_)
      · have j_28734 : gb_iv 0 0 r_9 := (gb_rU (lo := 0) (hi := 0) (gb_deq c_28733) h_28732.1 (gb_ic (a := 0) (by decide)) (by decide))
        exact gc_some ⟨hT, (gb_iw (lo := (-2147483648)) (hi := 2147483647) (gb_ic (a := (-1)) (by decide)) (by decide))⟩
      · have j_28735 : gb_iv 1 1 r_9 := (gb_rN (lo := 1) (hi := 1) (v := 0) c_28733 h_28732.1 (by decide) (by decide))
        have j_28736 : gb_iv 0 4 p2 := (h_28732.2 c_28733)
        refine gc_cdP (ct_Border_hasPath_B hn hT (Or.resolve_left h_28729 c_28730)) (fun r_14 qr_14 h_28737 => ?_)
        refine gc_if (fun c_28738 => ?_) (fun c_28738 => ?_)
        · have j_28739 : gb_iv 0 0 r_14 := (gb_rU (lo := 0) (hi := 0) (gb_deq c_28738) h_28737.1 (gb_ic (a := 0) (by decide)) (by decide))
          exact gc_some ⟨hT, (gb_iw (lo := (-2147483648)) (hi := 2147483647) (gb_ic (a := (-1)) (by decide)) (by decide))⟩
        · have j_28740 : gb_iv 1 1 r_14 := (gb_rN (lo := 1) (hi := 1) (v := 0) c_28738 h_28737.1 (by decide) (by decide))
          have j_28741 : gb_iv 0 4 p3 := (h_28737.2 c_28738)
          refine gc_cdT (ct_Flocks_evenest_B hn hT (Or.resolve_left h_28729 c_28730) j_28736 j_28741) (fun s_18 r_19 hTs_18 h_28742 => ?_)
          refine gc_if (fun c_28743 => ?_) (fun c_28743 => ?_)
          · have j_28744 : gb_iv (-2147483648) 0 p4 := (gb_rU (lo := (-2147483648)) (hi := 0) (gb_deq c_28743) (gb_it _) (gb_ic (a := 0) (by decide)) (by decide))
            have j_28745 : gb_iv 0 0 p4 := (gb_rL (lo := 0) (hi := 0) (gb_deq2 c_28743) j_28744 (gb_ic (a := 0) (by decide)) (by decide))
            exact gc_some ⟨hTs_18, (gb_it _)⟩
          · exact gc_some ⟨hTs_18, (gb_it _)⟩
set_option maxHeartbeats 4000000 in
theorem ct_Flocks_thriftiest_B_71 {n : Nat} (hn : gb_N ≤ n) {Q : gb_S → Int32 → Prop} {k28 : gb_S → Nat → Int32 → gb_CR Int32} {M28 : Nat} (hk28 : ∀ (σ : gb_S) (v1 : Nat) (v2 : Int32), gb_TC σ → gb_kB v1 = true → gb_iv 1 256 v2 → (256 - v2.toInt).toNat < M28 → gb_tc (k28 σ v1 v2) Q) (hret : ∀ (σ : gb_S) (r : Int32), gb_TC σ → gb_iv (-1) 255 r → Q σ r) : ∀ (σ : gb_S) (v1 : Nat) (v2 : Int32) (v3 : Int32) (t0 : Int64) (t1 : Int32) (t2 : Nat), gb_TC σ → gb_kB v1 = true → gb_kJ t2 = true → gb_iv 1 255 v2 → gb_iv 0 7 v3 → gb_iv 1 255 t1 → (256 - v2.toInt).toNat < M28 + 1 → gb_tc (cs_Flocks_thriftiest_B_71 n k28 σ v1 v2 v3 t0 t1 t2) Q := by
  intro σ v1 v2 v3 t0 t1 t2 hT hv1 ht2 iv2 iv3 it1 hm28
  unfold cs_Flocks_thriftiest_B_71
  refine gc_kk hv1 ?_
  refine gc_kk ht2 ?_
  refine gc_ck it1 (by decide) ?_
  refine gc_ltT (gc_sg hT) (fun s_32 es_32 hTs_32 => ?_)
  refine gc_kk (gc_q4 hTs_32) ?_
  refine gc_ck iv2 (by decide) ?_
  refine gc_lt (fun x_35 ex_35 => ?_)
  refine gc_if (fun c_30802 => ?_) (fun c_30802 => ?_)
  · have j_30803 : gb_iv (-2147483648) 0 (lg_cmp x_35 (1 : Int64)) := (gb_rU (lo := (-2147483648)) (hi := 0) (gb_deq c_30802) (gb_it _) (gb_ic (a := 0) (by decide)) (by decide))
    have j_30804 : gb_iv 0 0 (lg_cmp x_35 (1 : Int64)) := (gb_rL (lo := 0) (hi := 0) (gb_deq2 c_30802) j_30803 (gb_ic (a := 0) (by decide)) (by decide))
    refine gc_cdP (ct_Border_paths_B hn hTs_32 hv1) (fun r_39 qr_39 h_30805 => ?_)
    refine gc_if (fun c_30806 => ?_) (fun c_30806 => ?_)
    · have j_30807 : gb_iv 0 4 v3 := (gb_rU (lo := 0) (hi := 4) (gb_deq c_30806) iv3 (gb_isub (lo := (-1)) (hi := 4) h_30805 (gb_ic (a := 1) (by decide)) (by decide)) (by decide))
      have j_30808 : gb_iv 0 4 (r_39 - 1) := (gb_rL (lo := 0) (hi := 4) (gb_deq c_30806) (gb_isub (lo := (-1)) (hi := 4) h_30805 (gb_ic (a := 1) (by decide)) (by decide)) j_30807 (by decide))
      have j_30809 : gb_iv 1 5 r_39 := (gb_vsub (lo := 1) (hi := 5) (v := 1) j_30808 (by decide) (by decide))
      exact gc_some (hret _ _ hTs_32 (gb_iw (lo := (-1)) (hi := 255) iv2 (by decide)))
    · refine gc_lti (lo := 2) (hi := 256) (gb_iadd (lo := 2) (hi := 256) iv2 (gb_ic (a := 1) (by decide)) (by decide)) (fun x_43 ex_43 ix_43 => ?_)
      exact hk28 _ _ _ hTs_32 hv1 (gb_iw (lo := 1) (hi := 256) ix_43 (by decide)) (gb_mup ex_43 iv2 (by decide) hm28)
  · refine gc_lti (lo := 2) (hi := 256) (gb_iadd (lo := 2) (hi := 256) iv2 (gb_ic (a := 1) (by decide)) (by decide)) (fun x_37 ex_37 ix_37 => ?_)
    exact hk28 _ _ _ hTs_32 hv1 (gb_iw (lo := 1) (hi := 256) ix_37 (by decide)) (gb_mup ex_37 iv2 (by decide) hm28)
set_option maxHeartbeats 4000000 in
theorem ct_Flocks_thriftiest_B_70 {n : Nat} (hn : gb_N ≤ n) {Q : gb_S → Int32 → Prop} {k28 : gb_S → Nat → Int32 → gb_CR Int32} {M28 : Nat} (hk28 : ∀ (σ : gb_S) (v1 : Nat) (v2 : Int32), gb_TC σ → gb_kB v1 = true → gb_iv 1 256 v2 → (256 - v2.toInt).toNat < M28 → gb_tc (k28 σ v1 v2) Q) (hret : ∀ (σ : gb_S) (r : Int32), gb_TC σ → gb_iv (-1) 255 r → Q σ r) : ∀ (σ : gb_S) (v1 : Nat) (v2 : Int32) (v3 : Int32) (t0 : Int32) (t1 : Nat), gb_TC σ → gb_kB v1 = true → gb_kJ t1 = true → gb_iv 1 255 v2 → gb_iv 0 7 v3 → gb_iv 1 255 t0 → (256 - v2.toInt).toNat < M28 + 1 → gb_tc (cs_Flocks_thriftiest_B_70 n k28 σ v1 v2 v3 t0 t1) Q := by
  intro σ v1 v2 v3 t0 t1 hT hv1 ht1 iv2 iv3 it0 hm28
  unfold cs_Flocks_thriftiest_B_70
  refine gc_kk hv1 ?_
  refine gc_kk ht1 ?_
  exact ct_Flocks_thriftiest_B_71 hn hk28 hret _ _ _ _ _ _ _ hT hv1 ht1 iv2 iv3 it0 hm28
set_option maxHeartbeats 4000000 in
theorem ct_Flocks_thriftiest_B_71_i1 {n : Nat} (hn : gb_N ≤ n) {Q : gb_S → Int32 → Prop} {k28 : gb_S → Nat → Int32 → gb_CR Int32} {M28 : Nat} (hk28 : ∀ (σ : gb_S) (v1 : Nat) (v2 : Int32), gb_TC σ → gb_kB v1 = true → gb_iv 1 256 v2 → (256 - v2.toInt).toNat < M28 → gb_tc (k28 σ v1 v2) Q) (hret : ∀ (σ : gb_S) (r : Int32), gb_TC σ → gb_iv (-1) 255 r → Q σ r) : ∀ (σ : gb_S) (v1 : Nat) (v2 : Int32) (v3 : Int32) (t0 : Int64) (t1 : Int32) (t2 : Nat), gb_TC σ → gb_kB v1 = true → gb_kJ t2 = true → gb_iv 1 255 v2 → gb_iv 0 4 v3 → gb_iv 1 255 t1 → (256 - v2.toInt).toNat < M28 + 1 → gb_tc (cs_Flocks_thriftiest_B_71 n k28 σ v1 v2 v3 t0 t1 t2) Q := by
  intro σ v1 v2 v3 t0 t1 t2 hT hv1 ht2 iv2 iv3 it1 hm28
  unfold cs_Flocks_thriftiest_B_71
  refine gc_kk hv1 ?_
  refine gc_kk ht2 ?_
  refine gc_ck it1 (by decide) ?_
  refine gc_ltT (gc_sg hT) (fun s_32 es_32 hTs_32 => ?_)
  refine gc_kk (gc_q4 hTs_32) ?_
  refine gc_ck iv2 (by decide) ?_
  refine gc_lt (fun x_35 ex_35 => ?_)
  refine gc_if (fun c_30815 => ?_) (fun c_30815 => ?_)
  · have j_30816 : gb_iv (-2147483648) 0 (lg_cmp x_35 (1 : Int64)) := (gb_rU (lo := (-2147483648)) (hi := 0) (gb_deq c_30815) (gb_it _) (gb_ic (a := 0) (by decide)) (by decide))
    have j_30817 : gb_iv 0 0 (lg_cmp x_35 (1 : Int64)) := (gb_rL (lo := 0) (hi := 0) (gb_deq2 c_30815) j_30816 (gb_ic (a := 0) (by decide)) (by decide))
    refine gc_cdP (ct_Border_paths_B hn hTs_32 hv1) (fun r_39 qr_39 h_30818 => ?_)
    refine gc_if (fun c_30819 => ?_) (fun c_30819 => ?_)
    · have j_30820 : gb_iv 0 4 (r_39 - 1) := (gb_rL (lo := 0) (hi := 4) (gb_deq c_30819) (gb_isub (lo := (-1)) (hi := 4) h_30818 (gb_ic (a := 1) (by decide)) (by decide)) iv3 (by decide))
      have j_30821 : gb_iv 1 5 r_39 := (gb_vsub (lo := 1) (hi := 5) (v := 1) j_30820 (by decide) (by decide))
      exact gc_some (hret _ _ hTs_32 (gb_iw (lo := (-1)) (hi := 255) iv2 (by decide)))
    · refine gc_lti (lo := 2) (hi := 256) (gb_iadd (lo := 2) (hi := 256) iv2 (gb_ic (a := 1) (by decide)) (by decide)) (fun x_43 ex_43 ix_43 => ?_)
      exact hk28 _ _ _ hTs_32 hv1 (gb_iw (lo := 1) (hi := 256) ix_43 (by decide)) (gb_mup ex_43 iv2 (by decide) hm28)
  · refine gc_lti (lo := 2) (hi := 256) (gb_iadd (lo := 2) (hi := 256) iv2 (gb_ic (a := 1) (by decide)) (by decide)) (fun x_37 ex_37 ix_37 => ?_)
    exact hk28 _ _ _ hTs_32 hv1 (gb_iw (lo := 1) (hi := 256) ix_37 (by decide)) (gb_mup ex_37 iv2 (by decide) hm28)
set_option maxHeartbeats 4000000 in
theorem ct_Flocks_thriftiest_B_70_i1 {n : Nat} (hn : gb_N ≤ n) {Q : gb_S → Int32 → Prop} {k28 : gb_S → Nat → Int32 → gb_CR Int32} {M28 : Nat} (hk28 : ∀ (σ : gb_S) (v1 : Nat) (v2 : Int32), gb_TC σ → gb_kB v1 = true → gb_iv 1 256 v2 → (256 - v2.toInt).toNat < M28 → gb_tc (k28 σ v1 v2) Q) (hret : ∀ (σ : gb_S) (r : Int32), gb_TC σ → gb_iv (-1) 255 r → Q σ r) : ∀ (σ : gb_S) (v1 : Nat) (v2 : Int32) (v3 : Int32) (t0 : Int32) (t1 : Nat), gb_TC σ → gb_kB v1 = true → gb_kJ t1 = true → gb_iv 1 255 v2 → gb_iv 0 4 v3 → gb_iv 1 255 t0 → (256 - v2.toInt).toNat < M28 + 1 → gb_tc (cs_Flocks_thriftiest_B_70 n k28 σ v1 v2 v3 t0 t1) Q := by
  intro σ v1 v2 v3 t0 t1 hT hv1 ht1 iv2 iv3 it0 hm28
  unfold cs_Flocks_thriftiest_B_70
  refine gc_kk hv1 ?_
  refine gc_kk ht1 ?_
  exact ct_Flocks_thriftiest_B_71_i1 hn hk28 hret _ _ _ _ _ _ _ hT hv1 ht1 iv2 iv3 it0 hm28
set_option maxHeartbeats 4000000 in
theorem ct_Flocks_thriftiest_B_28 {n : Nat} (hn : gb_N ≤ n) {Q : gb_S → Int32 → Prop} (hret : ∀ (σ : gb_S) (r : Int32), gb_TC σ → gb_iv (-1) 255 r → Q σ r) : ∀ (mm : Nat) (σ : gb_S) (v1 : Nat) (v2 : Int32), gb_TC σ → gb_kB v1 = true → gb_iv 1 256 v2 → (256 - v2.toInt).toNat < mm → gb_tc (cs_Flocks_thriftiest_B_28 n mm σ v1 v2) Q := by
  intro mm
  induction mm with
  | zero =>
    intro σ v1 v2 hT hv1 iv2 hm
    exact absurd hm (Nat.not_lt_zero _)
  | succ mm ih =>
    intro σ v1 v2 hT hv1 iv2 hm
    rw [cs_Flocks_thriftiest_B_28]
    refine gc_kk hv1 ?_
    refine gc_if (fun c_30796 => ?_) (fun c_30796 => ?_)
    · exact gc_some (hret _ _ hT (gb_iw (lo := (-1)) (hi := 255) (gb_ic (a := (-1)) (by decide)) (by decide)))
    · have j_30797 : gb_iv 1 255 v2 := (gb_rU (lo := 1) (hi := 255) (gb_dnle c_30796) iv2 (gc_rd (c := 11) (lo := 0) (hi := 256) hT (rfl : gc_cat 130 = 11) (by decide)) (by decide))
      have j_30798 : gb_iv 2 256 (σ.1 130 4) := (gb_rL (lo := 2) (hi := 256) (gb_dnle c_30796) (gc_rd (c := 11) (lo := 0) (hi := 256) hT (rfl : gc_cat 130 = 11) (by decide)) j_30797 (by decide))
      refine gc_cdP (ct_bitCount1 hn hT j_30797) (fun r_17 qr_17 h_30799 => ?_)
      refine gc_lti (lo := 0) (hi := 7) (gb_isub (lo := 0) (hi := 7) h_30799 (gb_ic (a := 1) (by decide)) (by decide)) (fun x_20 ex_20 ix_20 => ?_)
      refine gc_kk (gc_q4 hT) ?_
      refine gc_cdP (ct_Border_paths_B hn hT hv1) (fun r_23 qr_23 h_30800 => ?_)
      refine gc_if (fun c_30801 => ?_) (fun c_30801 => ?_)
      · exact ct_Flocks_thriftiest_B_70 hn ih hret _ _ _ _ _ _ hT hv1 (gc_q4 hT) j_30797 ix_20 j_30797 hm
      · have j_30810 : gb_iv 0 4 x_20 := (gb_rU (lo := 0) (hi := 4) (gb_dnle c_30801) ix_20 h_30800 (by decide))
        have j_30811 : gb_iv 1 5 r_23 := (gb_rL (lo := 1) (hi := 5) (gb_dnle c_30801) h_30800 j_30810 (by decide))
        refine gc_cdP (ct_Flocks_paysAll_B hn hT hv1 (gb_iw (lo := 0) (hi := 255) j_30797 (by decide)) j_30810) (fun r_45 qr_45 h_30812 => ?_)
        refine gc_if (fun c_30813 => ?_) (fun c_30813 => ?_)
        · have j_30814 : gb_iv 0 0 r_45 := (gb_rU (lo := 0) (hi := 0) (gb_deq c_30813) h_30812 (gb_ic (a := 0) (by decide)) (by decide))
          exact ct_Flocks_thriftiest_B_70_i1 hn ih hret _ _ _ _ _ _ hT hv1 (gc_q4 hT) j_30797 j_30810 j_30797 hm
        · have j_30822 : gb_iv 1 1 r_45 := (gb_rN (lo := 1) (hi := 1) (v := 0) c_30813 h_30812 (by decide) (by decide))
          exact ct_Flocks_thriftiest_B_71_i1 hn ih hret _ _ _ _ _ _ _ hT hv1 (gc_q4 hT) j_30797 j_30810 j_30797 hm
set_option maxHeartbeats 4000000 in
theorem ct_Flocks_thriftiest_B {n : Nat} (hn : gb_N ≤ n) {σ : gb_S} {p1 : Nat} (hT : gb_TC σ) (hp1 : gb_kB p1 = true) : gb_tc (cs_Flocks_thriftiest_B n σ p1) (fun s r => gb_TC s ∧ gb_iv (-1) 255 r) := by
  unfold cs_Flocks_thriftiest_B
  refine gc_kk hp1 ?_
  refine gc_cdP (ct_Border_geese_B hn hT hp1) (fun r_3 qr_3 h_29771 => ?_)
  refine gc_ltT (gc_su (c := 11) (lo := 0) (hi := 256) hT (rfl : gc_cat 130 = 11) (gb_iw (lo := 0) (hi := 256) (gb_ishl (lo := 1) (hi := 256) h_29771 (by decide)) (by decide)) (by decide)) (fun s_6 es_6 hTs_6 => ?_)
  refine gc_kk (gc_q4 hTs_6) ?_
  refine gc_ltT (gc_sg hTs_6) (fun s_8 es_8 hTs_8 => ?_)
  refine gc_cdP (ct_Border_paths_B hn hTs_8 hp1) (fun r_10 qr_10 h_29772 => ?_)
  refine gc_if (fun c_29773 => ?_) (fun c_29773 => ?_)
  · have j_29774 : gb_iv 0 0 r_10 := (gb_rU (lo := 0) (hi := 0) (gb_deq c_29773) h_29772 (gb_ic (a := 0) (by decide)) (by decide))
    exact gc_some ⟨hTs_8, (gb_iw (lo := (-1)) (hi := 255) (gb_ic (a := 0) (by decide)) (by decide))⟩
  · have j_29775 : gb_iv 1 5 r_10 := (gb_rN (lo := 1) (hi := 5) (v := 0) c_29773 h_29772 (by decide) (by decide))
    exact ct_Flocks_thriftiest_B_28 hn (fun _ _ hT h => ⟨hT, h⟩) n _ _ _ hTs_8 hp1 (gb_iw (lo := 1) (hi := 256) (gb_ic (a := 1) (by decide)) (by decide)) (gb_fuu hn (gb_iw (lo := 1) (hi := 256) (gb_ic (a := 1) (by decide)) (by decide)) (by decide))
set_option maxHeartbeats 4000000 in
theorem ct_Face_thrift {n : Nat} (hn : gb_N ≤ n) {σ : gb_S} {p1 : Int32} (hT : gb_TC σ) : gb_tc (cs_Face_thrift n σ p1) (fun s r => gb_TC s ∧ gb_iv (-1) 255 r) := by
  unfold cs_Face_thrift
  refine gc_cdP (ct_Face_borderAt hn hT) (fun r_2 qr_2 h_30826 => ?_)
  refine gc_if (fun c_30827 => ?_) (fun c_30827 => ?_)
  · exact gc_some ⟨hT, (gb_iw (lo := (-1)) (hi := 255) (gb_ic (a := (-1)) (by decide)) (by decide))⟩
  · refine gc_kk (Or.resolve_left h_30826 c_30827) ?_
    refine gc_cdT (ct_Flocks_thriftiest_B hn hT (Or.resolve_left h_30826 c_30827)) (fun s_7 r_8 hTs_7 h_30828 => ?_)
    exact gc_some ⟨hTs_7, h_30828⟩
set_option maxHeartbeats 4000000 in
theorem ct_Sharing_solve_B_n_74 {n : Nat} (hn : gb_N ≤ n) {Q : gb_S → Unit → Prop} {k48 : gb_S → Int32 → Int32 → gb_CR Unit} {M48 : Nat} (hk48 : ∀ (σ : gb_S) (v4 : Int32) (v5 : Int32), gb_TC σ → gb_iv (-2147483648) 2147483647 v4 → gb_iv 0 2147483647 v5 → (2147483647 - v5.toInt).toNat < M48 → gb_tc (k48 σ v4 v5) Q) (hret : ∀ (σ : gb_S) (r : Unit), gb_TC σ → True → Q σ r) : ∀ (σ : gb_S) (v4 : Int32) (v5 : Int32) (t0 : Int32), gb_TC σ → gb_iv 1 2147483647 v4 → gb_iv 0 2147483646 v5 → gb_iv (-2147483648) 2147483647 t0 → (2147483647 - v5.toInt).toNat < M48 + 1 → gb_tc (cs_Sharing_solve_B_n_74 n k48 σ v4 v5 t0) Q := by
  intro σ v4 v5 t0 hT iv4 iv5 it0 hm48
  unfold cs_Sharing_solve_B_n_74
  refine gc_if (fun c_56886 => ?_) (fun c_56886 => ?_)
  · have j_56887 : gb_iv 0 0 v5 := (gb_rU (lo := 0) (hi := 0) (gb_deq c_56886) iv5 (gb_ic (a := 0) (by decide)) (by decide))
    refine gc_ltT (gc_su (c := 8) (lo := (-2147483648)) (hi := 2147483647) hT (rfl : gc_cat 120 = 8) (gb_it _) (by decide)) (fun s_20 es_20 hTs_20 => ?_)
    refine gc_cdT (ct_Sharing_keepRow hn hTs_20) (fun s_21 u_56888 hTs_21 _ => ?_)
    refine gc_cdT (ct_Sharing_advance hn hTs_21) (fun s_25 u_56889 hTs_25 _ => ?_)
    refine gc_lti (lo := 1) (hi := 1) (gb_iadd (lo := 1) (hi := 1) j_56887 (gb_ic (a := 1) (by decide)) (by decide)) (fun x_29 ex_29 ix_29 => ?_)
    exact hk48 _ _ _ hTs_25 (gb_iw (lo := (-2147483648)) (hi := 2147483647) iv4 (by decide)) (gb_iw (lo := 0) (hi := 2147483647) ix_29 (by decide)) (gb_mup ex_29 j_56887 (by decide) hm48)
  · have j_56890 : gb_iv 1 2147483646 v5 := (gb_rN (lo := 1) (hi := 2147483646) (v := 0) c_56886 iv5 (by decide) (by decide))
    refine gc_if (fun c_56891 => ?_) (fun c_56891 => ?_)
    · refine gc_cdT (ct_Sharing_advance hn hT) (fun s_31 u_56892 hTs_31 _ => ?_)
      refine gc_lti (lo := 2) (hi := 2147483647) (gb_iadd (lo := 2) (hi := 2147483647) j_56890 (gb_ic (a := 1) (by decide)) (by decide)) (fun x_35 ex_35 ix_35 => ?_)
      exact hk48 _ _ _ hTs_31 (gb_iw (lo := (-2147483648)) (hi := 2147483647) iv4 (by decide)) (gb_iw (lo := 0) (hi := 2147483647) ix_35 (by decide)) (gb_mup ex_35 j_56890 (by decide) hm48)
    · have j_56893 : gb_iv (-2147483648) 2147483646 (σ.1 120 10) := (gb_rU (lo := (-2147483648)) (hi := 2147483646) (gb_dnle c_56891) (gb_it _) (gb_it _) (by decide))
      have j_56894 : gb_iv (-2147483647) 2147483647 t0 := (gb_rL (lo := (-2147483647)) (hi := 2147483647) (gb_dnle c_56891) (gb_it _) j_56893 (by decide))
      refine gc_ltT (gc_su (c := 8) (lo := (-2147483648)) (hi := 2147483647) hT (rfl : gc_cat 120 = 8) (gb_iw (lo := (-2147483648)) (hi := 2147483647) j_56894 (by decide)) (by decide)) (fun s_36 es_36 hTs_36 => ?_)
      refine gc_cdT (ct_Sharing_keepRow hn hTs_36) (fun s_37 u_56895 hTs_37 _ => ?_)
      refine gc_cdT (ct_Sharing_advance hn hTs_37) (fun s_41 u_56896 hTs_41 _ => ?_)
      refine gc_lti (lo := 2) (hi := 2147483647) (gb_iadd (lo := 2) (hi := 2147483647) j_56890 (gb_ic (a := 1) (by decide)) (by decide)) (fun x_45 ex_45 ix_45 => ?_)
      exact hk48 _ _ _ hTs_41 (gb_iw (lo := (-2147483648)) (hi := 2147483647) iv4 (by decide)) (gb_iw (lo := 0) (hi := 2147483647) ix_45 (by decide)) (gb_mup ex_45 j_56890 (by decide) hm48)
set_option maxHeartbeats 4000000 in
theorem ct_Sharing_solve_B_n_48 {n : Nat} (hn : gb_N ≤ n) {Q : gb_S → Unit → Prop} (hret : ∀ (σ : gb_S) (r : Unit), gb_TC σ → True → Q σ r) : ∀ (mm : Nat) (σ : gb_S) (v4 : Int32) (v5 : Int32), gb_TC σ → gb_iv (-2147483648) 2147483647 v4 → gb_iv 0 2147483647 v5 → (2147483647 - v5.toInt).toNat < mm → gb_tc (cs_Sharing_solve_B_n_48 n mm σ v4 v5) Q := by
  intro mm
  induction mm with
  | zero =>
    intro σ v4 v5 hT iv4 iv5 hm
    exact absurd hm (Nat.not_lt_zero _)
  | succ mm ih =>
    intro σ v4 v5 hT iv4 iv5 hm
    rw [cs_Sharing_solve_B_n_48]
    refine gc_if (fun c_56881 => ?_) (fun c_56881 => ?_)
    · exact gc_some (hret _ _ hT trivial)
    · have j_56882 : gb_iv 0 2147483646 v5 := (gb_rU (lo := 0) (hi := 2147483646) (gb_dnle c_56881) iv5 (gb_it _) (by decide))
      have j_56883 : gb_iv 1 2147483647 v4 := (gb_rL (lo := 1) (hi := 2147483647) (gb_dnle c_56881) (gb_it _) j_56882 (by decide))
      refine gc_if (fun c_56884 => ?_) (fun c_56884 => ?_)
      · refine gc_cdP (ct_Sharing_spread hn hT) (fun r_16 qr_16 h_56885 => ?_)
        exact ct_Sharing_solve_B_n_74 hn ih hret _ _ _ _ hT j_56883 j_56882 (gb_it _) hm
      · refine gc_kk (gc_q3 hT c_56884) ?_
        refine gc_cdP (ct_Sharing_together hn hT) (fun r_48 qr_48 h_56897 => ?_)
        exact ct_Sharing_solve_B_n_74 hn ih hret _ _ _ _ hT j_56883 j_56882 (gb_it _) hm
set_option maxHeartbeats 4000000 in
theorem ct_Sharing_solve_B_n_18 {n : Nat} (hn : gb_N ≤ n) {Q : gb_S → Unit → Prop} (hret : ∀ (σ : gb_S) (r : Unit), gb_TC σ → True → Q σ r) : ∀ (mm : Nat) (σ : gb_S) (v4 : Int32) (v5 : Int32), gb_TC σ → gb_iv (-2147483648) 2147483647 v4 → gb_iv 0 8 v5 → (8 - v5.toInt).toNat < mm → gb_tc (cs_Sharing_solve_B_n_18 n mm σ v4 v5) Q := by
  intro mm
  induction mm with
  | zero =>
    intro σ v4 v5 hT iv4 iv5 hm
    exact absurd hm (Nat.not_lt_zero _)
  | succ mm ih =>
    intro σ v4 v5 hT iv4 iv5 hm
    rw [cs_Sharing_solve_B_n_18]
    refine gc_kk (gc_q2 hT) ?_
    refine gc_cdP (ct_Border_geese_B hn hT (gc_q2 hT)) (fun r_9 qr_9 h_55915 => ?_)
    refine gc_if (fun c_55916 => ?_) (fun c_55916 => ?_)
    · exact ct_Sharing_solve_B_n_48 hn hret n _ _ _ hT (gb_it _) (gb_iw (lo := 0) (hi := 2147483647) (gb_ic (a := 0) (by decide)) (by decide)) (gb_fuu hn (gb_iw (lo := 0) (hi := 2147483647) (gb_ic (a := 0) (by decide)) (by decide)) (by decide))
    · have j_56898 : gb_iv 0 7 v5 := (gb_rU (lo := 0) (hi := 7) (gb_dnle c_55916) iv5 h_55915 (by decide))
      have j_56899 : gb_iv 1 8 r_9 := (gb_rL (lo := 1) (hi := 8) (gb_dnle c_55916) h_55915 j_56898 (by decide))
      refine gc_lti (lo := (-2147483648)) (hi := 2147483647) (gb_it _) (fun x_51 ex_51 ix_51 => ?_)
      refine gc_lti (lo := 1) (hi := 8) (gb_iadd (lo := 1) (hi := 8) j_56898 (gb_ic (a := 1) (by decide)) (by decide)) (fun x_52 ex_52 ix_52 => ?_)
      exact ih _ _ _ hT (gb_it _) (gb_iw (lo := 0) (hi := 8) ix_52 (by decide)) (gb_mup ex_52 j_56898 (by decide) hm)
set_option maxHeartbeats 4000000 in
theorem ct_Sharing_solve_B_n {n : Nat} (hn : gb_N ≤ n) {σ : gb_S} {p1 : Nat} {p3 : Int32} (hT : gb_TC σ) (hp1 : gb_kB p1 = true) : gb_tc (cs_Sharing_solve_B_n n σ p1 p3) (fun s _ => gb_TC s ∧ True) := by
  unfold cs_Sharing_solve_B_n
  refine gc_kk hp1 ?_
  refine gc_cdT (ct_Sharing_begin_B_n hn hT hp1) (fun s_2 u_43372 hTs_2 _ => ?_)
  refine gc_ltT (gc_su (c := 8) (lo := (-2147483648)) (hi := 2147483647) hTs_2 (rfl : gc_cat 120 = 8) (gb_iw (lo := (-2147483648)) (hi := 2147483647) (gb_ic (a := 0) (by decide)) (by decide)) (by decide)) (fun s_6 es_6 hTs_6 => ?_)
  exact ct_Sharing_solve_B_n_18 hn (fun _ _ hT h => ⟨hT, h⟩) n _ _ _ hTs_6 (gb_iw (lo := (-2147483648)) (hi := 2147483647) (gb_ic (a := 1) (by decide)) (by decide)) (gb_iw (lo := 0) (hi := 8) (gb_ic (a := 0) (by decide)) (by decide)) (gb_fuu hn (gb_iw (lo := 0) (hi := 8) (gb_ic (a := 0) (by decide)) (by decide)) (by decide))
set_option maxHeartbeats 4000000 in
theorem ct_Sharing_solve_B_L_74 {n : Nat} (hn : gb_N ≤ n) {Q : gb_S → Unit → Prop} {k48 : gb_S → Int32 → Int32 → gb_CR Unit} {M48 : Nat} (hk48 : ∀ (σ : gb_S) (v4 : Int32) (v5 : Int32), gb_TC σ → gb_iv (-2147483648) 2147483647 v4 → gb_iv 0 2147483647 v5 → (2147483647 - v5.toInt).toNat < M48 → gb_tc (k48 σ v4 v5) Q) (hret : ∀ (σ : gb_S) (r : Unit), gb_TC σ → True → Q σ r) : ∀ (σ : gb_S) (v4 : Int32) (v5 : Int32) (t0 : Int32), gb_TC σ → gb_iv 1 2147483647 v4 → gb_iv 0 2147483646 v5 → gb_iv (-2147483648) 2147483647 t0 → (2147483647 - v5.toInt).toNat < M48 + 1 → gb_tc (cs_Sharing_solve_B_L_74 n k48 σ v4 v5 t0) Q := by
  intro σ v4 v5 t0 hT iv4 iv5 it0 hm48
  unfold cs_Sharing_solve_B_L_74
  refine gc_if (fun c_82957 => ?_) (fun c_82957 => ?_)
  · have j_82958 : gb_iv 0 0 v5 := (gb_rU (lo := 0) (hi := 0) (gb_deq c_82957) iv5 (gb_ic (a := 0) (by decide)) (by decide))
    refine gc_ltT (gc_su (c := 8) (lo := (-2147483648)) (hi := 2147483647) hT (rfl : gc_cat 120 = 8) (gb_it _) (by decide)) (fun s_21 es_21 hTs_21 => ?_)
    refine gc_cdT (ct_Sharing_keepRow hn hTs_21) (fun s_22 u_82959 hTs_22 _ => ?_)
    refine gc_cdT (ct_Sharing_advance hn hTs_22) (fun s_26 u_82960 hTs_26 _ => ?_)
    refine gc_lti (lo := 1) (hi := 1) (gb_iadd (lo := 1) (hi := 1) j_82958 (gb_ic (a := 1) (by decide)) (by decide)) (fun x_30 ex_30 ix_30 => ?_)
    exact hk48 _ _ _ hTs_26 (gb_iw (lo := (-2147483648)) (hi := 2147483647) iv4 (by decide)) (gb_iw (lo := 0) (hi := 2147483647) ix_30 (by decide)) (gb_mup ex_30 j_82958 (by decide) hm48)
  · have j_82961 : gb_iv 1 2147483646 v5 := (gb_rN (lo := 1) (hi := 2147483646) (v := 0) c_82957 iv5 (by decide) (by decide))
    refine gc_if (fun c_82962 => ?_) (fun c_82962 => ?_)
    · refine gc_cdT (ct_Sharing_advance hn hT) (fun s_32 u_82963 hTs_32 _ => ?_)
      refine gc_lti (lo := 2) (hi := 2147483647) (gb_iadd (lo := 2) (hi := 2147483647) j_82961 (gb_ic (a := 1) (by decide)) (by decide)) (fun x_36 ex_36 ix_36 => ?_)
      exact hk48 _ _ _ hTs_32 (gb_iw (lo := (-2147483648)) (hi := 2147483647) iv4 (by decide)) (gb_iw (lo := 0) (hi := 2147483647) ix_36 (by decide)) (gb_mup ex_36 j_82961 (by decide) hm48)
    · have j_82964 : gb_iv (-2147483648) 2147483646 (σ.1 120 10) := (gb_rU (lo := (-2147483648)) (hi := 2147483646) (gb_dnle c_82962) (gb_it _) (gb_it _) (by decide))
      have j_82965 : gb_iv (-2147483647) 2147483647 t0 := (gb_rL (lo := (-2147483647)) (hi := 2147483647) (gb_dnle c_82962) (gb_it _) j_82964 (by decide))
      refine gc_ltT (gc_su (c := 8) (lo := (-2147483648)) (hi := 2147483647) hT (rfl : gc_cat 120 = 8) (gb_iw (lo := (-2147483648)) (hi := 2147483647) j_82965 (by decide)) (by decide)) (fun s_37 es_37 hTs_37 => ?_)
      refine gc_cdT (ct_Sharing_keepRow hn hTs_37) (fun s_38 u_82966 hTs_38 _ => ?_)
      refine gc_cdT (ct_Sharing_advance hn hTs_38) (fun s_42 u_82967 hTs_42 _ => ?_)
      refine gc_lti (lo := 2) (hi := 2147483647) (gb_iadd (lo := 2) (hi := 2147483647) j_82961 (gb_ic (a := 1) (by decide)) (by decide)) (fun x_46 ex_46 ix_46 => ?_)
      exact hk48 _ _ _ hTs_42 (gb_iw (lo := (-2147483648)) (hi := 2147483647) iv4 (by decide)) (gb_iw (lo := 0) (hi := 2147483647) ix_46 (by decide)) (gb_mup ex_46 j_82961 (by decide) hm48)
set_option maxHeartbeats 4000000 in
theorem ct_Sharing_solve_B_L_48 {n : Nat} (hn : gb_N ≤ n) {Q : gb_S → Unit → Prop} (hret : ∀ (σ : gb_S) (r : Unit), gb_TC σ → True → Q σ r) : ∀ (mm : Nat) (σ : gb_S) (v4 : Int32) (v5 : Int32), gb_TC σ → gb_iv (-2147483648) 2147483647 v4 → gb_iv 0 2147483647 v5 → (2147483647 - v5.toInt).toNat < mm → gb_tc (cs_Sharing_solve_B_L_48 n mm σ v4 v5) Q := by
  intro mm
  induction mm with
  | zero =>
    intro σ v4 v5 hT iv4 iv5 hm
    exact absurd hm (Nat.not_lt_zero _)
  | succ mm ih =>
    intro σ v4 v5 hT iv4 iv5 hm
    rw [cs_Sharing_solve_B_L_48]
    refine gc_if (fun c_82952 => ?_) (fun c_82952 => ?_)
    · exact gc_some (hret _ _ hT trivial)
    · have j_82953 : gb_iv 0 2147483646 v5 := (gb_rU (lo := 0) (hi := 2147483646) (gb_dnle c_82952) iv5 (gb_it _) (by decide))
      have j_82954 : gb_iv 1 2147483647 v4 := (gb_rL (lo := 1) (hi := 2147483647) (gb_dnle c_82952) (gb_it _) j_82953 (by decide))
      refine gc_if (fun c_82955 => ?_) (fun c_82955 => ?_)
      · refine gc_cdP (ct_Sharing_spread hn hT) (fun r_17 qr_17 h_82956 => ?_)
        exact ct_Sharing_solve_B_L_74 hn ih hret _ _ _ _ hT j_82954 j_82953 (gb_it _) hm
      · refine gc_kk (gc_q3 hT c_82955) ?_
        refine gc_cdP (ct_Sharing_together hn hT) (fun r_49 qr_49 h_82968 => ?_)
        exact ct_Sharing_solve_B_L_74 hn ih hret _ _ _ _ hT j_82954 j_82953 (gb_it _) hm
set_option maxHeartbeats 4000000 in
theorem ct_Sharing_solve_B_L_18 {n : Nat} (hn : gb_N ≤ n) {Q : gb_S → Unit → Prop} (hret : ∀ (σ : gb_S) (r : Unit), gb_TC σ → True → Q σ r) : ∀ (mm : Nat) (σ : gb_S) (v4 : Int32) (v5 : Int32), gb_TC σ → gb_iv (-2147483648) 2147483647 v4 → gb_iv 0 8 v5 → (8 - v5.toInt).toNat < mm → gb_tc (cs_Sharing_solve_B_L_18 n mm σ v4 v5) Q := by
  intro mm
  induction mm with
  | zero =>
    intro σ v4 v5 hT iv4 iv5 hm
    exact absurd hm (Nat.not_lt_zero _)
  | succ mm ih =>
    intro σ v4 v5 hT iv4 iv5 hm
    rw [cs_Sharing_solve_B_L_18]
    refine gc_kk (gc_q2 hT) ?_
    refine gc_cdP (ct_Border_geese_B hn hT (gc_q2 hT)) (fun r_10 qr_10 h_81986 => ?_)
    refine gc_if (fun c_81987 => ?_) (fun c_81987 => ?_)
    · exact ct_Sharing_solve_B_L_48 hn hret n _ _ _ hT (gb_it _) (gb_iw (lo := 0) (hi := 2147483647) (gb_ic (a := 0) (by decide)) (by decide)) (gb_fuu hn (gb_iw (lo := 0) (hi := 2147483647) (gb_ic (a := 0) (by decide)) (by decide)) (by decide))
    · have j_82969 : gb_iv 0 7 v5 := (gb_rU (lo := 0) (hi := 7) (gb_dnle c_81987) iv5 h_81986 (by decide))
      have j_82970 : gb_iv 1 8 r_10 := (gb_rL (lo := 1) (hi := 8) (gb_dnle c_81987) h_81986 j_82969 (by decide))
      refine gc_lti (lo := (-2147483648)) (hi := 2147483647) (gb_it _) (fun x_52 ex_52 ix_52 => ?_)
      refine gc_lti (lo := 1) (hi := 8) (gb_iadd (lo := 1) (hi := 8) j_82969 (gb_ic (a := 1) (by decide)) (by decide)) (fun x_53 ex_53 ix_53 => ?_)
      exact ih _ _ _ hT (gb_it _) (gb_iw (lo := 0) (hi := 8) ix_53 (by decide)) (gb_mup ex_53 j_82969 (by decide) hm)
set_option maxHeartbeats 4000000 in
theorem ct_Sharing_solve_B_L {n : Nat} (hn : gb_N ≤ n) {σ : gb_S} {p1 : Nat} {p2 : Nat} {p3 : Int32} (hT : gb_TC σ) (hp1 : gb_kB p1 = true) (hp2 : gb_kL p2 = true) : gb_tc (cs_Sharing_solve_B_L n σ p1 p2 p3) (fun s _ => gb_TC s ∧ True) := by
  unfold cs_Sharing_solve_B_L
  refine gc_kk hp1 ?_
  refine gc_kk hp2 ?_
  refine gc_cdT (ct_Sharing_begin_B_L hn hT hp1 hp2) (fun s_3 u_69443 hTs_3 _ => ?_)
  refine gc_ltT (gc_su (c := 8) (lo := (-2147483648)) (hi := 2147483647) hTs_3 (rfl : gc_cat 120 = 8) (gb_iw (lo := (-2147483648)) (hi := 2147483647) (gb_ic (a := 0) (by decide)) (by decide)) (by decide)) (fun s_7 es_7 hTs_7 => ?_)
  exact ct_Sharing_solve_B_L_18 hn (fun _ _ hT h => ⟨hT, h⟩) n _ _ _ hTs_7 (gb_iw (lo := (-2147483648)) (hi := 2147483647) (gb_ic (a := 1) (by decide)) (by decide)) (gb_iw (lo := 0) (hi := 8) (gb_ic (a := 0) (by decide)) (by decide)) (gb_fuu hn (gb_iw (lo := 0) (hi := 8) (gb_ic (a := 0) (by decide)) (by decide)) (by decide))
set_option maxHeartbeats 4000000 in
theorem ct_Face_even_82 {n : Nat} (hn : gb_N ≤ n) {Q : gb_S → Int32 → Prop} (hret : ∀ (σ : gb_S) (r : Int32), gb_TC σ → gb_iv (-2147483648) 2147483647 r → Q σ r) : ∀ (σ : gb_S) (v2 : Int32) (v3 : Nat), gb_TC σ → gb_kB v3 = true → gb_iv 0 0 v2 → gb_tc (cs_Face_even_82 n σ v2 v3) Q := by
  intro σ v2 v3 hT hv3 iv2
  unfold cs_Face_even_82
  refine gc_kk hv3 ?_
  refine gc_cdT (ct_Sharing_solve_B_n hn hT hv3) (fun s_16 u_83015 hTs_16 _ => ?_)
  refine gc_if (fun c_83016 => ?_) (fun c_83016 => ?_)
  · refine gc_cdP (ct_Sharing_difference hn hTs_16) (fun r_24 qr_24 h_83017 => ?_)
    exact gc_some (hret _ _ hTs_16 (gb_it _))
  · exact (gb_em (gb_rN (lo := 1) (hi := (-1)) (v := 0) c_83016 iv2 (by decide) (by decide)) (by decide)).elim
set_option maxHeartbeats 4000000 in
theorem ct_Face_even_82_i1 {n : Nat} (hn : gb_N ≤ n) {Q : gb_S → Int32 → Prop} (hret : ∀ (σ : gb_S) (r : Int32), gb_TC σ → gb_iv (-2147483648) 2147483647 r → Q σ r) : ∀ (σ : gb_S) (v2 : Int32) (v3 : Nat), gb_TC σ → gb_kB v3 = true → gb_iv 10 17 v2 → gb_tc (cs_Face_even_82 n σ v2 v3) Q := by
  intro σ v2 v3 hT hv3 iv2
  unfold cs_Face_even_82
  refine gc_kk hv3 ?_
  refine gc_cdT (ct_Sharing_solve_B_n hn hT hv3) (fun s_16 u_83025 hTs_16 _ => ?_)
  refine gc_if (fun c_83026 => ?_) (fun c_83026 => ?_)
  · exact (gb_em (gb_rU (lo := 10) (hi := 0) (gb_deq c_83026) iv2 (gb_ic (a := 0) (by decide)) (by decide)) (by decide)).elim
  · refine gc_ck (gb_isub (lo := 0) (hi := 7) iv2 (gb_ic (a := 10) (by decide)) (by decide)) (by decide) ?_
    refine gc_lti (lo := (-2147483648)) (hi := 2147483647) (gb_it _) (fun x_22 ex_22 ix_22 => ?_)
    exact gc_some (hret _ _ hTs_16 (gb_it _))
set_option maxHeartbeats 4000000 in
theorem ct_Face_even_59 {n : Nat} (hn : gb_N ≤ n) {Q : gb_S → Int32 → Prop} (hret : ∀ (σ : gb_S) (r : Int32), gb_TC σ → gb_iv (-2147483648) 2147483647 r → Q σ r) : ∀ (σ : gb_S) (v2 : Int32) (v3 : Nat), gb_TC σ → gb_kB v3 = true → gb_iv (-2147483648) 19 v2 → gb_tc (cs_Face_even_59 n σ v2 v3) Q := by
  intro σ v2 v3 hT hv3 iv2
  unfold cs_Face_even_59
  refine gc_kk hv3 ?_
  refine gc_if (fun c_83012 => ?_) (fun c_83012 => ?_)
  · have j_83013 : gb_iv (-2147483648) 0 v2 := (gb_rU (lo := (-2147483648)) (hi := 0) (gb_deq c_83012) iv2 (gb_ic (a := 0) (by decide)) (by decide))
    have j_83014 : gb_iv 0 0 v2 := (gb_rL (lo := 0) (hi := 0) (gb_deq2 c_83012) j_83013 (gb_ic (a := 0) (by decide)) (by decide))
    exact ct_Face_even_82 hn hret _ _ _ hT hv3 j_83014
  · refine gc_if (fun c_83018 => ?_) (fun c_83018 => ?_)
    · have j_83019 : gb_iv (-2147483648) 9 v2 := (gb_rU (lo := (-2147483648)) (hi := 9) (gb_dlt c_83018) iv2 (gb_ic (a := 10) (by decide)) (by decide))
      exact gc_some (hret _ _ hT (gb_iw (lo := (-2147483648)) (hi := 2147483647) (gb_ic (a := (-1)) (by decide)) (by decide)))
    · have j_83020 : gb_iv 10 19 v2 := (gb_rL (lo := 10) (hi := 19) (gb_dnlt c_83018) iv2 (gb_ic (a := 10) (by decide)) (by decide))
      refine gc_cdP (ct_Border_geese_B hn hT hv3) (fun r_29 qr_29 h_83021 => ?_)
      refine gc_if (fun c_83022 => ?_) (fun c_83022 => ?_)
      · have j_83023 : gb_iv 10 17 v2 := (gb_rU (lo := 10) (hi := 17) (gb_dlt c_83022) j_83020 (gb_iadd (lo := 10) (hi := 18) (gb_ic (a := 10) (by decide)) h_83021 (by decide)) (by decide))
        have j_83024 : gb_iv 11 18 (10 + r_29) := (gb_rL (lo := 11) (hi := 18) (gb_dlt c_83022) (gb_iadd (lo := 10) (hi := 18) (gb_ic (a := 10) (by decide)) h_83021 (by decide)) j_83023 (by decide))
        exact ct_Face_even_82_i1 hn hret _ _ _ hT hv3 j_83023
      · exact gc_some (hret _ _ hT (gb_iw (lo := (-2147483648)) (hi := 2147483647) (gb_ic (a := (-1)) (by decide)) (by decide)))
set_option maxHeartbeats 4000000 in
theorem ct_Face_even_59_i1 {n : Nat} (hn : gb_N ≤ n) {Q : gb_S → Int32 → Prop} (hret : ∀ (σ : gb_S) (r : Int32), gb_TC σ → gb_iv (-2147483648) 2147483647 r → Q σ r) : ∀ (σ : gb_S) (v2 : Int32) (v3 : Nat), gb_TC σ → gb_kB v3 = true → gb_iv 20 2147483647 v2 → gb_tc (cs_Face_even_59 n σ v2 v3) Q := by
  intro σ v2 v3 hT hv3 iv2
  unfold cs_Face_even_59
  refine gc_kk hv3 ?_
  refine gc_if (fun c_83030 => ?_) (fun c_83030 => ?_)
  · exact (gb_em (gb_rU (lo := 20) (hi := 0) (gb_deq c_83030) iv2 (gb_ic (a := 0) (by decide)) (by decide)) (by decide)).elim
  · refine gc_if (fun c_83031 => ?_) (fun c_83031 => ?_)
    · exact (gb_em (gb_rU (lo := 20) (hi := 9) (gb_dlt c_83031) iv2 (gb_ic (a := 10) (by decide)) (by decide)) (by decide)).elim
    · refine gc_cdP (ct_Border_geese_B hn hT hv3) (fun r_29 qr_29 h_83032 => ?_)
      refine gc_if (fun c_83033 => ?_) (fun c_83033 => ?_)
      · exact (gb_em (gb_rU (lo := 20) (hi := 17) (gb_dlt c_83033) iv2 (gb_iadd (lo := 10) (hi := 18) (gb_ic (a := 10) (by decide)) h_83032 (by decide)) (by decide)) (by decide)).elim
      · exact gc_some (hret _ _ hT (gb_iw (lo := (-2147483648)) (hi := 2147483647) (gb_ic (a := (-1)) (by decide)) (by decide)))
set_option maxHeartbeats 4000000 in
theorem ct_Face_even {n : Nat} (hn : gb_N ≤ n) {σ : gb_S} {p1 : Int32} {p2 : Int32} (hT : gb_TC σ) : gb_tc (cs_Face_even n σ p1 p2) (fun s r => gb_TC s ∧ gb_iv (-2147483648) 2147483647 r) := by
  unfold cs_Face_even
  refine gc_cdP (ct_Face_borderAt hn hT) (fun r_2 qr_2 h_83004 => ?_)
  refine gc_if (fun c_83005 => ?_) (fun c_83005 => ?_)
  · exact gc_some ⟨hT, (gb_iw (lo := (-2147483648)) (hi := 2147483647) (gb_ic (a := (-1)) (by decide)) (by decide))⟩
  · refine gc_kk (Or.resolve_left h_83004 c_83005) ?_
    refine gc_cdP (ct_Sharing_canShare_B hn hT (Or.resolve_left h_83004 c_83005)) (fun r_8 qr_8 h_83006 => ?_)
    refine gc_if (fun c_83007 => ?_) (fun c_83007 => ?_)
    · have j_83008 : gb_iv 0 0 r_8 := (gb_rU (lo := 0) (hi := 0) (gb_deq c_83007) h_83006 (gb_ic (a := 0) (by decide)) (by decide))
      exact gc_some ⟨hT, (gb_iw (lo := (-2147483648)) (hi := 2147483647) (gb_ic (a := (-1)) (by decide)) (by decide))⟩
    · have j_83009 : gb_iv 1 1 r_8 := (gb_rN (lo := 1) (hi := 1) (v := 0) c_83007 h_83006 (by decide) (by decide))
      refine gc_if (fun c_83010 => ?_) (fun c_83010 => ?_)
      · have j_83011 : gb_iv (-2147483648) 19 p2 := (gb_rU (lo := (-2147483648)) (hi := 19) (gb_dlt c_83010) (gb_it _) (gb_ic (a := 20) (by decide)) (by decide))
        exact ct_Face_even_59 hn (fun _ _ hT h => ⟨hT, h⟩) _ _ _ hT (Or.resolve_left h_83004 c_83005) j_83011
      · have j_83027 : gb_iv 20 2147483647 p2 := (gb_rL (lo := 20) (hi := 2147483647) (gb_dnlt c_83010) (gb_it _) (gb_ic (a := 20) (by decide)) (by decide))
        refine gc_cdP (ct_Border_paths_B hn hT (Or.resolve_left h_83004 c_83005)) (fun r_34 qr_34 h_83028 => ?_)
        refine gc_if (fun c_83029 => ?_) (fun c_83029 => ?_)
        · exact ct_Face_even_59_i1 hn (fun _ _ hT h => ⟨hT, h⟩) _ _ _ hT (Or.resolve_left h_83004 c_83005) j_83027
        · have j_83034 : gb_iv 20 24 p2 := (gb_rU (lo := 20) (hi := 24) (gb_dnle c_83029) j_83027 (gb_iadd (lo := 20) (hi := 25) (gb_ic (a := 20) (by decide)) h_83028 (by decide)) (by decide))
          have j_83035 : gb_iv 21 25 (20 + r_34) := (gb_rL (lo := 21) (hi := 25) (gb_dnle c_83029) (gb_iadd (lo := 20) (hi := 25) (gb_ic (a := 20) (by decide)) h_83028 (by decide)) j_83034 (by decide))
          refine gc_cdT (ct_Sharing_solve_B_n hn hT (Or.resolve_left h_83004 c_83005)) (fun s_38 u_83036 hTs_38 _ => ?_)
          refine gc_ck (gb_isub (lo := 0) (hi := 4) j_83034 (gb_ic (a := 20) (by decide)) (by decide)) (by decide) ?_
          refine gc_lti (lo := (-2147483648)) (hi := 2147483647) (gb_it _) (fun x_43 ex_43 ix_43 => ?_)
          exact gc_some ⟨hTs_38, (gb_it _)⟩
set_option maxHeartbeats 4000000 in
theorem ct_Face_richest_58 {n : Nat} (hn : gb_N ≤ n) {Q : gb_S → Int32 → Prop} (hret : ∀ (σ : gb_S) (r : Int32), gb_TC σ → gb_iv (-2147483648) 2147483647 r → Q σ r) : ∀ (σ : gb_S) (v3 : Int32) (v4 : Nat) (v5 : Nat), gb_TC σ → gb_kB v4 = true → gb_kL v5 = true → gb_iv 0 0 v3 → gb_tc (cs_Face_richest_58 n σ v3 v4 v5) Q := by
  intro σ v3 v4 v5 hT hv4 hv5 iv3
  unfold cs_Face_richest_58
  refine gc_kk hv4 ?_
  refine gc_kk hv5 ?_
  refine gc_cdT (ct_Sharing_solve_B_L hn hT hv4 hv5) (fun s_27 u_83074 hTs_27 _ => ?_)
  refine gc_if (fun c_83075 => ?_) (fun c_83075 => ?_)
  · exact gc_some (hret _ _ hTs_27 (gb_it _))
  · exact (gb_em (gb_rN (lo := 1) (hi := (-1)) (v := 0) c_83075 iv3 (by decide) (by decide)) (by decide)).elim
set_option maxHeartbeats 4000000 in
theorem ct_Face_richest_58_i1 {n : Nat} (hn : gb_N ≤ n) {Q : gb_S → Int32 → Prop} (hret : ∀ (σ : gb_S) (r : Int32), gb_TC σ → gb_iv (-2147483648) 2147483647 r → Q σ r) : ∀ (σ : gb_S) (v3 : Int32) (v4 : Nat) (v5 : Nat), gb_TC σ → gb_kB v4 = true → gb_kL v5 = true → gb_iv 10 17 v3 → gb_tc (cs_Face_richest_58 n σ v3 v4 v5) Q := by
  intro σ v3 v4 v5 hT hv4 hv5 iv3
  unfold cs_Face_richest_58
  refine gc_kk hv4 ?_
  refine gc_kk hv5 ?_
  refine gc_cdT (ct_Sharing_solve_B_L hn hT hv4 hv5) (fun s_27 u_83083 hTs_27 _ => ?_)
  refine gc_if (fun c_83084 => ?_) (fun c_83084 => ?_)
  · exact (gb_em (gb_rU (lo := 10) (hi := 0) (gb_deq c_83084) iv3 (gb_ic (a := 0) (by decide)) (by decide)) (by decide)).elim
  · refine gc_ck (gb_isub (lo := 0) (hi := 7) iv3 (gb_ic (a := 10) (by decide)) (by decide)) (by decide) ?_
    refine gc_lti (lo := (-2147483648)) (hi := 2147483647) (gb_it _) (fun x_33 ex_33 ix_33 => ?_)
    exact gc_some (hret _ _ hTs_27 (gb_it _))
set_option maxHeartbeats 4000000 in
theorem ct_Face_richest {n : Nat} (hn : gb_N ≤ n) {σ : gb_S} {p1 : Int32} {p2 : Int32} {p3 : Int32} (hT : gb_TC σ) : gb_tc (cs_Face_richest n σ p1 p2 p3) (fun s r => gb_TC s ∧ gb_iv (-2147483648) 2147483647 r) := by
  unfold cs_Face_richest
  refine gc_cdP (ct_Face_borderAt hn hT) (fun r_2 qr_2 h_83061 => ?_)
  refine gc_if (fun c_83062 => ?_) (fun c_83062 => ?_)
  · refine gc_cdP (ct_Face_lawAt hn hT) (fun r_7 qr_7 h_83063 => ?_)
    refine gc_if (fun c_83064 => ?_) (fun c_83064 => ?_)
    · exact gc_some ⟨hT, (gb_iw (lo := (-2147483648)) (hi := 2147483647) (gb_ic (a := (-1)) (by decide)) (by decide))⟩
    · refine gc_kk (Or.resolve_left h_83063 c_83064) ?_
      exact gc_some ⟨hT, (gb_iw (lo := (-2147483648)) (hi := 2147483647) (gb_ic (a := (-1)) (by decide)) (by decide))⟩
  · refine gc_kk (Or.resolve_left h_83061 c_83062) ?_
    refine gc_cdP (ct_Face_lawAt hn hT) (fun r_14 qr_14 h_83065 => ?_)
    refine gc_if (fun c_83066 => ?_) (fun c_83066 => ?_)
    · exact gc_some ⟨hT, (gb_iw (lo := (-2147483648)) (hi := 2147483647) (gb_ic (a := (-1)) (by decide)) (by decide))⟩
    · refine gc_kk (Or.resolve_left h_83065 c_83066) ?_
      refine gc_cdP (ct_Sharing_canShare_B hn hT (Or.resolve_left h_83061 c_83062)) (fun r_20 qr_20 h_83067 => ?_)
      refine gc_if (fun c_83068 => ?_) (fun c_83068 => ?_)
      · have j_83069 : gb_iv 0 0 r_20 := (gb_rU (lo := 0) (hi := 0) (gb_deq c_83068) h_83067 (gb_ic (a := 0) (by decide)) (by decide))
        exact gc_some ⟨hT, (gb_iw (lo := (-2147483648)) (hi := 2147483647) (gb_ic (a := (-1)) (by decide)) (by decide))⟩
      · have j_83070 : gb_iv 1 1 r_20 := (gb_rN (lo := 1) (hi := 1) (v := 0) c_83068 h_83067 (by decide) (by decide))
        refine gc_if (fun c_83071 => ?_) (fun c_83071 => ?_)
        · have j_83072 : gb_iv (-2147483648) 0 p3 := (gb_rU (lo := (-2147483648)) (hi := 0) (gb_deq c_83071) (gb_it _) (gb_ic (a := 0) (by decide)) (by decide))
          have j_83073 : gb_iv 0 0 p3 := (gb_rL (lo := 0) (hi := 0) (gb_deq2 c_83071) j_83072 (gb_ic (a := 0) (by decide)) (by decide))
          exact ct_Face_richest_58 hn (fun _ _ hT h => ⟨hT, h⟩) _ _ _ _ hT (Or.resolve_left h_83061 c_83062) (Or.resolve_left h_83065 c_83066) j_83073
        · refine gc_if (fun c_83076 => ?_) (fun c_83076 => ?_)
          · have j_83077 : gb_iv (-2147483648) 9 p3 := (gb_rU (lo := (-2147483648)) (hi := 9) (gb_dlt c_83076) (gb_it _) (gb_ic (a := 10) (by decide)) (by decide))
            exact gc_some ⟨hT, (gb_iw (lo := (-2147483648)) (hi := 2147483647) (gb_ic (a := (-1)) (by decide)) (by decide))⟩
          · have j_83078 : gb_iv 10 2147483647 p3 := (gb_rL (lo := 10) (hi := 2147483647) (gb_dnlt c_83076) (gb_it _) (gb_ic (a := 10) (by decide)) (by decide))
            refine gc_cdP (ct_Border_geese_B hn hT (Or.resolve_left h_83061 c_83062)) (fun r_36 qr_36 h_83079 => ?_)
            refine gc_if (fun c_83080 => ?_) (fun c_83080 => ?_)
            · have j_83081 : gb_iv 10 17 p3 := (gb_rU (lo := 10) (hi := 17) (gb_dlt c_83080) j_83078 (gb_iadd (lo := 10) (hi := 18) (gb_ic (a := 10) (by decide)) h_83079 (by decide)) (by decide))
              have j_83082 : gb_iv 11 18 (10 + r_36) := (gb_rL (lo := 11) (hi := 18) (gb_dlt c_83080) (gb_iadd (lo := 10) (hi := 18) (gb_ic (a := 10) (by decide)) h_83079 (by decide)) j_83081 (by decide))
              exact ct_Face_richest_58_i1 hn (fun _ _ hT h => ⟨hT, h⟩) _ _ _ _ hT (Or.resolve_left h_83061 c_83062) (Or.resolve_left h_83065 c_83066) j_83081
            · exact gc_some ⟨hT, (gb_iw (lo := (-2147483648)) (hi := 2147483647) (gb_ic (a := (-1)) (by decide)) (by decide))⟩
set_option maxHeartbeats 4000000 in
theorem ct_Face_close_36 {n : Nat} (hn : gb_N ≤ n) {Q : gb_S → Int32 → Prop} (hret : ∀ (σ : gb_S) (r : Int32), gb_TC σ → gb_iv (-2147483648) 2147483647 r → Q σ r) : ∀ (mm : Nat) (σ : gb_S) (v2 : Int32) (v3 : Nat) (v4 : Int32) (v5 : Int32) (v6 : Int32), gb_TC σ → gb_kB v3 = true → gb_iv (-2147483648) 2147483647 v2 → gb_iv (-2147483648) 2147483647 v4 → gb_iv (-1) 4 v5 → gb_iv 0 5 v6 → (5 - v6.toInt).toNat < mm → gb_tc (cs_Face_close_36 n mm σ v2 v3 v4 v5 v6) Q := by
  intro mm
  induction mm with
  | zero =>
    intro σ v2 v3 v4 v5 v6 hT hv3 iv2 iv4 iv5 iv6 hm
    exact absurd hm (Nat.not_lt_zero _)
  | succ mm ih =>
    intro σ v2 v3 v4 v5 v6 hT hv3 iv2 iv4 iv5 iv6 hm
    rw [cs_Face_close_36]
    refine gc_kk hv3 ?_
    refine gc_cdP (ct_Border_paths_B hn hT hv3) (fun r_19 qr_19 h_83508 => ?_)
    refine gc_if (fun c_83509 => ?_) (fun c_83509 => ?_)
    · refine gc_if (fun c_83510 => ?_) (fun c_83510 => ?_)
      · have j_83511 : gb_iv (-2147483648) 0 v2 := (gb_rU (lo := (-2147483648)) (hi := 0) (gb_deq c_83510) (gb_it _) (gb_ic (a := 0) (by decide)) (by decide))
        have j_83512 : gb_iv 0 0 v2 := (gb_rL (lo := 0) (hi := 0) (gb_deq2 c_83510) j_83511 (gb_ic (a := 0) (by decide)) (by decide))
        exact gc_some (hret _ _ hT (gb_iw (lo := (-2147483648)) (hi := 2147483647) iv5 (by decide)))
      · exact gc_some (hret _ _ hT (gb_it _))
    · have j_83513 : gb_iv 0 4 v6 := (gb_rU (lo := 0) (hi := 4) (gb_dnle c_83509) iv6 h_83508 (by decide))
      have j_83514 : gb_iv 1 5 r_19 := (gb_rL (lo := 1) (hi := 5) (gb_dnle c_83509) h_83508 j_83513 (by decide))
      refine gc_cdT (ct_Sharing_solve_B_n hn hT hv3) (fun s_24 u_83515 hTs_24 _ => ?_)
      refine gc_if (fun c_83516 => ?_) (fun c_83516 => ?_)
      · have j_83517 : gb_iv (-1) (-1) v5 := (gb_rU (lo := (-1)) (hi := (-1)) (gb_deq c_83516) iv5 (gb_ic (a := (-1)) (by decide)) (by decide))
        refine gc_cdP (ct_Sharing_difference hn hTs_24) (fun r_30 qr_30 h_83518 => ?_)
        refine gc_lti (lo := 1) (hi := 5) (gb_iadd (lo := 1) (hi := 5) j_83513 (gb_ic (a := 1) (by decide)) (by decide)) (fun x_33 ex_33 ix_33 => ?_)
        exact ih _ _ _ _ _ _ hTs_24 hv3 (gb_it _) (gb_it _) (gb_iw (lo := (-1)) (hi := 4) j_83513 (by decide)) (gb_iw (lo := 0) (hi := 5) ix_33 (by decide)) (gb_mup ex_33 j_83513 (by decide) hm)
      · have j_83519 : gb_iv 0 4 v5 := (gb_rN (lo := 0) (hi := 4) (v := (-1)) c_83516 iv5 (by decide) (by decide))
        refine gc_cdP (ct_Sharing_difference hn hTs_24) (fun r_35 qr_35 h_83520 => ?_)
        refine gc_if (fun c_83521 => ?_) (fun c_83521 => ?_)
        · refine gc_lti (lo := 1) (hi := 5) (gb_iadd (lo := 1) (hi := 5) j_83513 (gb_ic (a := 1) (by decide)) (by decide)) (fun x_39 ex_39 ix_39 => ?_)
          exact ih _ _ _ _ _ _ hTs_24 hv3 (gb_it _) (gb_it _) (gb_iw (lo := (-1)) (hi := 4) j_83519 (by decide)) (gb_iw (lo := 0) (hi := 5) ix_39 (by decide)) (gb_mup ex_39 j_83513 (by decide) hm)
        · have j_83522 : gb_iv (-2147483648) 2147483646 r_35 := (gb_rU (lo := (-2147483648)) (hi := 2147483646) (gb_dnle c_83521) (gb_it _) (gb_it _) (by decide))
          have j_83523 : gb_iv (-2147483647) 2147483647 v4 := (gb_rL (lo := (-2147483647)) (hi := 2147483647) (gb_dnle c_83521) (gb_it _) j_83522 (by decide))
          refine gc_cdE qr_35 ?_
          refine gc_lti (lo := 1) (hi := 5) (gb_iadd (lo := 1) (hi := 5) j_83513 (gb_ic (a := 1) (by decide)) (by decide)) (fun x_44 ex_44 ix_44 => ?_)
          exact ih _ _ _ _ _ _ hTs_24 hv3 (gb_it _) (gb_iw (lo := (-2147483648)) (hi := 2147483647) j_83522 (by decide)) (gb_iw (lo := (-1)) (hi := 4) j_83513 (by decide)) (gb_iw (lo := 0) (hi := 5) ix_44 (by decide)) (gb_mup ex_44 j_83513 (by decide) hm)
set_option maxHeartbeats 4000000 in
theorem ct_Face_close {n : Nat} (hn : gb_N ≤ n) {σ : gb_S} {p1 : Int32} {p2 : Int32} (hT : gb_TC σ) : gb_tc (cs_Face_close n σ p1 p2) (fun s r => gb_TC s ∧ gb_iv (-2147483648) 2147483647 r) := by
  unfold cs_Face_close
  refine gc_cdP (ct_Face_borderAt hn hT) (fun r_2 qr_2 h_83297 => ?_)
  refine gc_if (fun c_83298 => ?_) (fun c_83298 => ?_)
  · exact gc_some ⟨hT, (gb_iw (lo := (-2147483648)) (hi := 2147483647) (gb_ic (a := (-1)) (by decide)) (by decide))⟩
  · refine gc_kk (Or.resolve_left h_83297 c_83298) ?_
    refine gc_cdP (ct_Sharing_canShare_B hn hT (Or.resolve_left h_83297 c_83298)) (fun r_8 qr_8 h_83299 => ?_)
    refine gc_if (fun c_83300 => ?_) (fun c_83300 => ?_)
    · have j_83301 : gb_iv 0 0 r_8 := (gb_rU (lo := 0) (hi := 0) (gb_deq c_83300) h_83299 (gb_ic (a := 0) (by decide)) (by decide))
      exact gc_some ⟨hT, (gb_iw (lo := (-2147483648)) (hi := 2147483647) (gb_ic (a := (-1)) (by decide)) (by decide))⟩
    · have j_83302 : gb_iv 1 1 r_8 := (gb_rN (lo := 1) (hi := 1) (v := 0) c_83300 h_83299 (by decide) (by decide))
      refine gc_cdP (ct_Border_paths_B hn hT (Or.resolve_left h_83297 c_83298)) (fun r_13 qr_13 h_83303 => ?_)
      refine gc_if (fun c_83304 => ?_) (fun c_83304 => ?_)
      · have j_83305 : gb_iv 2 5 r_13 := (gb_rL (lo := 2) (hi := 5) (gb_dle c_83304) h_83303 (gb_ic (a := 2) (by decide)) (by decide))
        exact ct_Face_close_36 hn (fun _ _ hT h => ⟨hT, h⟩) n _ _ _ _ _ _ hT (Or.resolve_left h_83297 c_83298) (gb_it _) (gb_iw (lo := (-2147483648)) (hi := 2147483647) (gb_ic (a := 0) (by decide)) (by decide)) (gb_iw (lo := (-1)) (hi := 4) (gb_ic (a := (-1)) (by decide)) (by decide)) (gb_iw (lo := 0) (hi := 5) (gb_ic (a := 0) (by decide)) (by decide)) (gb_fuu hn (gb_iw (lo := 0) (hi := 5) (gb_ic (a := 0) (by decide)) (by decide)) (by decide))
      · have j_83524 : gb_iv 0 1 r_13 := (gb_rU (lo := 0) (hi := 1) (gb_dnle c_83304) h_83303 (gb_ic (a := 2) (by decide)) (by decide))
        exact gc_some ⟨hT, (gb_iw (lo := (-2147483648)) (hi := 2147483647) (gb_ic (a := (-1)) (by decide)) (by decide))⟩
set_option maxHeartbeats 4000000 in
theorem ct_Flocks_findWays_B_D_28 {n : Nat} (hn : gb_N ≤ n) {Q : gb_S → Unit → Prop} (hret : ∀ (σ : gb_S) (r : Unit), gb_TC σ → True → Q σ r) : ∀ (mm : Nat) (σ : gb_S) (v1 : Nat) (v2 : Nat) (v3 : Int32) (v4 : Int32) (v5 : Int32), gb_TC σ → gb_kB v1 = true → gb_kD v2 = true → gb_iv (-2147483648) 2147483647 v3 → gb_iv (-2147483648) 2147483647 v4 → gb_iv 0 5 v5 → (5 - v5.toInt).toNat < mm → gb_tc (cs_Flocks_findWays_B_D_28 n mm σ v1 v2 v3 v4 v5) Q := by
  intro mm
  induction mm with
  | zero =>
    intro σ v1 v2 v3 v4 v5 hT hv1 hv2 iv3 iv4 iv5 hm
    exact absurd hm (Nat.not_lt_zero _)
  | succ mm ih =>
    intro σ v1 v2 v3 v4 v5 hT hv1 hv2 iv3 iv4 iv5 hm
    rw [cs_Flocks_findWays_B_D_28]
    refine gc_kk hv1 ?_
    refine gc_kk hv2 ?_
    refine gc_cdP (ct_Lines_size_D hn hT hv2) (fun r_18 qr_18 h_84309 => ?_)
    refine gc_if (fun c_84310 => ?_) (fun c_84310 => ?_)
    · exact gc_some (hret _ _ hT trivial)
    · have j_84311 : gb_iv 0 4 v5 := (gb_rU (lo := 0) (hi := 4) (gb_dnle c_84310) iv5 h_84309 (by decide))
      have j_84312 : gb_iv 1 5 r_18 := (gb_rL (lo := 1) (hi := 5) (gb_dnle c_84310) h_84309 j_84311 (by decide))
      refine gc_cdP (ct_Dawn_pathSeen_D hn hT hv2 j_84311) (fun r_23 qr_23 h_84313 => ?_)
      refine gc_cdP (ct_Border_hasPath_B hn hT hv1) (fun r_27 qr_27 h_84314 => ?_)
      refine gc_if (fun c_84315 => ?_) (fun c_84315 => ?_)
      · have j_84316 : gb_iv 0 0 r_27 := (gb_rU (lo := 0) (hi := 0) (gb_deq c_84315) h_84314.1 (gb_ic (a := 0) (by decide)) (by decide))
        refine gc_cdP (ct_Dawn_marksSeen_D hn hT hv2 j_84311) (fun r_32 qr_32 h_84317 => ?_)
        refine gc_if (fun c_84318 => ?_) (fun c_84318 => ?_)
        · have j_84319 : gb_iv (-2147483648) 0 r_32 := (gb_rU (lo := (-2147483648)) (hi := 0) (gb_deq c_84318) (gb_it _) (gb_ic (a := 0) (by decide)) (by decide))
          have j_84320 : gb_iv 0 0 r_32 := (gb_rL (lo := 0) (hi := 0) (gb_deq2 c_84318) j_84319 (gb_ic (a := 0) (by decide)) (by decide))
          refine gc_if (fun c_84321 => ?_) (fun c_84321 => ?_)
          · have j_84322 : gb_iv 0 2147483647 v4 := (gb_rL (lo := 0) (hi := 2147483647) (gb_deq c_84321) (gb_it _) j_84311 (by decide))
            have j_84323 : gb_iv 0 4 v4 := (gb_rU (lo := 0) (hi := 4) (gb_deq2 c_84321) j_84322 j_84311 (by decide))
            refine gc_kk (gc_q4 hT) ?_
            refine gc_cdT (ct_java_util_Arrays_fillJ_J hn hT (gc_q4 hT)) (fun s_45 u_84324 hTs_45 _ => ?_)
            refine gc_lti (lo := 1) (hi := 5) (gb_iadd (lo := 1) (hi := 5) j_84311 (gb_ic (a := 1) (by decide)) (by decide)) (fun x_49 ex_49 ix_49 => ?_)
            exact ih _ _ _ _ _ _ hTs_45 hv1 hv2 (gb_it _) (gb_iw (lo := (-2147483648)) (hi := 2147483647) j_84323 (by decide)) (gb_iw (lo := 0) (hi := 5) ix_49 (by decide)) (gb_mup ex_49 j_84311 (by decide) hm)
          · refine gc_lti (lo := 1) (hi := 5) (gb_iadd (lo := 1) (hi := 5) j_84311 (gb_ic (a := 1) (by decide)) (by decide)) (fun x_43 ex_43 ix_43 => ?_)
            exact ih _ _ _ _ _ _ hT hv1 hv2 (gb_it _) (gb_it _) (gb_iw (lo := 0) (hi := 5) ix_43 (by decide)) (gb_mup ex_43 j_84311 (by decide) hm)
        · refine gc_kk (gc_q4 hT) ?_
          refine gc_cdT (ct_java_util_Arrays_fillJ_J hn hT (gc_q4 hT)) (fun s_37 u_84325 hTs_37 _ => ?_)
          refine gc_lti (lo := 1) (hi := 5) (gb_iadd (lo := 1) (hi := 5) j_84311 (gb_ic (a := 1) (by decide)) (by decide)) (fun x_41 ex_41 ix_41 => ?_)
          exact ih _ _ _ _ _ _ hTs_37 hv1 hv2 (gb_it _) (gb_it _) (gb_iw (lo := 0) (hi := 5) ix_41 (by decide)) (gb_mup ex_41 j_84311 (by decide) hm)
      · have j_84326 : gb_iv 1 1 r_27 := (gb_rN (lo := 1) (hi := 1) (v := 0) c_84315 h_84314.1 (by decide) (by decide))
        have j_84327 : gb_iv 0 4 r_23 := (h_84314.2 c_84315)
        refine gc_cdT (ct_Flocks_sumUp_B_c131 hn hT hv1 j_84327) (fun s_50 u_84328 hTs_50 _ => ?_)
        refine gc_cdP (ct_Dawn_marksSeen_D hn hTs_50 hv2 j_84311) (fun r_55 qr_55 h_84329 => ?_)
        refine gc_if (fun c_84330 => ?_) (fun c_84330 => ?_)
        · have j_84331 : gb_iv (-2147483648) (-1) v3 := (gb_rU (lo := (-2147483648)) (hi := (-1)) (gb_deq c_84330) (gb_it _) (gb_ic (a := (-1)) (by decide)) (by decide))
          have j_84332 : gb_iv (-1) (-1) v3 := (gb_rL (lo := (-1)) (hi := (-1)) (gb_deq2 c_84330) j_84331 (gb_ic (a := (-1)) (by decide)) (by decide))
          refine gc_cdT (ct_Flocks_goBy hn hTs_50) (fun s_59 u_84333 hTs_59 _ => ?_)
          refine gc_lti (lo := 1) (hi := 5) (gb_iadd (lo := 1) (hi := 5) j_84311 (gb_ic (a := 1) (by decide)) (by decide)) (fun x_63 ex_63 ix_63 => ?_)
          exact ih _ _ _ _ _ _ hTs_59 hv1 hv2 (gb_iw (lo := (-2147483648)) (hi := 2147483647) j_84332 (by decide)) (gb_it _) (gb_iw (lo := 0) (hi := 5) ix_63 (by decide)) (gb_mup ex_63 j_84311 (by decide) hm)
        · refine gc_if (fun c_84334 => ?_) (fun c_84334 => ?_)
          · have j_84335 : gb_iv 0 2147483647 v4 := (gb_rL (lo := 0) (hi := 2147483647) (gb_deq c_84334) (gb_it _) j_84311 (by decide))
            have j_84336 : gb_iv 0 4 v4 := (gb_rU (lo := 0) (hi := 4) (gb_deq2 c_84334) j_84335 j_84311 (by decide))
            refine gc_cdT (ct_Flocks_goBy hn hTs_50) (fun s_70 u_84337 hTs_70 _ => ?_)
            refine gc_lti (lo := 1) (hi := 5) (gb_iadd (lo := 1) (hi := 5) j_84311 (gb_ic (a := 1) (by decide)) (by decide)) (fun x_74 ex_74 ix_74 => ?_)
            exact ih _ _ _ _ _ _ hTs_70 hv1 hv2 (gb_it _) (gb_iw (lo := (-2147483648)) (hi := 2147483647) j_84336 (by decide)) (gb_iw (lo := 0) (hi := 5) ix_74 (by decide)) (gb_mup ex_74 j_84311 (by decide) hm)
          · refine gc_cdT (ct_Flocks_goBy hn hTs_50) (fun s_65 u_84338 hTs_65 _ => ?_)
            refine gc_lti (lo := 1) (hi := 5) (gb_iadd (lo := 1) (hi := 5) j_84311 (gb_ic (a := 1) (by decide)) (by decide)) (fun x_69 ex_69 ix_69 => ?_)
            exact ih _ _ _ _ _ _ hTs_65 hv1 hv2 (gb_it _) (gb_it _) (gb_iw (lo := 0) (hi := 5) ix_69 (by decide)) (gb_mup ex_69 j_84311 (by decide) hm)
set_option maxHeartbeats 4000000 in
theorem ct_Flocks_findWays_B_D {n : Nat} (hn : gb_N ≤ n) {σ : gb_S} {p1 : Nat} {p2 : Nat} {p3 : Int32} {p4 : Int32} (hT : gb_TC σ) (hp1 : gb_kB p1 = true) (hp2 : gb_kD p2 = true) : gb_tc (cs_Flocks_findWays_B_D n σ p1 p2 p3 p4) (fun s _ => gb_TC s ∧ True) := by
  unfold cs_Flocks_findWays_B_D
  refine gc_kk hp1 ?_
  refine gc_kk hp2 ?_
  refine gc_cdP (ct_Border_geese_B hn hT hp1) (fun r_4 qr_4 h_83917 => ?_)
  refine gc_ltT (gc_su (c := 11) (lo := 0) (hi := 256) hT (rfl : gc_cat 130 = 11) (gb_iw (lo := 0) (hi := 256) (gb_ishl (lo := 1) (hi := 256) h_83917 (by decide)) (by decide)) (by decide)) (fun s_7 es_7 hTs_7 => ?_)
  refine gc_kk (gc_q4 hTs_7) ?_
  refine gc_cdT (ct_java_util_Arrays_fillJ_J hn hTs_7 (gc_q4 hTs_7)) (fun s_9 u_83918 hTs_9 _ => ?_)
  refine gc_kk (gc_q4 hTs_9) ?_
  refine gc_ltT (gc_sg hTs_9) (fun s_14 es_14 hTs_14 => ?_)
  exact ct_Flocks_findWays_B_D_28 hn (fun _ _ hT h => ⟨hT, h⟩) n _ _ _ _ _ _ hTs_14 hp1 hp2 (gb_it _) (gb_it _) (gb_iw (lo := 0) (hi := 5) (gb_ic (a := 0) (by decide)) (by decide)) (gb_fuu hn (gb_iw (lo := 0) (hi := 5) (gb_ic (a := 0) (by decide)) (by decide)) (by decide))
set_option maxHeartbeats 4000000 in
theorem ct_Face_fits {n : Nat} (hn : gb_N ≤ n) {σ : gb_S} {p1 : Int32} {p2 : Int32} (hT : gb_TC σ) : gb_tc (cs_Face_fits n σ p1 p2) (fun s _ => gb_TC s ∧ True) := by
  unfold cs_Face_fits
  refine gc_cdP (ct_Face_borderAt hn hT) (fun r_2 qr_2 h_84346 => ?_)
  refine gc_if (fun c_84347 => ?_) (fun c_84347 => ?_)
  · refine gc_cdP (ct_Face_dawnAt hn hT) (fun r_7 qr_7 h_84348 => ?_)
    refine gc_if (fun c_84349 => ?_) (fun c_84349 => ?_)
    · exact gc_some ⟨hT, trivial⟩
    · refine gc_kk (Or.resolve_left h_84348 c_84349) ?_
      exact gc_some ⟨hT, trivial⟩
  · refine gc_kk (Or.resolve_left h_84346 c_84347) ?_
    refine gc_cdP (ct_Face_dawnAt hn hT) (fun r_14 qr_14 h_84350 => ?_)
    refine gc_if (fun c_84351 => ?_) (fun c_84351 => ?_)
    · exact gc_some ⟨hT, trivial⟩
    · refine gc_kk (Or.resolve_left h_84350 c_84351) ?_
      refine gc_cdT (ct_Flocks_findWays_B_D hn hT (Or.resolve_left h_84346 c_84347) (Or.resolve_left h_84350 c_84351)) (fun s_19 u_84352 hTs_19 _ => ?_)
      refine gc_cdP (ct_Flocks_allWays hn hTs_19) (fun r_24 qr_24 _ => ?_)
      exact gc_some ⟨hTs_19, trivial⟩
set_option maxHeartbeats 4000000 in
theorem ct_Flocks_pathsInAnyWay_B_D_6 {n : Nat} (hn : gb_N ≤ n) {Q : gb_S → Int32 → Prop} (hret : ∀ (σ : gb_S) (r : Int32), gb_TC σ → gb_iv (-2147483648) 2147483647 r → Q σ r) : ∀ (mm : Nat) (σ : gb_S) (v1 : Nat) (v2 : Nat) (v3 : Int32) (v4 : Int32) (v5 : Int32), gb_TC σ → gb_kB v1 = true → gb_kD v2 = true → gb_iv (-2147483648) 2147483647 v3 → gb_iv (-2147483648) 2147483647 v4 → gb_iv 0 5 v5 → (5 - v5.toInt).toNat < mm → gb_tc (cs_Flocks_pathsInAnyWay_B_D_6 n mm σ v1 v2 v3 v4 v5) Q := by
  intro mm
  induction mm with
  | zero =>
    intro σ v1 v2 v3 v4 v5 hT hv1 hv2 iv3 iv4 iv5 hm
    exact absurd hm (Nat.not_lt_zero _)
  | succ mm ih =>
    intro σ v1 v2 v3 v4 v5 hT hv1 hv2 iv3 iv4 iv5 hm
    rw [cs_Flocks_pathsInAnyWay_B_D_6]
    refine gc_kk hv1 ?_
    refine gc_kk hv2 ?_
    refine gc_cdP (ct_Lines_size_D hn hT hv2) (fun r_6 qr_6 h_84587 => ?_)
    refine gc_if (fun c_84588 => ?_) (fun c_84588 => ?_)
    · exact gc_some (hret _ _ hT (gb_it _))
    · have j_84589 : gb_iv 0 4 v5 := (gb_rU (lo := 0) (hi := 4) (gb_dnle c_84588) iv5 h_84587 (by decide))
      have j_84590 : gb_iv 1 5 r_6 := (gb_rL (lo := 1) (hi := 5) (gb_dnle c_84588) h_84587 j_84589 (by decide))
      refine gc_cdT (ct_Flocks_findWays_B_D hn hT hv1 hv2) (fun s_10 u_84591 hTs_10 _ => ?_)
      refine gc_cdP (ct_Flocks_allWays hn hTs_10) (fun r_15 qr_15 _ => ?_)
      refine gc_if (fun c_84592 => ?_) (fun c_84592 => ?_)
      · have j_84593 : gb_iv (-2147483648) 0 (lg_cmp r_15 (0 : Int64)) := (gb_rU (lo := (-2147483648)) (hi := 0) (gb_dle c_84592) (gb_it _) (gb_ic (a := 0) (by decide)) (by decide))
        refine gc_lti (lo := 1) (hi := 5) (gb_iadd (lo := 1) (hi := 5) j_84589 (gb_ic (a := 1) (by decide)) (by decide)) (fun x_19 ex_19 ix_19 => ?_)
        exact ih _ _ _ _ _ _ hTs_10 hv1 hv2 (gb_it _) (gb_it _) (gb_iw (lo := 0) (hi := 5) ix_19 (by decide)) (gb_mup ex_19 j_84589 (by decide) hm)
      · have j_84594 : gb_iv 1 2147483647 (lg_cmp r_15 (0 : Int64)) := (gb_rL (lo := 1) (hi := 2147483647) (gb_dnle c_84592) (gb_it _) (gb_ic (a := 0) (by decide)) (by decide))
        refine gc_cdP (ct_Dawn_pathSeen_D hn hTs_10 hv2 j_84589) (fun r_21 qr_21 h_84595 => ?_)
        refine gc_lti (lo := (-2147483648)) (hi := 2147483647) (gb_it _) (fun x_24 ex_24 ix_24 => ?_)
        refine gc_lti (lo := 1) (hi := 5) (gb_iadd (lo := 1) (hi := 5) j_84589 (gb_ic (a := 1) (by decide)) (by decide)) (fun x_25 ex_25 ix_25 => ?_)
        exact ih _ _ _ _ _ _ hTs_10 hv1 hv2 (gb_it _) (gb_it _) (gb_iw (lo := 0) (hi := 5) ix_25 (by decide)) (gb_mup ex_25 j_84589 (by decide) hm)
set_option maxHeartbeats 4000000 in
theorem ct_Flocks_pathsInAnyWay_B_D {n : Nat} (hn : gb_N ≤ n) {σ : gb_S} {p1 : Nat} {p2 : Nat} {p3 : Int32} (hT : gb_TC σ) (hp1 : gb_kB p1 = true) (hp2 : gb_kD p2 = true) : gb_tc (cs_Flocks_pathsInAnyWay_B_D n σ p1 p2 p3) (fun s r => gb_TC s ∧ gb_iv (-2147483648) 2147483647 r) := by
  unfold cs_Flocks_pathsInAnyWay_B_D
  refine gc_kk hp1 ?_
  refine gc_kk hp2 ?_
  exact ct_Flocks_pathsInAnyWay_B_D_6 hn (fun _ _ hT h => ⟨hT, h⟩) n _ _ _ _ _ _ hT hp1 hp2 (gb_it _) (gb_iw (lo := (-2147483648)) (hi := 2147483647) (gb_ic (a := 0) (by decide)) (by decide)) (gb_iw (lo := 0) (hi := 5) (gb_ic (a := 0) (by decide)) (by decide)) (gb_fuu hn (gb_iw (lo := 0) (hi := 5) (gb_ic (a := 0) (by decide)) (by decide)) (by decide))
set_option maxHeartbeats 4000000 in
theorem ct_Face_told_82 {n : Nat} (hn : gb_N ≤ n) {Q : gb_S → Int32 → Prop} (hret : ∀ (σ : gb_S) (r : Int32), gb_TC σ → gb_iv (-2147483648) 2147483647 r → Q σ r) : ∀ (σ : gb_S) (v3 : Int32) (v4 : Nat) (v5 : Nat), gb_TC σ → gb_kB v4 = true → gb_kD v5 = true → gb_iv 0 2 v3 → gb_tc (cs_Face_told_82 n σ v3 v4 v5) Q := by
  intro σ v3 v4 v5 hT hv4 hv5 iv3
  unfold cs_Face_told_82
  refine gc_kk hv4 ?_
  refine gc_kk hv5 ?_
  refine gc_cdT (ct_Flocks_findWays_B_D hn hT hv4 hv5) (fun s_28 u_84666 hTs_28 _ => ?_)
  refine gc_cdP (ct_Flocks_allWays hn hTs_28) (fun r_33 qr_33 _ => ?_)
  refine gc_if (fun c_84667 => ?_) (fun c_84667 => ?_)
  · have j_84668 : gb_iv (-2147483648) 0 (lg_cmp r_33 (0 : Int64)) := (gb_rU (lo := (-2147483648)) (hi := 0) (gb_deq c_84667) (gb_it _) (gb_ic (a := 0) (by decide)) (by decide))
    have j_84669 : gb_iv 0 0 (lg_cmp r_33 (0 : Int64)) := (gb_rL (lo := 0) (hi := 0) (gb_deq2 c_84667) j_84668 (gb_ic (a := 0) (by decide)) (by decide))
    exact gc_some (hret _ _ hTs_28 (gb_iw (lo := (-2147483648)) (hi := 2147483647) (gb_ic (a := (-2)) (by decide)) (by decide)))
  · refine gc_if (fun c_84670 => ?_) (fun c_84670 => ?_)
    · have j_84671 : gb_iv 0 0 v3 := (gb_rU (lo := 0) (hi := 0) (gb_deq c_84670) iv3 (gb_ic (a := 0) (by decide)) (by decide))
      refine gc_cdP (ct_Flocks_fewestGone hn hTs_28) (fun r_39 qr_39 h_84672 => ?_)
      exact gc_some (hret _ _ hTs_28 (gb_iw (lo := (-2147483648)) (hi := 2147483647) h_84672 (by decide)))
    · have j_84673 : gb_iv 1 2 v3 := (gb_rN (lo := 1) (hi := 2) (v := 0) c_84670 iv3 (by decide) (by decide))
      refine gc_if (fun c_84674 => ?_) (fun c_84674 => ?_)
      · have j_84675 : gb_iv 1 1 v3 := (gb_rU (lo := 1) (hi := 1) (gb_deq c_84674) j_84673 (gb_ic (a := 1) (by decide)) (by decide))
        refine gc_cdP (ct_Flocks_mostGone hn hTs_28) (fun r_44 qr_44 h_84676 => ?_)
        exact gc_some (hret _ _ hTs_28 (gb_iw (lo := (-2147483648)) (hi := 2147483647) h_84676 (by decide)))
      · have j_84677 : gb_iv 2 2 v3 := (gb_rN (lo := 2) (hi := 2) (v := 1) c_84674 j_84673 (by decide) (by decide))
        refine gc_if (fun c_84678 => ?_) (fun c_84678 => ?_)
        · refine gc_cdP (ct_Flocks_sureOnes hn hTs_28) (fun r_49 qr_49 h_84679 => ?_)
          exact gc_some (hret _ _ hTs_28 (gb_iw (lo := (-2147483648)) (hi := 2147483647) h_84679 (by decide)))
        · exact (gb_em (gb_rN (lo := 3) (hi := 1) (v := 2) c_84678 j_84677 (by decide) (by decide)) (by decide)).elim
set_option maxHeartbeats 4000000 in
theorem ct_Face_told_63 {n : Nat} (hn : gb_N ≤ n) {Q : gb_S → Int32 → Prop} (hret : ∀ (σ : gb_S) (r : Int32), gb_TC σ → gb_iv (-2147483648) 2147483647 r → Q σ r) : ∀ (σ : gb_S) (v3 : Int32) (v4 : Nat) (v5 : Nat) (t0 : Int32), gb_TC σ → gb_kB v4 = true → gb_kD v5 = true → gb_iv (-2147483648) 9 v3 → gb_iv 0 0 t0 → gb_tc (cs_Face_told_63 n σ v3 v4 v5 t0) Q := by
  intro σ v3 v4 v5 t0 hT hv4 hv5 iv3 it0
  unfold cs_Face_told_63
  refine gc_kk hv4 ?_
  refine gc_kk hv5 ?_
  refine gc_if (fun c_84660 => ?_) (fun c_84660 => ?_)
  · refine gc_if (fun c_84661 => ?_) (fun c_84661 => ?_)
    · have j_84662 : gb_iv (-2147483648) (-1) v3 := (gb_rU (lo := (-2147483648)) (hi := (-1)) (gb_dlt c_84661) iv3 (gb_ic (a := 0) (by decide)) (by decide))
      exact gc_some (hret _ _ hT (gb_iw (lo := (-2147483648)) (hi := 2147483647) (gb_ic (a := (-2)) (by decide)) (by decide)))
    · have j_84663 : gb_iv 0 9 v3 := (gb_rL (lo := 0) (hi := 9) (gb_dnlt c_84661) iv3 (gb_ic (a := 0) (by decide)) (by decide))
      refine gc_if (fun c_84664 => ?_) (fun c_84664 => ?_)
      · have j_84665 : gb_iv 0 2 v3 := (gb_rU (lo := 0) (hi := 2) (gb_dle c_84664) j_84663 (gb_ic (a := 2) (by decide)) (by decide))
        exact ct_Face_told_82 hn hret _ _ _ _ hT hv4 hv5 j_84665
      · have j_84680 : gb_iv 3 9 v3 := (gb_rL (lo := 3) (hi := 9) (gb_dnle c_84664) j_84663 (gb_ic (a := 2) (by decide)) (by decide))
        exact gc_some (hret _ _ hT (gb_iw (lo := (-2147483648)) (hi := 2147483647) (gb_ic (a := (-2)) (by decide)) (by decide)))
  · exact (gb_em (gb_rN (lo := 1) (hi := (-1)) (v := 0) c_84660 it0 (by decide) (by decide)) (by decide)).elim
set_option maxHeartbeats 4000000 in
theorem ct_Face_told_62 {n : Nat} (hn : gb_N ≤ n) {Q : gb_S → Int32 → Prop} (hret : ∀ (σ : gb_S) (r : Int32), gb_TC σ → gb_iv (-2147483648) 2147483647 r → Q σ r) : ∀ (σ : gb_S) (v3 : Int32) (v4 : Nat) (v5 : Nat), gb_TC σ → gb_kB v4 = true → gb_kD v5 = true → gb_iv (-2147483648) 9 v3 → gb_tc (cs_Face_told_62 n σ v3 v4 v5) Q := by
  intro σ v3 v4 v5 hT hv4 hv5 iv3
  unfold cs_Face_told_62
  refine gc_kk hv4 ?_
  refine gc_kk hv5 ?_
  exact ct_Face_told_63 hn hret _ _ _ _ _ hT hv4 hv5 iv3 (gb_ic (a := 0) (by decide))
set_option maxHeartbeats 4000000 in
theorem ct_Face_told_63_i1 {n : Nat} (hn : gb_N ≤ n) {Q : gb_S → Int32 → Prop} (hret : ∀ (σ : gb_S) (r : Int32), gb_TC σ → gb_iv (-2147483648) 2147483647 r → Q σ r) : ∀ (σ : gb_S) (v3 : Int32) (v4 : Nat) (v5 : Nat) (t0 : Int32), gb_TC σ → gb_kB v4 = true → gb_kD v5 = true → gb_iv 10 2147483647 v3 → gb_iv 0 0 t0 → gb_tc (cs_Face_told_63 n σ v3 v4 v5 t0) Q := by
  intro σ v3 v4 v5 t0 hT hv4 hv5 iv3 it0
  unfold cs_Face_told_63
  refine gc_kk hv4 ?_
  refine gc_kk hv5 ?_
  refine gc_if (fun c_84685 => ?_) (fun c_84685 => ?_)
  · refine gc_if (fun c_84686 => ?_) (fun c_84686 => ?_)
    · exact (gb_em (gb_rU (lo := 10) (hi := (-1)) (gb_dlt c_84686) iv3 (gb_ic (a := 0) (by decide)) (by decide)) (by decide)).elim
    · refine gc_if (fun c_84687 => ?_) (fun c_84687 => ?_)
      · exact (gb_em (gb_rU (lo := 10) (hi := 2) (gb_dle c_84687) iv3 (gb_ic (a := 2) (by decide)) (by decide)) (by decide)).elim
      · exact gc_some (hret _ _ hT (gb_iw (lo := (-2147483648)) (hi := 2147483647) (gb_ic (a := (-2)) (by decide)) (by decide)))
  · exact (gb_em (gb_rN (lo := 1) (hi := (-1)) (v := 0) c_84685 it0 (by decide) (by decide)) (by decide)).elim
set_option maxHeartbeats 4000000 in
theorem ct_Face_told_62_i1 {n : Nat} (hn : gb_N ≤ n) {Q : gb_S → Int32 → Prop} (hret : ∀ (σ : gb_S) (r : Int32), gb_TC σ → gb_iv (-2147483648) 2147483647 r → Q σ r) : ∀ (σ : gb_S) (v3 : Int32) (v4 : Nat) (v5 : Nat), gb_TC σ → gb_kB v4 = true → gb_kD v5 = true → gb_iv 10 2147483647 v3 → gb_tc (cs_Face_told_62 n σ v3 v4 v5) Q := by
  intro σ v3 v4 v5 hT hv4 hv5 iv3
  unfold cs_Face_told_62
  refine gc_kk hv4 ?_
  refine gc_kk hv5 ?_
  exact ct_Face_told_63_i1 hn hret _ _ _ _ _ hT hv4 hv5 iv3 (gb_ic (a := 0) (by decide))
set_option maxHeartbeats 4000000 in
theorem ct_Face_told_82_i1 {n : Nat} (hn : gb_N ≤ n) {Q : gb_S → Int32 → Prop} (hret : ∀ (σ : gb_S) (r : Int32), gb_TC σ → gb_iv (-2147483648) 2147483647 r → Q σ r) : ∀ (σ : gb_S) (v3 : Int32) (v4 : Nat) (v5 : Nat), gb_TC σ → gb_kB v4 = true → gb_kD v5 = true → gb_iv 10 17 v3 → gb_tc (cs_Face_told_82 n σ v3 v4 v5) Q := by
  intro σ v3 v4 v5 hT hv4 hv5 iv3
  unfold cs_Face_told_82
  refine gc_kk hv4 ?_
  refine gc_kk hv5 ?_
  refine gc_cdT (ct_Flocks_findWays_B_D hn hT hv4 hv5) (fun s_28 u_84692 hTs_28 _ => ?_)
  refine gc_cdP (ct_Flocks_allWays hn hTs_28) (fun r_33 qr_33 _ => ?_)
  refine gc_if (fun c_84693 => ?_) (fun c_84693 => ?_)
  · have j_84694 : gb_iv (-2147483648) 0 (lg_cmp r_33 (0 : Int64)) := (gb_rU (lo := (-2147483648)) (hi := 0) (gb_deq c_84693) (gb_it _) (gb_ic (a := 0) (by decide)) (by decide))
    have j_84695 : gb_iv 0 0 (lg_cmp r_33 (0 : Int64)) := (gb_rL (lo := 0) (hi := 0) (gb_deq2 c_84693) j_84694 (gb_ic (a := 0) (by decide)) (by decide))
    exact gc_some (hret _ _ hTs_28 (gb_iw (lo := (-2147483648)) (hi := 2147483647) (gb_ic (a := (-2)) (by decide)) (by decide)))
  · refine gc_if (fun c_84696 => ?_) (fun c_84696 => ?_)
    · exact (gb_em (gb_rU (lo := 10) (hi := 0) (gb_deq c_84696) iv3 (gb_ic (a := 0) (by decide)) (by decide)) (by decide)).elim
    · refine gc_if (fun c_84697 => ?_) (fun c_84697 => ?_)
      · exact (gb_em (gb_rU (lo := 10) (hi := 1) (gb_deq c_84697) iv3 (gb_ic (a := 1) (by decide)) (by decide)) (by decide)).elim
      · refine gc_if (fun c_84698 => ?_) (fun c_84698 => ?_)
        · exact (gb_em (gb_rU (lo := 10) (hi := 2) (gb_deq c_84698) iv3 (gb_ic (a := 2) (by decide)) (by decide)) (by decide)).elim
        · refine gc_cdT (ct_Flocks_pathsInAnyWay_B_D hn hTs_28 hv4 hv5) (fun s_52 r_53 hTs_52 h_84699 => ?_)
          exact gc_some (hret _ _ hTs_52 (gb_it _))
set_option maxHeartbeats 4000000 in
theorem ct_Face_told_63_i2 {n : Nat} (hn : gb_N ≤ n) {Q : gb_S → Int32 → Prop} (hret : ∀ (σ : gb_S) (r : Int32), gb_TC σ → gb_iv (-2147483648) 2147483647 r → Q σ r) : ∀ (σ : gb_S) (v3 : Int32) (v4 : Nat) (v5 : Nat) (t0 : Int32), gb_TC σ → gb_kB v4 = true → gb_kD v5 = true → gb_iv 10 17 v3 → gb_iv 1 1 t0 → gb_tc (cs_Face_told_63 n σ v3 v4 v5 t0) Q := by
  intro σ v3 v4 v5 t0 hT hv4 hv5 iv3 it0
  unfold cs_Face_told_63
  refine gc_kk hv4 ?_
  refine gc_kk hv5 ?_
  refine gc_if (fun c_84691 => ?_) (fun c_84691 => ?_)
  · exact (gb_em (gb_rU (lo := 1) (hi := 0) (gb_deq c_84691) it0 (gb_ic (a := 0) (by decide)) (by decide)) (by decide)).elim
  · exact ct_Face_told_82_i1 hn hret _ _ _ _ hT hv4 hv5 iv3
set_option maxHeartbeats 4000000 in
theorem ct_Face_told {n : Nat} (hn : gb_N ≤ n) {σ : gb_S} {p1 : Int32} {p2 : Int32} {p3 : Int32} (hT : gb_TC σ) : gb_tc (cs_Face_told n σ p1 p2 p3) (fun s r => gb_TC s ∧ gb_iv (-2147483648) 2147483647 r) := by
  unfold cs_Face_told
  refine gc_cdP (ct_Face_borderAt hn hT) (fun r_2 qr_2 h_84648 => ?_)
  refine gc_if (fun c_84649 => ?_) (fun c_84649 => ?_)
  · refine gc_cdP (ct_Face_dawnAt hn hT) (fun r_7 qr_7 h_84650 => ?_)
    refine gc_if (fun c_84651 => ?_) (fun c_84651 => ?_)
    · exact gc_some ⟨hT, (gb_iw (lo := (-2147483648)) (hi := 2147483647) (gb_ic (a := (-2)) (by decide)) (by decide))⟩
    · refine gc_kk (Or.resolve_left h_84650 c_84651) ?_
      exact gc_some ⟨hT, (gb_iw (lo := (-2147483648)) (hi := 2147483647) (gb_ic (a := (-2)) (by decide)) (by decide))⟩
  · refine gc_kk (Or.resolve_left h_84648 c_84649) ?_
    refine gc_cdP (ct_Face_dawnAt hn hT) (fun r_14 qr_14 h_84652 => ?_)
    refine gc_if (fun c_84653 => ?_) (fun c_84653 => ?_)
    · exact gc_some ⟨hT, (gb_iw (lo := (-2147483648)) (hi := 2147483647) (gb_ic (a := (-2)) (by decide)) (by decide))⟩
    · refine gc_kk (Or.resolve_left h_84652 c_84653) ?_
      refine gc_if (fun c_84654 => ?_) (fun c_84654 => ?_)
      · have j_84655 : gb_iv (-2147483648) 3 p3 := (gb_rU (lo := (-2147483648)) (hi := 3) (gb_deq c_84654) (gb_it _) (gb_ic (a := 3) (by decide)) (by decide))
        have j_84656 : gb_iv 3 3 p3 := (gb_rL (lo := 3) (hi := 3) (gb_deq2 c_84654) j_84655 (gb_ic (a := 3) (by decide)) (by decide))
        refine gc_cdP (ct_Face_toeOf_B_D hn hT (Or.resolve_left h_84648 c_84649) (Or.resolve_left h_84652 c_84653)) (fun r_64 qr_64 h_84657 => ?_)
        exact gc_some ⟨hT, (gb_iw (lo := (-2147483648)) (hi := 2147483647) h_84657 (by decide))⟩
      · refine gc_if (fun c_84658 => ?_) (fun c_84658 => ?_)
        · have j_84659 : gb_iv (-2147483648) 9 p3 := (gb_rU (lo := (-2147483648)) (hi := 9) (gb_dlt c_84658) (gb_it _) (gb_ic (a := 10) (by decide)) (by decide))
          exact ct_Face_told_62 hn (fun _ _ hT h => ⟨hT, h⟩) _ _ _ _ hT (Or.resolve_left h_84648 c_84649) (Or.resolve_left h_84652 c_84653) j_84659
        · have j_84681 : gb_iv 10 2147483647 p3 := (gb_rL (lo := 10) (hi := 2147483647) (gb_dnlt c_84658) (gb_it _) (gb_ic (a := 10) (by decide)) (by decide))
          refine gc_cdP (ct_Border_hasGoose_B hn hT (Or.resolve_left h_84648 c_84649)) (fun r_59 qr_59 h_84682 => ?_)
          refine gc_if (fun c_84683 => ?_) (fun c_84683 => ?_)
          · have j_84684 : gb_iv 0 0 r_59 := (gb_rU (lo := 0) (hi := 0) (gb_deq c_84683) h_84682.1 (gb_ic (a := 0) (by decide)) (by decide))
            exact ct_Face_told_62_i1 hn (fun _ _ hT h => ⟨hT, h⟩) _ _ _ _ hT (Or.resolve_left h_84648 c_84649) (Or.resolve_left h_84652 c_84653) j_84681
          · have j_84688 : gb_iv 1 1 r_59 := (gb_rN (lo := 1) (hi := 1) (v := 0) c_84683 h_84682.1 (by decide) (by decide))
            have j_84689 : gb_iv 0 7 (p3 - 10) := (h_84682.2 c_84683)
            have j_84690 : gb_iv 10 17 p3 := (gb_vsub (lo := 10) (hi := 17) (v := 10) j_84689 (by decide) (by decide))
            exact ct_Face_told_63_i2 hn (fun _ _ hT h => ⟨hT, h⟩) _ _ _ _ _ hT (Or.resolve_left h_84648 c_84649) (Or.resolve_left h_84652 c_84653) j_84690 (gb_ic (a := 1) (by decide))
set_option maxHeartbeats 4000000 in
theorem ct_Face_playedOut_B_N {n : Nat} (hn : gb_N ≤ n) {σ : gb_S} {p1 : Nat} {p2 : Nat} (hT : gb_TC σ) (hp1 : gb_kB p1 = true) (hp2 : gb_kN p2 = true) : gb_tc (cs_Face_playedOut_B_N n σ p1 p2) (fun s r => gb_TC s ∧ gb_iv 1 1 r) := by
  unfold cs_Face_playedOut_B_N
  refine gc_kk hp1 ?_
  refine gc_kk hp2 ?_
  refine gc_cdP (ct_Lines_size_N hn hT hp2) (fun r_4 qr_4 h_84702 => ?_)
  refine gc_cdT (ct_Play_run_B_N hn hT hp1 hp2) (fun s_7 u_84703 hTs_7 _ => ?_)
  exact gc_some ⟨hTs_7, (gb_ic (a := 1) (by decide))⟩
set_option maxHeartbeats 4000000 in
theorem ct_Face_stop {n : Nat} (hn : gb_N ≤ n) {σ : gb_S} {p1 : Int32} {p2 : Int32} (hT : gb_TC σ) : gb_tc (cs_Face_stop n σ p1 p2) (fun s r => gb_TC s ∧ gb_iv (-1) 24 r) := by
  unfold cs_Face_stop
  refine gc_cdP (ct_Face_borderAt hn hT) (fun r_2 qr_2 h_84718 => ?_)
  refine gc_if (fun c_84719 => ?_) (fun c_84719 => ?_)
  · refine gc_cdP (ct_Face_nightAt hn hT) (fun r_7 qr_7 h_84720 => ?_)
    refine gc_if (fun c_84721 => ?_) (fun c_84721 => ?_)
    · refine gc_cdP (ct_Face_playedOut_n_n hn hT) (fun r_12 qr_12 h_84722 => ?_)
      refine gc_if (fun c_84723 => ?_) (fun c_84723 => ?_)
      · exact gc_some ⟨hT, (gb_iw (lo := (-1)) (hi := 24) (gb_ic (a := (-1)) (by decide)) (by decide))⟩
      · exact (gb_em (gb_rN (lo := 1) (hi := (-1)) (v := 0) c_84723 h_84722 (by decide) (by decide)) (by decide)).elim
    · refine gc_kk (Or.resolve_left h_84720 c_84721) ?_
      refine gc_cdP (ct_Face_playedOut_n_N hn hT (Or.resolve_left h_84720 c_84721)) (fun r_18 qr_18 h_84724 => ?_)
      refine gc_if (fun c_84725 => ?_) (fun c_84725 => ?_)
      · exact gc_some ⟨hT, (gb_iw (lo := (-1)) (hi := 24) (gb_ic (a := (-1)) (by decide)) (by decide))⟩
      · exact (gb_em (gb_rN (lo := 1) (hi := (-1)) (v := 0) c_84725 h_84724 (by decide) (by decide)) (by decide)).elim
  · refine gc_kk (Or.resolve_left h_84718 c_84719) ?_
    refine gc_cdP (ct_Face_nightAt hn hT) (fun r_24 qr_24 h_84726 => ?_)
    refine gc_if (fun c_84727 => ?_) (fun c_84727 => ?_)
    · refine gc_cdP (ct_Face_playedOut_B_n hn hT (Or.resolve_left h_84718 c_84719)) (fun r_29 qr_29 h_84728 => ?_)
      refine gc_if (fun c_84729 => ?_) (fun c_84729 => ?_)
      · exact gc_some ⟨hT, (gb_iw (lo := (-1)) (hi := 24) (gb_ic (a := (-1)) (by decide)) (by decide))⟩
      · exact (gb_em (gb_rN (lo := 1) (hi := (-1)) (v := 0) c_84729 h_84728 (by decide) (by decide)) (by decide)).elim
    · refine gc_kk (Or.resolve_left h_84726 c_84727) ?_
      refine gc_cdT (ct_Face_playedOut_B_N hn hT (Or.resolve_left h_84718 c_84719) (Or.resolve_left h_84726 c_84727)) (fun s_34 r_35 hTs_34 h_84730 => ?_)
      refine gc_if (fun c_84731 => ?_) (fun c_84731 => ?_)
      · exact (gb_em (gb_rU (lo := 1) (hi := 0) (gb_deq c_84731) h_84730 (gb_ic (a := 0) (by decide)) (by decide)) (by decide)).elim
      · exact gc_some ⟨hTs_34, (gb_iw (lo := (-1)) (hi := 24) (gc_rd (c := 10) (lo := 0) (hi := 24) hTs_34 (rfl : gc_cat 109 = 10) (by decide)) (by decide))⟩
set_option maxHeartbeats 4000000 in
theorem ct_Face_playedTo_B_n {n : Nat} (hn : gb_N ≤ n) {σ : gb_S} {p1 : Nat} {p3 : Int32} (hT : gb_TC σ) (hp1 : gb_kB p1 = true) : gb_tc (cs_Face_playedTo_B_n n σ p1 p3) (fun s r => s = σ ∧ gb_iv 0 0 r) := by
  unfold cs_Face_playedTo_B_n
  refine gc_kk hp1 ?_
  exact gc_some ⟨rfl, (gb_ic (a := 0) (by decide))⟩
set_option maxHeartbeats 4000000 in
theorem ct_Face_playedTo_B_N {n : Nat} (hn : gb_N ≤ n) {σ : gb_S} {p1 : Nat} {p2 : Nat} {p3 : Int32} (hT : gb_TC σ) (hp1 : gb_kB p1 = true) (hp2 : gb_kN p2 = true) : gb_tc (cs_Face_playedTo_B_N n σ p1 p2 p3) (fun s r => gb_TC s ∧ gb_iv 0 1 r) := by
  unfold cs_Face_playedTo_B_N
  refine gc_kk hp1 ?_
  refine gc_kk hp2 ?_
  refine gc_if (fun c_84741 => ?_) (fun c_84741 => ?_)
  · have j_84742 : gb_iv (-2147483648) (-1) p3 := (gb_rU (lo := (-2147483648)) (hi := (-1)) (gb_dlt c_84741) (gb_it _) (gb_ic (a := 0) (by decide)) (by decide))
    exact gc_some ⟨hT, (gb_iw (lo := 0) (hi := 1) (gb_ic (a := 0) (by decide)) (by decide))⟩
  · have j_84743 : gb_iv 0 2147483647 p3 := (gb_rL (lo := 0) (hi := 2147483647) (gb_dnlt c_84741) (gb_it _) (gb_ic (a := 0) (by decide)) (by decide))
    refine gc_cdP (ct_Lines_size_N hn hT hp2) (fun r_5 qr_5 h_84744 => ?_)
    refine gc_if (fun c_84745 => ?_) (fun c_84745 => ?_)
    · have j_84746 : gb_iv 0 24 p3 := (gb_rU (lo := 0) (hi := 24) (gb_dle c_84745) j_84743 h_84744 (by decide))
      refine gc_cdT (ct_Play_run_B_N hn hT hp1 hp2) (fun s_9 u_84747 hTs_9 _ => ?_)
      refine gc_if (fun c_84748 => ?_) (fun c_84748 => ?_)
      · exact gc_some ⟨hTs_9, (gb_iw (lo := 0) (hi := 1) (gb_ic (a := 1) (by decide)) (by decide))⟩
      · exact gc_some ⟨hTs_9, (gb_iw (lo := 0) (hi := 1) (gb_ic (a := 0) (by decide)) (by decide))⟩
    · have j_84749 : gb_iv 1 2147483647 p3 := (gb_rL (lo := 1) (hi := 2147483647) (gb_dnle c_84745) j_84743 h_84744 (by decide))
      exact gc_some ⟨hT, (gb_iw (lo := 0) (hi := 1) (gb_ic (a := 0) (by decide)) (by decide))⟩
set_option maxHeartbeats 4000000 in
theorem ct_Face_goose {n : Nat} (hn : gb_N ≤ n) {σ : gb_S} {p1 : Int32} {p2 : Int32} {p3 : Int32} {p4 : Int32} {p5 : Int32} (hT : gb_TC σ) : gb_tc (cs_Face_goose n σ p1 p2 p3 p4 p5) (fun s r => gb_TC s ∧ gb_iv (-2147483648) 2147483647 r) := by
  unfold cs_Face_goose
  refine gc_cdP (ct_Face_borderAt hn hT) (fun r_2 qr_2 h_84777 => ?_)
  refine gc_if (fun c_84778 => ?_) (fun c_84778 => ?_)
  · exact gc_some ⟨hT, (gb_iw (lo := (-2147483648)) (hi := 2147483647) (gb_ic (a := (-2)) (by decide)) (by decide))⟩
  · refine gc_kk (Or.resolve_left h_84777 c_84778) ?_
    refine gc_cdP (ct_Border_hasGoose_B hn hT (Or.resolve_left h_84777 c_84778)) (fun r_8 qr_8 h_84779 => ?_)
    refine gc_if (fun c_84780 => ?_) (fun c_84780 => ?_)
    · have j_84781 : gb_iv 0 0 r_8 := (gb_rU (lo := 0) (hi := 0) (gb_deq c_84780) h_84779.1 (gb_ic (a := 0) (by decide)) (by decide))
      exact gc_some ⟨hT, (gb_iw (lo := (-2147483648)) (hi := 2147483647) (gb_ic (a := (-2)) (by decide)) (by decide))⟩
    · have j_84782 : gb_iv 1 1 r_8 := (gb_rN (lo := 1) (hi := 1) (v := 0) c_84780 h_84779.1 (by decide) (by decide))
      have j_84783 : gb_iv 0 7 p4 := (h_84779.2 c_84780)
      refine gc_cdP (ct_Face_nightAt hn hT) (fun r_13 qr_13 h_84784 => ?_)
      refine gc_if (fun c_84785 => ?_) (fun c_84785 => ?_)
      · refine gc_cdP (ct_Face_playedTo_B_n hn hT (Or.resolve_left h_84777 c_84778)) (fun r_18 qr_18 h_84786 => ?_)
        refine gc_if (fun c_84787 => ?_) (fun c_84787 => ?_)
        · exact gc_some ⟨hT, (gb_iw (lo := (-2147483648)) (hi := 2147483647) (gb_ic (a := (-2)) (by decide)) (by decide))⟩
        · exact (gb_em (gb_rN (lo := 1) (hi := (-1)) (v := 0) c_84787 h_84786 (by decide) (by decide)) (by decide)).elim
      · refine gc_kk (Or.resolve_left h_84784 c_84785) ?_
        refine gc_cdT (ct_Face_playedTo_B_N hn hT (Or.resolve_left h_84777 c_84778) (Or.resolve_left h_84784 c_84785)) (fun s_35 r_36 hTs_35 h_84788 => ?_)
        refine gc_if (fun c_84789 => ?_) (fun c_84789 => ?_)
        · have j_84790 : gb_iv 0 0 r_36 := (gb_rU (lo := 0) (hi := 0) (gb_deq c_84789) h_84788 (gb_ic (a := 0) (by decide)) (by decide))
          exact gc_some ⟨hTs_35, (gb_iw (lo := (-2147483648)) (hi := 2147483647) (gb_ic (a := (-2)) (by decide)) (by decide))⟩
        · have j_84791 : gb_iv 1 1 r_36 := (gb_rN (lo := 1) (hi := 1) (v := 0) c_84789 h_84788 (by decide) (by decide))
          refine gc_if (fun c_84792 => ?_) (fun c_84792 => ?_)
          · have j_84793 : gb_iv (-2147483648) 0 p5 := (gb_rU (lo := (-2147483648)) (hi := 0) (gb_deq c_84792) (gb_it _) (gb_ic (a := 0) (by decide)) (by decide))
            have j_84794 : gb_iv 0 0 p5 := (gb_rL (lo := 0) (hi := 0) (gb_deq2 c_84792) j_84793 (gb_ic (a := 0) (by decide)) (by decide))
            refine gc_ck j_84783 (by decide) ?_
            refine gc_lti (lo := (-2147483648)) (hi := 2147483647) (gb_it _) (fun x_42 ex_42 ix_42 => ?_)
            exact gc_some ⟨hTs_35, (gb_it _)⟩
          · refine gc_if (fun c_84795 => ?_) (fun c_84795 => ?_)
            · have j_84796 : gb_iv (-2147483648) 1 p5 := (gb_rU (lo := (-2147483648)) (hi := 1) (gb_deq c_84795) (gb_it _) (gb_ic (a := 1) (by decide)) (by decide))
              have j_84797 : gb_iv 1 1 p5 := (gb_rL (lo := 1) (hi := 1) (gb_deq2 c_84795) j_84796 (gb_ic (a := 1) (by decide)) (by decide))
              refine gc_ck j_84783 (by decide) ?_
              refine gc_lti (lo := (-2147483648)) (hi := 2147483647) (gb_it _) (fun x_45 ex_45 ix_45 => ?_)
              exact gc_some ⟨hTs_35, (gb_it _)⟩
            · refine gc_if (fun c_84798 => ?_) (fun c_84798 => ?_)
              · have j_84799 : gb_iv (-2147483648) 2 p5 := (gb_rU (lo := (-2147483648)) (hi := 2) (gb_deq c_84798) (gb_it _) (gb_ic (a := 2) (by decide)) (by decide))
                have j_84800 : gb_iv 2 2 p5 := (gb_rL (lo := 2) (hi := 2) (gb_deq2 c_84798) j_84799 (gb_ic (a := 2) (by decide)) (by decide))
                refine gc_ck j_84783 (by decide) ?_
                refine gc_lti (lo := (-2147483648)) (hi := 2147483647) (gb_it _) (fun x_48 ex_48 ix_48 => ?_)
                exact gc_some ⟨hTs_35, (gb_it _)⟩
              · refine gc_if (fun c_84801 => ?_) (fun c_84801 => ?_)
                · have j_84802 : gb_iv (-2147483648) 3 p5 := (gb_rU (lo := (-2147483648)) (hi := 3) (gb_deq c_84801) (gb_it _) (gb_ic (a := 3) (by decide)) (by decide))
                  have j_84803 : gb_iv 3 3 p5 := (gb_rL (lo := 3) (hi := 3) (gb_deq2 c_84801) j_84802 (gb_ic (a := 3) (by decide)) (by decide))
                  refine gc_ck j_84783 (by decide) ?_
                  refine gc_lti (lo := (-2147483648)) (hi := 2147483647) (gb_it _) (fun x_51 ex_51 ix_51 => ?_)
                  exact gc_some ⟨hTs_35, (gb_it _)⟩
                · exact gc_some ⟨hTs_35, (gb_iw (lo := (-2147483648)) (hi := 2147483647) (gb_ic (a := (-2)) (by decide)) (by decide))⟩
set_option maxHeartbeats 4000000 in
theorem ct_Face_path {n : Nat} (hn : gb_N ≤ n) {σ : gb_S} {p1 : Int32} {p2 : Int32} {p3 : Int32} {p4 : Int32} {p5 : Int32} (hT : gb_TC σ) : gb_tc (cs_Face_path n σ p1 p2 p3 p4 p5) (fun s r => gb_TC s ∧ gb_iv (-2147483648) 2147483647 r) := by
  unfold cs_Face_path
  refine gc_cdP (ct_Face_borderAt hn hT) (fun r_2 qr_2 h_84842 => ?_)
  refine gc_if (fun c_84843 => ?_) (fun c_84843 => ?_)
  · exact gc_some ⟨hT, (gb_iw (lo := (-2147483648)) (hi := 2147483647) (gb_ic (a := (-2)) (by decide)) (by decide))⟩
  · refine gc_kk (Or.resolve_left h_84842 c_84843) ?_
    refine gc_cdP (ct_Border_hasPath_B hn hT (Or.resolve_left h_84842 c_84843)) (fun r_8 qr_8 h_84844 => ?_)
    refine gc_if (fun c_84845 => ?_) (fun c_84845 => ?_)
    · have j_84846 : gb_iv 0 0 r_8 := (gb_rU (lo := 0) (hi := 0) (gb_deq c_84845) h_84844.1 (gb_ic (a := 0) (by decide)) (by decide))
      exact gc_some ⟨hT, (gb_iw (lo := (-2147483648)) (hi := 2147483647) (gb_ic (a := (-2)) (by decide)) (by decide))⟩
    · have j_84847 : gb_iv 1 1 r_8 := (gb_rN (lo := 1) (hi := 1) (v := 0) c_84845 h_84844.1 (by decide) (by decide))
      have j_84848 : gb_iv 0 4 p4 := (h_84844.2 c_84845)
      refine gc_cdP (ct_Face_nightAt hn hT) (fun r_13 qr_13 h_84849 => ?_)
      refine gc_if (fun c_84850 => ?_) (fun c_84850 => ?_)
      · refine gc_cdP (ct_Face_playedTo_B_n hn hT (Or.resolve_left h_84842 c_84843)) (fun r_18 qr_18 h_84851 => ?_)
        refine gc_if (fun c_84852 => ?_) (fun c_84852 => ?_)
        · exact gc_some ⟨hT, (gb_iw (lo := (-2147483648)) (hi := 2147483647) (gb_ic (a := (-2)) (by decide)) (by decide))⟩
        · exact (gb_em (gb_rN (lo := 1) (hi := (-1)) (v := 0) c_84852 h_84851 (by decide) (by decide)) (by decide)).elim
      · refine gc_kk (Or.resolve_left h_84849 c_84850) ?_
        refine gc_cdT (ct_Face_playedTo_B_N hn hT (Or.resolve_left h_84842 c_84843) (Or.resolve_left h_84849 c_84850)) (fun s_55 r_56 hTs_55 h_84853 => ?_)
        refine gc_if (fun c_84854 => ?_) (fun c_84854 => ?_)
        · have j_84855 : gb_iv 0 0 r_56 := (gb_rU (lo := 0) (hi := 0) (gb_deq c_84854) h_84853 (gb_ic (a := 0) (by decide)) (by decide))
          exact gc_some ⟨hTs_55, (gb_iw (lo := (-2147483648)) (hi := 2147483647) (gb_ic (a := (-2)) (by decide)) (by decide))⟩
        · have j_84856 : gb_iv 1 1 r_56 := (gb_rN (lo := 1) (hi := 1) (v := 0) c_84854 h_84853 (by decide) (by decide))
          refine gc_if (fun c_84857 => ?_) (fun c_84857 => ?_)
          · have j_84858 : gb_iv (-2147483648) 0 p5 := (gb_rU (lo := (-2147483648)) (hi := 0) (gb_deq c_84857) (gb_it _) (gb_ic (a := 0) (by decide)) (by decide))
            have j_84859 : gb_iv 0 0 p5 := (gb_rL (lo := 0) (hi := 0) (gb_deq2 c_84857) j_84858 (gb_ic (a := 0) (by decide)) (by decide))
            refine gc_ck j_84848 (by decide) ?_
            refine gc_lti (lo := (-2147483648)) (hi := 2147483647) (gb_it _) (fun x_62 ex_62 ix_62 => ?_)
            exact gc_some ⟨hTs_55, (gb_it _)⟩
          · refine gc_if (fun c_84860 => ?_) (fun c_84860 => ?_)
            · have j_84861 : gb_iv (-2147483648) 1 p5 := (gb_rU (lo := (-2147483648)) (hi := 1) (gb_deq c_84860) (gb_it _) (gb_ic (a := 1) (by decide)) (by decide))
              have j_84862 : gb_iv 1 1 p5 := (gb_rL (lo := 1) (hi := 1) (gb_deq2 c_84860) j_84861 (gb_ic (a := 1) (by decide)) (by decide))
              refine gc_ck j_84848 (by decide) ?_
              refine gc_lti (lo := (-2147483648)) (hi := 2147483647) (gb_it _) (fun x_65 ex_65 ix_65 => ?_)
              exact gc_some ⟨hTs_55, (gb_it _)⟩
            · refine gc_if (fun c_84863 => ?_) (fun c_84863 => ?_)
              · have j_84864 : gb_iv (-2147483648) 2 p5 := (gb_rU (lo := (-2147483648)) (hi := 2) (gb_deq c_84863) (gb_it _) (gb_ic (a := 2) (by decide)) (by decide))
                have j_84865 : gb_iv 2 2 p5 := (gb_rL (lo := 2) (hi := 2) (gb_deq2 c_84863) j_84864 (gb_ic (a := 2) (by decide)) (by decide))
                refine gc_cdP (ct_Play_tally hn hTs_55 j_84848) (fun r_68 qr_68 h_84866 => ?_)
                exact gc_some ⟨hTs_55, (gb_iw (lo := (-2147483648)) (hi := 2147483647) h_84866 (by decide))⟩
              · refine gc_if (fun c_84867 => ?_) (fun c_84867 => ?_)
                · have j_84868 : gb_iv (-2147483648) 3 p5 := (gb_rU (lo := (-2147483648)) (hi := 3) (gb_deq c_84867) (gb_it _) (gb_ic (a := 3) (by decide)) (by decide))
                  have j_84869 : gb_iv 3 3 p5 := (gb_rL (lo := 3) (hi := 3) (gb_deq2 c_84867) j_84868 (gb_ic (a := 3) (by decide)) (by decide))
                  refine gc_cdP (ct_Play_tally hn hTs_55 j_84848) (fun r_73 qr_73 h_84870 => ?_)
                  refine gc_cdP (ct_Border_padded_B hn hTs_55 (Or.resolve_left h_84842 c_84843) j_84848) (fun r_77 qr_77 h_84871 => ?_)
                  exact gc_some ⟨hTs_55, (gb_it _)⟩
                · refine gc_if (fun c_84872 => ?_) (fun c_84872 => ?_)
                  · have j_84873 : gb_iv (-2147483648) 4 p5 := (gb_rU (lo := (-2147483648)) (hi := 4) (gb_deq c_84872) (gb_it _) (gb_ic (a := 4) (by decide)) (by decide))
                    have j_84874 : gb_iv 4 4 p5 := (gb_rL (lo := 4) (hi := 4) (gb_deq2 c_84872) j_84873 (gb_ic (a := 4) (by decide)) (by decide))
                    refine gc_cdP (ct_Play_tally hn hTs_55 j_84848) (fun r_82 qr_82 h_84875 => ?_)
                    refine gc_cdP (ct_Border_payOf_B hn hTs_55 (Or.resolve_left h_84842 c_84843) j_84848) (fun r_86 qr_86 h_84876 => ?_)
                    exact gc_some ⟨hTs_55, (gb_it _)⟩
                  · refine gc_if (fun c_84877 => ?_) (fun c_84877 => ?_)
                    · have j_84878 : gb_iv (-2147483648) 5 p5 := (gb_rU (lo := (-2147483648)) (hi := 5) (gb_deq c_84877) (gb_it _) (gb_ic (a := 5) (by decide)) (by decide))
                      have j_84879 : gb_iv 5 5 p5 := (gb_rL (lo := 5) (hi := 5) (gb_deq2 c_84877) j_84878 (gb_ic (a := 5) (by decide)) (by decide))
                      refine gc_ck j_84848 (by decide) ?_
                      refine gc_lti (lo := (-2147483648)) (hi := 2147483647) (gb_it _) (fun x_91 ex_91 ix_91 => ?_)
                      exact gc_some ⟨hTs_55, (gb_it _)⟩
                    · exact gc_some ⟨hTs_55, (gb_iw (lo := (-2147483648)) (hi := 2147483647) (gb_ic (a := (-2)) (by decide)) (by decide))⟩
set_option maxHeartbeats 4000000 in
theorem ct_Face_state {n : Nat} (hn : gb_N ≤ n) {σ : gb_S} {p1 : Int32} {p2 : Int32} {p3 : Int32} {p4 : Int32} (hT : gb_TC σ) : gb_tc (cs_Face_state n σ p1 p2 p3 p4) (fun s r => gb_TC s ∧ gb_iv (-2147483648) 2147483647 r) := by
  unfold cs_Face_state
  refine gc_cdP (ct_Face_borderAt hn hT) (fun r_2 qr_2 h_84931 => ?_)
  refine gc_if (fun c_84932 => ?_) (fun c_84932 => ?_)
  · exact gc_some ⟨hT, (gb_iw (lo := (-2147483648)) (hi := 2147483647) (gb_ic (a := (-2)) (by decide)) (by decide))⟩
  · refine gc_kk (Or.resolve_left h_84931 c_84932) ?_
    refine gc_cdP (ct_Face_nightAt hn hT) (fun r_8 qr_8 h_84933 => ?_)
    refine gc_if (fun c_84934 => ?_) (fun c_84934 => ?_)
    · refine gc_cdP (ct_Face_playedTo_B_n hn hT (Or.resolve_left h_84931 c_84932)) (fun r_13 qr_13 h_84935 => ?_)
      refine gc_if (fun c_84936 => ?_) (fun c_84936 => ?_)
      · exact gc_some ⟨hT, (gb_iw (lo := (-2147483648)) (hi := 2147483647) (gb_ic (a := (-2)) (by decide)) (by decide))⟩
      · exact (gb_em (gb_rN (lo := 1) (hi := (-1)) (v := 0) c_84936 h_84935 (by decide) (by decide)) (by decide)).elim
    · refine gc_kk (Or.resolve_left h_84933 c_84934) ?_
      refine gc_cdT (ct_Face_playedTo_B_N hn hT (Or.resolve_left h_84931 c_84932) (Or.resolve_left h_84933 c_84934)) (fun s_72 r_73 hTs_72 h_84937 => ?_)
      refine gc_if (fun c_84938 => ?_) (fun c_84938 => ?_)
      · have j_84939 : gb_iv 0 0 r_73 := (gb_rU (lo := 0) (hi := 0) (gb_deq c_84938) h_84937 (gb_ic (a := 0) (by decide)) (by decide))
        exact gc_some ⟨hTs_72, (gb_iw (lo := (-2147483648)) (hi := 2147483647) (gb_ic (a := (-2)) (by decide)) (by decide))⟩
      · have j_84940 : gb_iv 1 1 r_73 := (gb_rN (lo := 1) (hi := 1) (v := 0) c_84938 h_84937 (by decide) (by decide))
        refine gc_if (fun c_84941 => ?_) (fun c_84941 => ?_)
        · have j_84942 : gb_iv (-2147483648) 0 p4 := (gb_rU (lo := (-2147483648)) (hi := 0) (gb_deq c_84941) (gb_it _) (gb_ic (a := 0) (by decide)) (by decide))
          have j_84943 : gb_iv 0 0 p4 := (gb_rL (lo := 0) (hi := 0) (gb_deq2 c_84941) j_84942 (gb_ic (a := 0) (by decide)) (by decide))
          refine gc_cdP (ct_Play_whoIs hn hTs_72) (fun r_79 qr_79 h_84944 => ?_)
          exact gc_some ⟨hTs_72, (gb_iw (lo := (-2147483648)) (hi := 2147483647) h_84944 (by decide))⟩
        · refine gc_if (fun c_84945 => ?_) (fun c_84945 => ?_)
          · have j_84946 : gb_iv (-2147483648) 1 p4 := (gb_rU (lo := (-2147483648)) (hi := 1) (gb_deq c_84945) (gb_it _) (gb_ic (a := 1) (by decide)) (by decide))
            have j_84947 : gb_iv 1 1 p4 := (gb_rL (lo := 1) (hi := 1) (gb_deq2 c_84945) j_84946 (gb_ic (a := 1) (by decide)) (by decide))
            refine gc_cdP (ct_Play_whoIs hn hTs_72) (fun r_84 qr_84 h_84948 => ?_)
            exact gc_some ⟨hTs_72, (gb_iw (lo := (-2147483648)) (hi := 2147483647) h_84948 (by decide))⟩
          · refine gc_if (fun c_84949 => ?_) (fun c_84949 => ?_)
            · have j_84950 : gb_iv (-2147483648) 2 p4 := (gb_rU (lo := (-2147483648)) (hi := 2) (gb_deq c_84949) (gb_it _) (gb_ic (a := 2) (by decide)) (by decide))
              have j_84951 : gb_iv 2 2 p4 := (gb_rL (lo := 2) (hi := 2) (gb_deq2 c_84949) j_84950 (gb_ic (a := 2) (by decide)) (by decide))
              refine gc_cdP (ct_Play_whoIs hn hTs_72) (fun r_89 qr_89 h_84952 => ?_)
              exact gc_some ⟨hTs_72, (gb_iw (lo := (-2147483648)) (hi := 2147483647) h_84952 (by decide))⟩
            · refine gc_if (fun c_84953 => ?_) (fun c_84953 => ?_)
              · have j_84954 : gb_iv (-2147483648) 3 p4 := (gb_rU (lo := (-2147483648)) (hi := 3) (gb_deq c_84953) (gb_it _) (gb_ic (a := 3) (by decide)) (by decide))
                have j_84955 : gb_iv 3 3 p4 := (gb_rL (lo := 3) (hi := 3) (gb_deq2 c_84953) j_84954 (gb_ic (a := 3) (by decide)) (by decide))
                refine gc_cdP (ct_Play_whoIs hn hTs_72) (fun r_94 qr_94 h_84956 => ?_)
                refine gc_cdP (ct_Border_worthOf_B hn hTs_72 (Or.resolve_left h_84931 c_84932)) (fun r_98 qr_98 h_84957 => ?_)
                exact gc_some ⟨hTs_72, (gb_it _)⟩
              · refine gc_if (fun c_84958 => ?_) (fun c_84958 => ?_)
                · have j_84959 : gb_iv (-2147483648) 4 p4 := (gb_rU (lo := (-2147483648)) (hi := 4) (gb_deq c_84958) (gb_it _) (gb_ic (a := 4) (by decide)) (by decide))
                  have j_84960 : gb_iv 4 4 p4 := (gb_rL (lo := 4) (hi := 4) (gb_deq2 c_84958) j_84959 (gb_ic (a := 4) (by decide)) (by decide))
                  refine gc_cdP (ct_Play_whoIs hn hTs_72) (fun r_103 qr_103 h_84961 => ?_)
                  refine gc_cdP (ct_Border_worthOf_B hn hTs_72 (Or.resolve_left h_84931 c_84932)) (fun r_107 qr_107 h_84962 => ?_)
                  exact gc_some ⟨hTs_72, (gb_it _)⟩
                · refine gc_if (fun c_84963 => ?_) (fun c_84963 => ?_)
                  · have j_84964 : gb_iv (-2147483648) 5 p4 := (gb_rU (lo := (-2147483648)) (hi := 5) (gb_deq c_84963) (gb_it _) (gb_ic (a := 5) (by decide)) (by decide))
                    have j_84965 : gb_iv 5 5 p4 := (gb_rL (lo := 5) (hi := 5) (gb_deq2 c_84963) j_84964 (gb_ic (a := 5) (by decide)) (by decide))
                    refine gc_cdP (ct_Play_whoIs hn hTs_72) (fun r_112 qr_112 h_84966 => ?_)
                    refine gc_cdP (ct_Border_worthOf_B hn hTs_72 (Or.resolve_left h_84931 c_84932)) (fun r_116 qr_116 h_84967 => ?_)
                    exact gc_some ⟨hTs_72, (gb_it _)⟩
                  · refine gc_if (fun c_84968 => ?_) (fun c_84968 => ?_)
                    · have j_84969 : gb_iv (-2147483648) 6 p4 := (gb_rU (lo := (-2147483648)) (hi := 6) (gb_deq c_84968) (gb_it _) (gb_ic (a := 6) (by decide)) (by decide))
                      have j_84970 : gb_iv 6 6 p4 := (gb_rL (lo := 6) (hi := 6) (gb_deq2 c_84968) j_84969 (gb_ic (a := 6) (by decide)) (by decide))
                      refine gc_cdP (ct_Play_worn hn hTs_72) (fun r_121 qr_121 h_84971 => ?_)
                      exact gc_some ⟨hTs_72, (gb_iw (lo := (-2147483648)) (hi := 2147483647) h_84971 (by decide))⟩
                    · refine gc_if (fun c_84972 => ?_) (fun c_84972 => ?_)
                      · have j_84973 : gb_iv (-2147483648) 7 p4 := (gb_rU (lo := (-2147483648)) (hi := 7) (gb_deq c_84972) (gb_it _) (gb_ic (a := 7) (by decide)) (by decide))
                        have j_84974 : gb_iv 7 7 p4 := (gb_rL (lo := 7) (hi := 7) (gb_deq2 c_84972) j_84973 (gb_ic (a := 7) (by decide)) (by decide))
                        refine gc_cdP (ct_Play_allPay hn hTs_72) (fun r_126 qr_126 h_84975 => ?_)
                        exact gc_some ⟨hTs_72, (gb_it _)⟩
                      · refine gc_if (fun c_84976 => ?_) (fun c_84976 => ?_)
                        · have j_84977 : gb_iv (-2147483648) 8 p4 := (gb_rU (lo := (-2147483648)) (hi := 8) (gb_deq c_84976) (gb_it _) (gb_ic (a := 8) (by decide)) (by decide))
                          have j_84978 : gb_iv 8 8 p4 := (gb_rL (lo := 8) (hi := 8) (gb_deq2 c_84976) j_84977 (gb_ic (a := 8) (by decide)) (by decide))
                          refine gc_if (fun c_84979 => ?_) (fun c_84979 => ?_)
                          · have j_84980 : gb_iv (-2147483648) 0 (s_72.1 109 10) := (gb_rU (lo := (-2147483648)) (hi := 0) (gb_deq c_84979) (gb_it _) (gb_ic (a := 0) (by decide)) (by decide))
                            have j_84981 : gb_iv 0 0 (s_72.1 109 10) := (gb_rL (lo := 0) (hi := 0) (gb_deq2 c_84979) j_84980 (gb_ic (a := 0) (by decide)) (by decide))
                            exact gc_some ⟨hTs_72, (gb_iw (lo := (-2147483648)) (hi := 2147483647) (gb_ic (a := 0) (by decide)) (by decide))⟩
                          · exact gc_some ⟨hTs_72, (gb_iw (lo := (-2147483648)) (hi := 2147483647) (gb_ic (a := 1) (by decide)) (by decide))⟩
                        · exact gc_some ⟨hTs_72, (gb_iw (lo := (-2147483648)) (hi := 2147483647) (gb_ic (a := (-2)) (by decide)) (by decide))⟩
set_option maxHeartbeats 4000000 in
theorem ct_Face_rest_49 {n : Nat} (hn : gb_N ≤ n) {Q : gb_S → Int32 → Prop} (hret : ∀ (σ : gb_S) (r : Int32), gb_TC σ → gb_iv (-2147483648) 2147483647 r → Q σ r) : ∀ (mm : Nat) (σ : gb_S) (v3 : Int32) (v5 : Int32) (v6 : Int32) (v7 : Int32), gb_TC σ → gb_iv (-1) 2147483647 v3 → gb_iv 1 32 v5 → gb_iv (-2147483648) 2147483647 v6 → gb_iv 0 32 v7 → (32 - v7.toInt).toNat < mm → gb_tc (cs_Face_rest_49 n mm σ v3 v5 v6 v7) Q := by
  intro mm
  induction mm with
  | zero =>
    intro σ v3 v5 v6 v7 hT iv3 iv5 iv6 iv7 hm
    exact absurd hm (Nat.not_lt_zero _)
  | succ mm ih =>
    intro σ v3 v5 v6 v7 hT iv3 iv5 iv6 iv7 hm
    rw [cs_Face_rest_49]
    refine gc_if (fun c_85920 => ?_) (fun c_85920 => ?_)
    · have j_85921 : gb_iv 1 32 v7 := (gb_rL (lo := 1) (hi := 32) (gb_dle c_85920) iv7 iv5 (by decide))
      refine gc_if (fun c_85922 => ?_) (fun c_85922 => ?_)
      · have j_85923 : gb_iv (-1) (-1) v3 := (gb_rU (lo := (-1)) (hi := (-1)) (gb_deq c_85922) iv3 (gb_ic (a := (-1)) (by decide)) (by decide))
        exact gc_some (hret _ _ hT (gb_it _))
      · have j_85924 : gb_iv 0 2147483647 v3 := (gb_rN (lo := 0) (hi := 2147483647) (v := (-1)) c_85922 iv3 (by decide) (by decide))
        exact gc_some (hret _ _ hT (gb_iw (lo := (-2147483648)) (hi := 2147483647) (gb_ic (a := (-2)) (by decide)) (by decide)))
    · have j_85925 : gb_iv 0 31 v7 := (gb_rU (lo := 0) (hi := 31) (gb_dnle c_85920) iv7 iv5 (by decide))
      refine gc_cdP (ct_Play_isAtRest hn hT) (fun r_27 qr_27 h_85926 => ?_)
      refine gc_if (fun c_85927 => ?_) (fun c_85927 => ?_)
      · have j_85928 : gb_iv 0 0 r_27 := (gb_rU (lo := 0) (hi := 0) (gb_deq c_85927) h_85926 (gb_ic (a := 0) (by decide)) (by decide))
        refine gc_lti (lo := 1) (hi := 32) (gb_iadd (lo := 1) (hi := 32) j_85925 (gb_ic (a := 1) (by decide)) (by decide)) (fun x_31 ex_31 ix_31 => ?_)
        exact ih _ _ _ _ _ hT iv3 iv5 (gb_it _) (gb_iw (lo := 0) (hi := 32) ix_31 (by decide)) (gb_mup ex_31 j_85925 (by decide) hm)
      · have j_85929 : gb_iv 1 1 r_27 := (gb_rN (lo := 1) (hi := 1) (v := 0) c_85927 h_85926 (by decide) (by decide))
        refine gc_if (fun c_85930 => ?_) (fun c_85930 => ?_)
        · have j_85931 : gb_iv (-1) 2147483647 v6 := (gb_rL (lo := (-1)) (hi := 2147483647) (gb_deq2 c_85930) (gb_it _) iv3 (by decide))
          exact gc_some (hret _ _ hT (gb_iw (lo := (-2147483648)) (hi := 2147483647) j_85925 (by decide)))
        · refine gc_lti (lo := (-2147483648)) (hi := 2147483647) (gb_it _) (fun x_33 ex_33 ix_33 => ?_)
          refine gc_lti (lo := 1) (hi := 32) (gb_iadd (lo := 1) (hi := 32) j_85925 (gb_ic (a := 1) (by decide)) (by decide)) (fun x_34 ex_34 ix_34 => ?_)
          exact ih _ _ _ _ _ hT iv3 iv5 (gb_it _) (gb_iw (lo := 0) (hi := 32) ix_34 (by decide)) (gb_mup ex_34 j_85925 (by decide) hm)
set_option maxHeartbeats 4000000 in
theorem ct_Face_rest {n : Nat} (hn : gb_N ≤ n) {σ : gb_S} {p1 : Int32} {p2 : Int32} {p3 : Int32} (hT : gb_TC σ) : gb_tc (cs_Face_rest n σ p1 p2 p3) (fun s r => gb_TC s ∧ gb_iv (-2147483648) 2147483647 r) := by
  unfold cs_Face_rest
  refine gc_cdP (ct_Face_borderAt hn hT) (fun r_2 qr_2 h_85451 => ?_)
  refine gc_if (fun c_85452 => ?_) (fun c_85452 => ?_)
  · refine gc_if (fun c_85453 => ?_) (fun c_85453 => ?_)
    · have j_85454 : gb_iv (-2147483648) (-2) p3 := (gb_rU (lo := (-2147483648)) (hi := (-2)) (gb_dlt c_85453) (gb_it _) (gb_ic (a := (-1)) (by decide)) (by decide))
      exact gc_some ⟨hT, (gb_iw (lo := (-2147483648)) (hi := 2147483647) (gb_ic (a := (-2)) (by decide)) (by decide))⟩
    · have j_85455 : gb_iv (-1) 2147483647 p3 := (gb_rL (lo := (-1)) (hi := 2147483647) (gb_dnlt c_85453) (gb_it _) (gb_ic (a := (-1)) (by decide)) (by decide))
      exact gc_some ⟨hT, (gb_iw (lo := (-2147483648)) (hi := 2147483647) (gb_ic (a := (-2)) (by decide)) (by decide))⟩
  · refine gc_kk (Or.resolve_left h_85451 c_85452) ?_
    refine gc_if (fun c_85456 => ?_) (fun c_85456 => ?_)
    · have j_85457 : gb_iv (-2147483648) (-2) p3 := (gb_rU (lo := (-2147483648)) (hi := (-2)) (gb_dlt c_85456) (gb_it _) (gb_ic (a := (-1)) (by decide)) (by decide))
      exact gc_some ⟨hT, (gb_iw (lo := (-2147483648)) (hi := 2147483647) (gb_ic (a := (-2)) (by decide)) (by decide))⟩
    · have j_85458 : gb_iv (-1) 2147483647 p3 := (gb_rL (lo := (-1)) (hi := 2147483647) (gb_dnlt c_85456) (gb_it _) (gb_ic (a := (-1)) (by decide)) (by decide))
      refine gc_cdP (ct_Face_nightAt hn hT) (fun r_10 qr_10 h_85459 => ?_)
      refine gc_if (fun c_85460 => ?_) (fun c_85460 => ?_)
      · refine gc_cdP (ct_Face_playedOut_B_n hn hT (Or.resolve_left h_85451 c_85452)) (fun r_15 qr_15 h_85461 => ?_)
        refine gc_if (fun c_85462 => ?_) (fun c_85462 => ?_)
        · exact gc_some ⟨hT, (gb_iw (lo := (-2147483648)) (hi := 2147483647) (gb_ic (a := (-2)) (by decide)) (by decide))⟩
        · exact (gb_em (gb_rN (lo := 1) (hi := (-1)) (v := 0) c_85462 h_85461 (by decide) (by decide)) (by decide)).elim
      · refine gc_kk (Or.resolve_left h_85459 c_85460) ?_
        refine gc_cdT (ct_Face_playedOut_B_N hn hT (Or.resolve_left h_85451 c_85452) (Or.resolve_left h_85459 c_85460)) (fun s_36 r_37 hTs_36 h_85463 => ?_)
        refine gc_if (fun c_85464 => ?_) (fun c_85464 => ?_)
        · exact (gb_em (gb_rU (lo := 1) (hi := 0) (gb_deq c_85464) h_85463 (gb_ic (a := 0) (by decide)) (by decide)) (by decide)).elim
        · refine gc_cdP (ct_Border_paths_B hn hTs_36 (Or.resolve_left h_85451 c_85452)) (fun r_42 qr_42 h_85465 => ?_)
          refine gc_lti (lo := 1) (hi := 32) (gb_ishl (lo := 1) (hi := 32) h_85465 (by decide)) (fun x_45 ex_45 ix_45 => ?_)
          exact ct_Face_rest_49 hn (fun _ _ hT h => ⟨hT, h⟩) n _ _ _ _ _ hTs_36 j_85458 ix_45 (gb_iw (lo := (-2147483648)) (hi := 2147483647) (gb_ic (a := 0) (by decide)) (by decide)) (gb_iw (lo := 0) (hi := 32) (gb_ic (a := 0) (by decide)) (by decide)) (gb_fuu hn (gb_iw (lo := 0) (hi := 32) (gb_ic (a := 0) (by decide)) (by decide)) (by decide))
set_option maxHeartbeats 4000000 in
theorem ct_Face_take {n : Nat} (hn : gb_N ≤ n) {σ : gb_S} {p1 : Int32} {p2 : Int32} {p3 : Int32} {p4 : Int32} (hT : gb_TC σ) : gb_tc (cs_Face_take n σ p1 p2 p3 p4) (fun s r => gb_TC s ∧ gb_iv (-2147483648) 2147483647 r) := by
  unfold cs_Face_take
  refine gc_cdP (ct_Face_borderAt hn hT) (fun r_2 qr_2 h_85953 => ?_)
  refine gc_if (fun c_85954 => ?_) (fun c_85954 => ?_)
  · exact gc_some ⟨hT, (gb_iw (lo := (-2147483648)) (hi := 2147483647) (gb_ic (a := (-1)) (by decide)) (by decide))⟩
  · refine gc_kk (Or.resolve_left h_85953 c_85954) ?_
    refine gc_cdP (ct_Border_hasPath_B hn hT (Or.resolve_left h_85953 c_85954)) (fun r_8 qr_8 h_85955 => ?_)
    refine gc_if (fun c_85956 => ?_) (fun c_85956 => ?_)
    · have j_85957 : gb_iv 0 0 r_8 := (gb_rU (lo := 0) (hi := 0) (gb_deq c_85956) h_85955.1 (gb_ic (a := 0) (by decide)) (by decide))
      exact gc_some ⟨hT, (gb_iw (lo := (-2147483648)) (hi := 2147483647) (gb_ic (a := (-1)) (by decide)) (by decide))⟩
    · have j_85958 : gb_iv 1 1 r_8 := (gb_rN (lo := 1) (hi := 1) (v := 0) c_85956 h_85955.1 (by decide) (by decide))
      have j_85959 : gb_iv 0 4 p4 := (h_85955.2 c_85956)
      refine gc_if (fun c_85960 => ?_) (fun c_85960 => ?_)
      · have j_85961 : gb_iv (-2147483648) (-1) p3 := (gb_rU (lo := (-2147483648)) (hi := (-1)) (gb_dlt c_85960) (gb_it _) (gb_ic (a := 0) (by decide)) (by decide))
        exact gc_some ⟨hT, (gb_iw (lo := (-2147483648)) (hi := 2147483647) (gb_ic (a := (-1)) (by decide)) (by decide))⟩
      · have j_85962 : gb_iv 0 2147483647 p3 := (gb_rL (lo := 0) (hi := 2147483647) (gb_dnlt c_85960) (gb_it _) (gb_ic (a := 0) (by decide)) (by decide))
        refine gc_cdP (ct_Border_paths_B hn hT (Or.resolve_left h_85953 c_85954)) (fun r_14 qr_14 h_85963 => ?_)
        refine gc_if (fun c_85964 => ?_) (fun c_85964 => ?_)
        · have j_85965 : gb_iv 0 31 p3 := (gb_rU (lo := 0) (hi := 31) (gb_dlt c_85964) j_85962 (gb_ishl (lo := 1) (hi := 32) h_85963 (by decide)) (by decide))
          refine gc_cdP (ct_Face_nightAt hn hT) (fun r_19 qr_19 h_85966 => ?_)
          refine gc_if (fun c_85967 => ?_) (fun c_85967 => ?_)
          · refine gc_cdP (ct_Face_playedOut_B_n hn hT (Or.resolve_left h_85953 c_85954)) (fun r_24 qr_24 h_85968 => ?_)
            refine gc_if (fun c_85969 => ?_) (fun c_85969 => ?_)
            · exact gc_some ⟨hT, (gb_iw (lo := (-2147483648)) (hi := 2147483647) (gb_ic (a := (-1)) (by decide)) (by decide))⟩
            · exact (gb_em (gb_rN (lo := 1) (hi := (-1)) (v := 0) c_85969 h_85968 (by decide) (by decide)) (by decide)).elim
          · refine gc_kk (Or.resolve_left h_85966 c_85967) ?_
            refine gc_cdT (ct_Face_playedOut_B_N hn hT (Or.resolve_left h_85953 c_85954) (Or.resolve_left h_85966 c_85967)) (fun s_33 r_34 hTs_33 h_85970 => ?_)
            refine gc_if (fun c_85971 => ?_) (fun c_85971 => ?_)
            · exact (gb_em (gb_rU (lo := 1) (hi := 0) (gb_deq c_85971) h_85970 (gb_ic (a := 0) (by decide)) (by decide)) (by decide)).elim
            · refine gc_cdP (ct_Play_taken hn hTs_33 j_85959) (fun r_39 qr_39 h_85972 => ?_)
              exact gc_some ⟨hTs_33, (gb_it _)⟩
        · have j_85973 : gb_iv 1 2147483647 p3 := (gb_rL (lo := 1) (hi := 2147483647) (gb_dnlt c_85964) j_85962 (gb_ishl (lo := 1) (hi := 32) h_85963 (by decide)) (by decide))
          exact gc_some ⟨hT, (gb_iw (lo := (-2147483648)) (hi := 2147483647) (gb_ic (a := (-1)) (by decide)) (by decide))⟩
set_option maxHeartbeats 4000000 in
theorem ct_Face_honest {n : Nat} (hn : gb_N ≤ n) {σ : gb_S} {p1 : Int32} {p2 : Int32} {p3 : Int32} (hT : gb_TC σ) : gb_tc (cs_Face_honest n σ p1 p2 p3) (fun s r => gb_TC s ∧ gb_iv (-2147483648) 2147483647 r) := by
  unfold cs_Face_honest
  refine gc_cdP (ct_Face_borderAt hn hT) (fun r_2 qr_2 h_85990 => ?_)
  refine gc_if (fun c_85991 => ?_) (fun c_85991 => ?_)
  · exact gc_some ⟨hT, (gb_iw (lo := (-2147483648)) (hi := 2147483647) (gb_ic (a := (-1)) (by decide)) (by decide))⟩
  · refine gc_kk (Or.resolve_left h_85990 c_85991) ?_
    refine gc_cdP (ct_Border_hasPath_B hn hT (Or.resolve_left h_85990 c_85991)) (fun r_8 qr_8 h_85992 => ?_)
    refine gc_if (fun c_85993 => ?_) (fun c_85993 => ?_)
    · have j_85994 : gb_iv 0 0 r_8 := (gb_rU (lo := 0) (hi := 0) (gb_deq c_85993) h_85992.1 (gb_ic (a := 0) (by decide)) (by decide))
      exact gc_some ⟨hT, (gb_iw (lo := (-2147483648)) (hi := 2147483647) (gb_ic (a := (-1)) (by decide)) (by decide))⟩
    · have j_85995 : gb_iv 1 1 r_8 := (gb_rN (lo := 1) (hi := 1) (v := 0) c_85993 h_85992.1 (by decide) (by decide))
      have j_85996 : gb_iv 0 4 p3 := (h_85992.2 c_85993)
      refine gc_cdP (ct_Face_nightAt hn hT) (fun r_13 qr_13 h_85997 => ?_)
      refine gc_if (fun c_85998 => ?_) (fun c_85998 => ?_)
      · refine gc_cdP (ct_Face_playedOut_B_n hn hT (Or.resolve_left h_85990 c_85991)) (fun r_18 qr_18 h_85999 => ?_)
        refine gc_if (fun c_86000 => ?_) (fun c_86000 => ?_)
        · exact gc_some ⟨hT, (gb_iw (lo := (-2147483648)) (hi := 2147483647) (gb_ic (a := (-1)) (by decide)) (by decide))⟩
        · exact (gb_em (gb_rN (lo := 1) (hi := (-1)) (v := 0) c_86000 h_85999 (by decide) (by decide)) (by decide)).elim
      · refine gc_kk (Or.resolve_left h_85997 c_85998) ?_
        refine gc_cdT (ct_Face_playedOut_B_N hn hT (Or.resolve_left h_85990 c_85991) (Or.resolve_left h_85997 c_85998)) (fun s_35 r_36 hTs_35 h_86001 => ?_)
        refine gc_if (fun c_86002 => ?_) (fun c_86002 => ?_)
        · exact (gb_em (gb_rU (lo := 1) (hi := 0) (gb_deq c_86002) h_86001 (gb_ic (a := 0) (by decide)) (by decide)) (by decide)).elim
        · refine gc_cdP (ct_Play_tally hn hTs_35 j_85996) (fun r_41 qr_41 h_86003 => ?_)
          refine gc_cdP (ct_Border_payOf_B hn hTs_35 (Or.resolve_left h_85990 c_85991) j_85996) (fun r_45 qr_45 h_86004 => ?_)
          refine gc_cdP (ct_Border_rate_B hn hTs_35 (Or.resolve_left h_85990 c_85991) j_85996) (fun r_49 qr_49 h_86005 => ?_)
          exact gc_some ⟨hTs_35, (gb_it _)⟩
set_option maxHeartbeats 4000000 in
theorem ct_Face_lacks_46 {n : Nat} (hn : gb_N ≤ n) {Q : gb_S → Int32 → Prop} (hret : ∀ (σ : gb_S) (r : Int32), gb_TC σ → gb_iv (-1) 255 r → Q σ r) : ∀ (mm : Nat) (σ : gb_S) (v4 : Nat) (v5 : Nat) (v6 : Int32) (v7 : Int32), gb_TC σ → gb_kB v4 = true → gb_kD v5 = true → gb_iv 0 255 v6 → gb_iv 0 5 v7 → (5 - v7.toInt).toNat < mm → gb_tc (cs_Face_lacks_46 n mm σ v4 v5 v6 v7) Q := by
  intro mm
  induction mm with
  | zero =>
    intro σ v4 v5 v6 v7 hT hv4 hv5 iv6 iv7 hm
    exact absurd hm (Nat.not_lt_zero _)
  | succ mm ih =>
    intro σ v4 v5 v6 v7 hT hv4 hv5 iv6 iv7 hm
    rw [cs_Face_lacks_46]
    refine gc_kk hv4 ?_
    refine gc_kk hv5 ?_
    refine gc_cdP (ct_Border_paths_B hn hT hv4) (fun r_32 qr_32 h_86264 => ?_)
    refine gc_if (fun c_86265 => ?_) (fun c_86265 => ?_)
    · exact gc_some (hret _ _ hT (gb_iw (lo := (-1)) (hi := 255) iv6 (by decide)))
    · have j_86266 : gb_iv 0 4 v7 := (gb_rU (lo := 0) (hi := 4) (gb_dnle c_86265) iv7 h_86264 (by decide))
      have j_86267 : gb_iv 1 5 r_32 := (gb_rL (lo := 1) (hi := 5) (gb_dnle c_86265) h_86264 j_86266 (by decide))
      refine gc_cdP (ct_Dawn_leftOn_D hn hT hv5) (fun r_37 qr_37 h_86268 => ?_)
      refine gc_cdP (ct_Play_tally hn hT j_86266) (fun r_41 qr_41 h_86269 => ?_)
      refine gc_if (fun c_86270 => ?_) (fun c_86270 => ?_)
      · have j_86271 : gb_iv 0 2147483647 r_37 := (gb_rL (lo := 0) (hi := 2147483647) (gb_dle c_86270) (gb_it _) h_86269 (by decide))
        refine gc_lti (lo := 1) (hi := 5) (gb_iadd (lo := 1) (hi := 5) j_86266 (gb_ic (a := 1) (by decide)) (by decide)) (fun x_45 ex_45 ix_45 => ?_)
        exact ih _ _ _ _ _ hT hv4 hv5 iv6 (gb_iw (lo := 0) (hi := 5) ix_45 (by decide)) (gb_mup ex_45 j_86266 (by decide) hm)
      · have j_86272 : gb_iv (-2147483648) 2147483646 r_37 := (gb_rU (lo := (-2147483648)) (hi := 2147483646) (gb_dnle c_86270) (gb_it _) h_86269 (by decide))
        refine gc_lti (lo := 0) (hi := 255) (gb_ior iv6 (gb_iw (lo := 0) (hi := 255) (gb_ishl (lo := 1) (hi := 16) j_86266 (by decide)) (by decide))) (fun x_46 ex_46 ix_46 => ?_)
        refine gc_lti (lo := 1) (hi := 5) (gb_iadd (lo := 1) (hi := 5) j_86266 (gb_ic (a := 1) (by decide)) (by decide)) (fun x_47 ex_47 ix_47 => ?_)
        exact ih _ _ _ _ _ hT hv4 hv5 ix_46 (gb_iw (lo := 0) (hi := 5) ix_47 (by decide)) (gb_mup ex_47 j_86266 (by decide) hm)
set_option maxHeartbeats 4000000 in
theorem ct_Face_lacks {n : Nat} (hn : gb_N ≤ n) {σ : gb_S} {p1 : Int32} {p2 : Int32} {p3 : Int32} (hT : gb_TC σ) : gb_tc (cs_Face_lacks n σ p1 p2 p3) (fun s r => gb_TC s ∧ gb_iv (-1) 255 r) := by
  unfold cs_Face_lacks
  refine gc_cdP (ct_Face_borderAt hn hT) (fun r_2 qr_2 h_86135 => ?_)
  refine gc_if (fun c_86136 => ?_) (fun c_86136 => ?_)
  · refine gc_cdP (ct_Face_dawnAt hn hT) (fun r_7 qr_7 h_86137 => ?_)
    refine gc_if (fun c_86138 => ?_) (fun c_86138 => ?_)
    · exact gc_some ⟨hT, (gb_iw (lo := (-1)) (hi := 255) (gb_ic (a := (-1)) (by decide)) (by decide))⟩
    · refine gc_kk (Or.resolve_left h_86137 c_86138) ?_
      exact gc_some ⟨hT, (gb_iw (lo := (-1)) (hi := 255) (gb_ic (a := (-1)) (by decide)) (by decide))⟩
  · refine gc_kk (Or.resolve_left h_86135 c_86136) ?_
    refine gc_cdP (ct_Face_dawnAt hn hT) (fun r_14 qr_14 h_86139 => ?_)
    refine gc_if (fun c_86140 => ?_) (fun c_86140 => ?_)
    · exact gc_some ⟨hT, (gb_iw (lo := (-1)) (hi := 255) (gb_ic (a := (-1)) (by decide)) (by decide))⟩
    · refine gc_kk (Or.resolve_left h_86139 c_86140) ?_
      refine gc_cdP (ct_Face_nightAt hn hT) (fun r_20 qr_20 h_86141 => ?_)
      refine gc_if (fun c_86142 => ?_) (fun c_86142 => ?_)
      · refine gc_cdP (ct_Face_playedOut_B_n hn hT (Or.resolve_left h_86135 c_86136)) (fun r_25 qr_25 h_86143 => ?_)
        refine gc_if (fun c_86144 => ?_) (fun c_86144 => ?_)
        · exact gc_some ⟨hT, (gb_iw (lo := (-1)) (hi := 255) (gb_ic (a := (-1)) (by decide)) (by decide))⟩
        · exact (gb_em (gb_rN (lo := 1) (hi := (-1)) (v := 0) c_86144 h_86143 (by decide) (by decide)) (by decide)).elim
      · refine gc_kk (Or.resolve_left h_86141 c_86142) ?_
        refine gc_cdT (ct_Face_playedOut_B_N hn hT (Or.resolve_left h_86135 c_86136) (Or.resolve_left h_86141 c_86142)) (fun s_49 r_50 hTs_49 h_86145 => ?_)
        refine gc_if (fun c_86146 => ?_) (fun c_86146 => ?_)
        · exact (gb_em (gb_rU (lo := 1) (hi := 0) (gb_deq c_86146) h_86145 (gb_ic (a := 0) (by decide)) (by decide)) (by decide)).elim
        · exact ct_Face_lacks_46 hn (fun _ _ hT h => ⟨hT, h⟩) n _ _ _ _ _ hTs_49 (Or.resolve_left h_86135 c_86136) (Or.resolve_left h_86139 c_86140) (gb_iw (lo := 0) (hi := 255) (gb_ic (a := 0) (by decide)) (by decide)) (gb_iw (lo := 0) (hi := 5) (gb_ic (a := 0) (by decide)) (by decide)) (gb_fuu hn (gb_iw (lo := 0) (hi := 5) (gb_ic (a := 0) (by decide)) (by decide)) (by decide))
set_option maxHeartbeats 4000000 in
theorem ct_Face_who_58 {n : Nat} (hn : gb_N ≤ n) {Q : gb_S → Int32 → Prop} (hret : ∀ (σ : gb_S) (r : Int32), gb_TC σ → gb_iv (-1) 23 r → Q σ r) : ∀ (mm : Nat) (σ : gb_S) (v3 : Int32) (v4 : Int32) (v5 : Nat) (v6 : Nat) (v7 : Int32) (v8 : Int32), gb_TC σ → gb_kB v5 = true → gb_kN v6 = true → gb_iv 0 4 v3 → gb_iv (-2147483648) 2147483647 v4 → gb_iv 0 24 v7 → gb_iv 0 24 v8 → (24 - v8.toInt).toNat < mm → gb_tc (cs_Face_who_58 n mm σ v3 v4 v5 v6 v7 v8) Q := by
  intro mm
  induction mm with
  | zero =>
    intro σ v3 v4 v5 v6 v7 v8 hT hv5 hv6 iv3 iv4 iv7 iv8 hm
    exact absurd hm (Nat.not_lt_zero _)
  | succ mm ih =>
    intro σ v3 v4 v5 v6 v7 v8 hT hv5 hv6 iv3 iv4 iv7 iv8 hm
    rw [cs_Face_who_58]
    refine gc_kk hv5 ?_
    refine gc_kk hv6 ?_
    refine gc_if (fun c_86959 => ?_) (fun c_86959 => ?_)
    · exact gc_some (hret _ _ hT (gb_iw (lo := (-1)) (hi := 23) (gb_ic (a := (-1)) (by decide)) (by decide)))
    · have j_86960 : gb_iv 0 23 v8 := (gb_rU (lo := 0) (hi := 23) (gb_dnle c_86959) iv8 iv7 (by decide))
      have j_86961 : gb_iv 1 24 v7 := (gb_rL (lo := 1) (hi := 24) (gb_dnle c_86959) iv7 j_86960 (by decide))
      refine gc_cdP (ct_Lines_kind_N hn hT hv6 j_86960) (fun r_34 qr_34 h_86962 => ?_)
      refine gc_if (fun c_86963 => ?_) (fun c_86963 => ?_)
      · have j_86964 : gb_iv (-2147483648) 0 r_34 := (gb_rU (lo := (-2147483648)) (hi := 0) (gb_deq c_86963) (gb_it _) (gb_ic (a := 0) (by decide)) (by decide))
        have j_86965 : gb_iv 0 0 r_34 := (gb_rL (lo := 0) (hi := 0) (gb_deq2 c_86963) j_86964 (gb_ic (a := 0) (by decide)) (by decide))
        refine gc_cdP (ct_Lines_cell_N hn hT hv6 j_86960 (gb_iw (lo := 0) (hi := 3) (gb_ic (a := 2) (by decide)) (by decide))) (fun r_40 qr_40 h_86966 => ?_)
        refine gc_if (fun c_86967 => ?_) (fun c_86967 => ?_)
        · have j_86968 : gb_iv (-2147483648) 4 r_40 := (gb_rU (lo := (-2147483648)) (hi := 4) (gb_deq c_86967) (gb_it _) iv3 (by decide))
          have j_86969 : gb_iv 0 4 r_40 := (gb_rL (lo := 0) (hi := 4) (gb_deq2 c_86967) j_86968 iv3 (by decide))
          refine gc_cdT (ct_Play_run_B_N hn hT hv5 hv6) (fun s_45 u_86970 hTs_45 _ => ?_)
          refine gc_cdP (ct_Play_tally hn hTs_45 iv3) (fun r_50 qr_50 h_86971 => ?_)
          refine gc_if (fun c_86972 => ?_) (fun c_86972 => ?_)
          · have j_86973 : gb_iv 0 2147483647 v4 := (gb_rL (lo := 0) (hi := 2147483647) (gb_deq c_86972) (gb_it _) h_86971 (by decide))
            exact gc_some (hret _ _ hTs_45 (gb_iw (lo := (-1)) (hi := 23) j_86960 (by decide)))
          · refine gc_lti (lo := 1) (hi := 24) (gb_iadd (lo := 1) (hi := 24) j_86960 (gb_ic (a := 1) (by decide)) (by decide)) (fun x_54 ex_54 ix_54 => ?_)
            exact ih _ _ _ _ _ _ _ hTs_45 hv5 hv6 iv3 (gb_it _) (gb_iw (lo := 0) (hi := 24) j_86961 (by decide)) (gb_iw (lo := 0) (hi := 24) ix_54 (by decide)) (gb_mup ex_54 j_86960 (by decide) hm)
        · refine gc_lti (lo := 1) (hi := 24) (gb_iadd (lo := 1) (hi := 24) j_86960 (gb_ic (a := 1) (by decide)) (by decide)) (fun x_44 ex_44 ix_44 => ?_)
          exact ih _ _ _ _ _ _ _ hT hv5 hv6 iv3 (gb_it _) (gb_iw (lo := 0) (hi := 24) j_86961 (by decide)) (gb_iw (lo := 0) (hi := 24) ix_44 (by decide)) (gb_mup ex_44 j_86960 (by decide) hm)
      · refine gc_lti (lo := 1) (hi := 24) (gb_iadd (lo := 1) (hi := 24) j_86960 (gb_ic (a := 1) (by decide)) (by decide)) (fun x_38 ex_38 ix_38 => ?_)
        exact ih _ _ _ _ _ _ _ hT hv5 hv6 iv3 (gb_it _) (gb_iw (lo := 0) (hi := 24) j_86961 (by decide)) (gb_iw (lo := 0) (hi := 24) ix_38 (by decide)) (gb_mup ex_38 j_86960 (by decide) hm)
set_option maxHeartbeats 4000000 in
theorem ct_Face_who {n : Nat} (hn : gb_N ≤ n) {σ : gb_S} {p1 : Int32} {p2 : Int32} {p3 : Int32} {p4 : Int32} (hT : gb_TC σ) : gb_tc (cs_Face_who n σ p1 p2 p3 p4) (fun s r => gb_TC s ∧ gb_iv (-1) 23 r) := by
  unfold cs_Face_who
  refine gc_cdP (ct_Face_borderAt hn hT) (fun r_2 qr_2 h_86616 => ?_)
  refine gc_if (fun c_86617 => ?_) (fun c_86617 => ?_)
  · refine gc_cdP (ct_Face_nightAt hn hT) (fun r_7 qr_7 h_86618 => ?_)
    refine gc_if (fun c_86619 => ?_) (fun c_86619 => ?_)
    · exact gc_some ⟨hT, (gb_iw (lo := (-1)) (hi := 23) (gb_ic (a := (-1)) (by decide)) (by decide))⟩
    · refine gc_kk (Or.resolve_left h_86618 c_86619) ?_
      exact gc_some ⟨hT, (gb_iw (lo := (-1)) (hi := 23) (gb_ic (a := (-1)) (by decide)) (by decide))⟩
  · refine gc_kk (Or.resolve_left h_86616 c_86617) ?_
    refine gc_cdP (ct_Face_nightAt hn hT) (fun r_14 qr_14 h_86620 => ?_)
    refine gc_if (fun c_86621 => ?_) (fun c_86621 => ?_)
    · exact gc_some ⟨hT, (gb_iw (lo := (-1)) (hi := 23) (gb_ic (a := (-1)) (by decide)) (by decide))⟩
    · refine gc_kk (Or.resolve_left h_86620 c_86621) ?_
      refine gc_cdP (ct_Border_hasPath_B hn hT (Or.resolve_left h_86616 c_86617)) (fun r_20 qr_20 h_86622 => ?_)
      refine gc_if (fun c_86623 => ?_) (fun c_86623 => ?_)
      · have j_86624 : gb_iv 0 0 r_20 := (gb_rU (lo := 0) (hi := 0) (gb_deq c_86623) h_86622.1 (gb_ic (a := 0) (by decide)) (by decide))
        exact gc_some ⟨hT, (gb_iw (lo := (-1)) (hi := 23) (gb_ic (a := (-1)) (by decide)) (by decide))⟩
      · have j_86625 : gb_iv 1 1 r_20 := (gb_rN (lo := 1) (hi := 1) (v := 0) c_86623 h_86622.1 (by decide) (by decide))
        have j_86626 : gb_iv 0 4 p3 := (h_86622.2 c_86623)
        refine gc_cdT (ct_Face_playedOut_B_N hn hT (Or.resolve_left h_86616 c_86617) (Or.resolve_left h_86620 c_86621)) (fun s_24 r_25 hTs_24 h_86627 => ?_)
        refine gc_if (fun c_86628 => ?_) (fun c_86628 => ?_)
        · exact (gb_em (gb_rU (lo := 1) (hi := 0) (gb_deq c_86628) h_86627 (gb_ic (a := 0) (by decide)) (by decide)) (by decide)).elim
        · refine gc_lti (lo := 0) (hi := 24) (gc_rd (c := 10) (lo := 0) (hi := 24) hTs_24 (rfl : gc_cat 109 = 10) (by decide)) (fun x_29 ex_29 ix_29 => ?_)
          exact ct_Face_who_58 hn (fun _ _ hT h => ⟨hT, h⟩) n _ _ _ _ _ _ _ hTs_24 (Or.resolve_left h_86616 c_86617) (Or.resolve_left h_86620 c_86621) j_86626 (gb_it _) ix_29 (gb_iw (lo := 0) (hi := 24) (gb_ic (a := 0) (by decide)) (by decide)) (gb_fuu hn (gb_iw (lo := 0) (hi := 24) (gb_ic (a := 0) (by decide)) (by decide)) (by decide))
set_option maxHeartbeats 4000000 in
theorem ct_Sheet_copyFrom_N_N {n : Nat} (hn : gb_N ≤ n) {σ : gb_S} {k0 : Nat} {p1 : Nat} (hT : gb_TC σ) (hk0 : gb_kN k0 = true) (hp1 : gb_kN p1 = true) : gb_tc (cs_Sheet_copyFrom_N_N n σ k0 p1) (fun s _ => gb_TC s ∧ True) := by
  unfold cs_Sheet_copyFrom_N_N
  refine gc_kk hk0 ?_
  refine gc_kk hp1 ?_
  refine gc_lti (lo := 97) (hi := 97) (gb_imin (lo := 97) (hi := 97) (gb_ic (a := 97) (by decide)) (gb_ic (a := 97) (by decide)) (by decide)) (fun x_3 ex_3 ix_3 => ?_)
  refine gc_ac (gb_ic (a := 0) (by decide)) (gb_ic (a := 0) (by decide)) ix_3 (by decide) ?_
  refine gc_ltT (gc_cpy hT (gc_catN hk0) (gc_catN hp1)) (fun s_5 es_5 hTs_5 => ?_)
  exact gc_some ⟨hTs_5, trivial⟩
set_option maxHeartbeats 4000000 in
theorem ct_Face_shift_61 {n : Nat} (hn : gb_N ≤ n) {Q : gb_S → Int32 → Prop} (hret : ∀ (σ : gb_S) (r : Int32), gb_TC σ → gb_iv (-2147483648) 2147483647 r → Q σ r) : ∀ (mm : Nat) (σ : gb_S) (v3 : Int32) (v4 : Nat) (v5 : Nat) (v6 : Int32) (v7 : Int32) (v8 : Int32) (v9 : Int32), gb_TC σ → gb_kB v4 = true → gb_kN v5 = true → gb_iv (-2147483648) 2147483647 v3 → gb_iv 0 24 v6 → gb_iv (-2147483648) 2147483647 v7 → gb_iv (-1) 23 v8 → gb_iv 0 23 v9 → (23 - v9.toInt).toNat < mm → gb_tc (cs_Face_shift_61 n mm σ v3 v4 v5 v6 v7 v8 v9) Q := by
  intro mm
  induction mm with
  | zero =>
    intro σ v3 v4 v5 v6 v7 v8 v9 hT hv4 hv5 iv3 iv6 iv7 iv8 iv9 hm
    exact absurd hm (Nat.not_lt_zero _)
  | succ mm ih =>
    intro σ v3 v4 v5 v6 v7 v8 v9 hT hv4 hv5 iv3 iv6 iv7 iv8 iv9 hm
    rw [cs_Face_shift_61]
    refine gc_kk hv4 ?_
    refine gc_kk hv5 ?_
    refine gc_if (fun c_87886 => ?_) (fun c_87886 => ?_)
    · refine gc_if (fun c_87887 => ?_) (fun c_87887 => ?_)
      · have j_87888 : gb_iv (-2147483648) 0 v3 := (gb_rU (lo := (-2147483648)) (hi := 0) (gb_deq c_87887) (gb_it _) (gb_ic (a := 0) (by decide)) (by decide))
        have j_87889 : gb_iv 0 0 v3 := (gb_rL (lo := 0) (hi := 0) (gb_deq2 c_87887) j_87888 (gb_ic (a := 0) (by decide)) (by decide))
        exact gc_some (hret _ _ hT (gb_iw (lo := (-2147483648)) (hi := 2147483647) iv8 (by decide)))
      · refine gc_if (fun c_87890 => ?_) (fun c_87890 => ?_)
        · have j_87891 : gb_iv (-1) (-1) v8 := (gb_rU (lo := (-1)) (hi := (-1)) (gb_deq c_87890) iv8 (gb_ic (a := (-1)) (by decide)) (by decide))
          exact gc_some (hret _ _ hT (gb_iw (lo := (-2147483648)) (hi := 2147483647) j_87891 (by decide)))
        · have j_87892 : gb_iv 0 23 v8 := (gb_rN (lo := 0) (hi := 23) (v := (-1)) c_87890 iv8 (by decide) (by decide))
          exact gc_some (hret _ _ hT (gb_it _))
    · have j_87893 : gb_iv 1 23 (v9 + 1) := (gb_rU (lo := 1) (hi := 23) (gb_dnle c_87886) (gb_iadd (lo := 1) (hi := 24) iv9 (gb_ic (a := 1) (by decide)) (by decide)) iv6 (by decide))
      have j_87894 : gb_iv 0 22 v9 := (gb_vadd (lo := 0) (hi := 22) (v := 1) j_87893 (by decide) (by decide))
      have j_87895 : gb_iv 2 24 v6 := (gb_rL (lo := 2) (hi := 24) (gb_dnle c_87886) iv6 (gb_iadd (lo := 1) (hi := 23) j_87894 (gb_ic (a := 1) (by decide)) (by decide)) (by decide))
      refine gc_cdT (ct_Sheet_copyFrom_N_N hn hT (rfl : gb_kN 104 = true) hv5) (fun s_34 u_87896 hTs_34 _ => ?_)
      refine gc_cdT (ct_Night_changeWithNext hn hTs_34 j_87894) (fun s_38 u_87897 hTs_38 _ => ?_)
      refine gc_cdP (ct_Lines_size hn hTs_38) (fun r_43 qr_43 h_87898 => ?_)
      refine gc_cdT (ct_Play_run_B_c104 hn hTs_38 hv4) (fun s_46 u_87899 hTs_46 _ => ?_)
      refine gc_if (fun c_87900 => ?_) (fun c_87900 => ?_)
      · have j_87901 : gb_iv 0 23 (s_46.1 109 11) := (gb_rU (lo := 0) (hi := 23) (gb_dlt c_87900) (gc_rd (c := 10) (lo := 0) (hi := 24) hTs_46 (rfl : gc_cat 109 = 10) (by decide)) j_87895 (by decide))
        refine gc_lti (lo := 1) (hi := 23) (gb_iadd (lo := 1) (hi := 23) j_87894 (gb_ic (a := 1) (by decide)) (by decide)) (fun x_51 ex_51 ix_51 => ?_)
        exact ih _ _ _ _ _ _ _ _ hTs_46 hv4 hv5 (gb_it _) (gb_iw (lo := 0) (hi := 24) j_87895 (by decide)) (gb_it _) iv8 (gb_iw (lo := 0) (hi := 23) ix_51 (by decide)) (gb_mup ex_51 j_87894 (by decide) hm)
      · have j_87902 : gb_iv 2 24 (s_46.1 109 11) := (gb_rL (lo := 2) (hi := 24) (gb_dnlt c_87900) (gc_rd (c := 10) (lo := 0) (hi := 24) hTs_46 (rfl : gc_cat 109 = 10) (by decide)) j_87895 (by decide))
        refine gc_cdP (ct_Play_allPay hn hTs_46) (fun r_53 qr_53 h_87903 => ?_)
        refine gc_if (fun c_87904 => ?_) (fun c_87904 => ?_)
        · refine gc_lti (lo := 1) (hi := 23) (gb_iadd (lo := 1) (hi := 23) j_87894 (gb_ic (a := 1) (by decide)) (by decide)) (fun x_57 ex_57 ix_57 => ?_)
          exact ih _ _ _ _ _ _ _ _ hTs_46 hv4 hv5 (gb_it _) (gb_iw (lo := 0) (hi := 24) j_87895 (by decide)) (gb_it _) iv8 (gb_iw (lo := 0) (hi := 23) ix_57 (by decide)) (gb_mup ex_57 j_87894 (by decide) hm)
        · have j_87905 : gb_iv (-2147483648) 2147483646 v7 := (gb_rU (lo := (-2147483648)) (hi := 2147483646) (gb_dnle c_87904) (gb_it _) (gb_it _) (by decide))
          have j_87906 : gb_iv (-2147483647) 2147483647 r_53 := (gb_rL (lo := (-2147483647)) (hi := 2147483647) (gb_dnle c_87904) (gb_it _) j_87905 (by decide))
          refine gc_cdE qr_53 ?_
          refine gc_lti (lo := 1) (hi := 23) (gb_iadd (lo := 1) (hi := 23) j_87894 (gb_ic (a := 1) (by decide)) (by decide)) (fun x_62 ex_62 ix_62 => ?_)
          exact ih _ _ _ _ _ _ _ _ hTs_46 hv4 hv5 (gb_it _) (gb_iw (lo := 0) (hi := 24) j_87895 (by decide)) (gb_iw (lo := (-2147483648)) (hi := 2147483647) j_87906 (by decide)) (gb_iw (lo := (-1)) (hi := 23) j_87894 (by decide)) (gb_iw (lo := 0) (hi := 23) ix_62 (by decide)) (gb_mup ex_62 j_87894 (by decide) hm)
set_option maxHeartbeats 4000000 in
theorem ct_Face_shift {n : Nat} (hn : gb_N ≤ n) {σ : gb_S} {p1 : Int32} {p2 : Int32} {p3 : Int32} (hT : gb_TC σ) : gb_tc (cs_Face_shift n σ p1 p2 p3) (fun s r => gb_TC s ∧ gb_iv (-2147483648) 2147483647 r) := by
  unfold cs_Face_shift
  refine gc_cdP (ct_Face_borderAt hn hT) (fun r_2 qr_2 h_87430 => ?_)
  refine gc_if (fun c_87431 => ?_) (fun c_87431 => ?_)
  · refine gc_cdP (ct_Face_nightAt hn hT) (fun r_7 qr_7 h_87432 => ?_)
    refine gc_if (fun c_87433 => ?_) (fun c_87433 => ?_)
    · exact gc_some ⟨hT, (gb_iw (lo := (-2147483648)) (hi := 2147483647) (gb_ic (a := (-1)) (by decide)) (by decide))⟩
    · refine gc_kk (Or.resolve_left h_87432 c_87433) ?_
      exact gc_some ⟨hT, (gb_iw (lo := (-2147483648)) (hi := 2147483647) (gb_ic (a := (-1)) (by decide)) (by decide))⟩
  · refine gc_kk (Or.resolve_left h_87430 c_87431) ?_
    refine gc_cdP (ct_Face_nightAt hn hT) (fun r_14 qr_14 h_87434 => ?_)
    refine gc_if (fun c_87435 => ?_) (fun c_87435 => ?_)
    · exact gc_some ⟨hT, (gb_iw (lo := (-2147483648)) (hi := 2147483647) (gb_ic (a := (-1)) (by decide)) (by decide))⟩
    · refine gc_kk (Or.resolve_left h_87434 c_87435) ?_
      refine gc_cdT (ct_Face_playedOut_B_N hn hT (Or.resolve_left h_87430 c_87431) (Or.resolve_left h_87434 c_87435)) (fun s_19 r_20 hTs_19 h_87436 => ?_)
      refine gc_if (fun c_87437 => ?_) (fun c_87437 => ?_)
      · exact (gb_em (gb_rU (lo := 1) (hi := 0) (gb_deq c_87437) h_87436 (gb_ic (a := 0) (by decide)) (by decide)) (by decide)).elim
      · refine gc_lti (lo := 0) (hi := 24) (gc_rd (c := 10) (lo := 0) (hi := 24) hTs_19 (rfl : gc_cat 109 = 10) (by decide)) (fun x_24 ex_24 ix_24 => ?_)
        refine gc_cdP (ct_Play_allPay hn hTs_19) (fun r_26 qr_26 h_87438 => ?_)
        exact ct_Face_shift_61 hn (fun _ _ hT h => ⟨hT, h⟩) n _ _ _ _ _ _ _ _ hTs_19 (Or.resolve_left h_87430 c_87431) (Or.resolve_left h_87434 c_87435) (gb_it _) ix_24 (gb_it _) (gb_iw (lo := (-1)) (hi := 23) (gb_ic (a := (-1)) (by decide)) (by decide)) (gb_iw (lo := 0) (hi := 23) (gb_ic (a := 0) (by decide)) (by decide)) (gb_fuu hn (gb_iw (lo := 0) (hi := 23) (gb_ic (a := 0) (by decide)) (by decide)) (by decide))
set_option maxHeartbeats 4000000 in
theorem ct_numberBelow5 {n : Nat} (hn : gb_N ≤ n) {σ : gb_S} {p1 : Int32} (hT : gb_TC σ) (ip1 : gb_iv 1 5 p1) : gb_tc (cs_Face_numberBelow n σ p1) (fun s r => gb_TC s ∧ gb_iv 0 4 r) := by
  unfold cs_Face_numberBelow
  refine gc_ltT (gc_su0 hT (rfl : gc_cat 0 = 0)) (fun s_1 es_1 hTs_1 => ?_)
  refine gc_if (fun c_87908 => ?_) (fun c_87908 => ?_)
  · exact (gb_em (gb_rU (lo := 1) (hi := 0) (gb_dle c_87908) ip1 (gb_ic (a := 0) (by decide)) (by decide)) (by decide)).elim
  · refine gc_nz ip1 (by decide) ?_
    refine gc_lti (lo := 0) (hi := 4) (gb_irem (lo := 0) (hi := 4) (gb_iushr _) ip1 (by decide)) (fun x_4 ex_4 ix_4 => ?_)
    exact gc_some ⟨hTs_1, ix_4⟩
