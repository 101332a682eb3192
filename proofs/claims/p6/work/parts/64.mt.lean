/-! THE REFERENCE: methods that run nights -/
set_option maxHeartbeats 4000000 in
theorem mt_stop {n : Nat} (hn : gb_N ≤ n) {f : gb_F} {w : Int64} {p1 : Int32} {p2 : Int32} (hT : gb_TM f) : gb_tm (ms_stop n f w p1 p2) (fun f2 _ r => gb_TM f2 ∧ gb_iv (-1) 24 r) := by
  have hX := gb_XKr hT
  unfold ms_stop
  refine gm_bdT (mt_areTold hX.1) (fun f_1 wl_2 r_3 hXf_1 h_3351883 => ?_)
  refine gm_if (fun c_3351884 => ?_) (fun c_3351884 => ?_)
  · have j_3351885 : gb_iv 0 0 r_3 := (gb_rU (lo := 0) (hi := 0) (gb_deq c_3351884) h_3351883.1 (gb_ic (a := 0) (by decide)) (by decide))
    exact gm_some ⟨hXf_1.1, (gb_iw (lo := (-1)) (hi := 24) (gb_ic (a := (-1)) (by decide)) (by decide))⟩
  · have j_3351886 : gb_iv 1 1 r_3 := (gb_rN (lo := 1) (hi := 1) (v := 0) c_3351884 h_3351883.1 (by decide) (by decide))
    have hF_3351887 := (h_3351883.2 c_3351884)
    refine gm_bdK hXf_1 (mt_runs hn hXf_1.1 (gb_NNx hXf_1 hF_3351887)) (fun f_7 wl_8 u_3351888 hXf_7 _ => ?_)
    exact gm_some ⟨hXf_7.1, (gb_iw (lo := (-1)) (hi := 24) (gb_i23 hXf_7.1) (by decide))⟩
set_option maxHeartbeats 4000000 in
theorem mt_isState {n : Nat} (hn : gb_N ≤ n) {f : gb_F} {w : Int64} {p1 : Int32} {p2 : Int32} {p3 : Int32} (hT : gb_TM f) : gb_tm (ms_isState n f w p1 p2 p3) (fun f2 _ r => gb_TM f2 ∧ gb_iv 0 1 r) := by
  have hX := gb_XKr hT
  unfold ms_isState
  refine gm_bdT (mt_areTold hX.1) (fun f_1 wl_2 r_3 hXf_1 h_3351900 => ?_)
  refine gm_if (fun c_3351901 => ?_) (fun c_3351901 => ?_)
  · have j_3351902 : gb_iv 0 0 r_3 := (gb_rU (lo := 0) (hi := 0) (gb_deq c_3351901) h_3351900.1 (gb_ic (a := 0) (by decide)) (by decide))
    exact gm_some ⟨hXf_1.1, (gb_iw (lo := 0) (hi := 1) (gb_ic (a := 0) (by decide)) (by decide))⟩
  · have j_3351903 : gb_iv 1 1 r_3 := (gb_rN (lo := 1) (hi := 1) (v := 0) c_3351901 h_3351900.1 (by decide) (by decide))
    have hF_3351904 := (h_3351900.2 c_3351901)
    refine gm_if (fun c_3351905 => ?_) (fun c_3351905 => ?_)
    · have j_3351906 : gb_iv 0 2147483647 p3 := (gb_rL (lo := 0) (hi := 2147483647) (gb_dle c_3351905) (gb_it _) (gb_ic (a := 0) (by decide)) (by decide))
      refine gm_bdK hXf_1 (mt_runs hn hXf_1.1 (gb_NNx hXf_1 hF_3351904)) (fun f_8 wl_9 u_3351907 hXf_8 _ => ?_)
      refine gm_if (fun c_3351908 => ?_) (fun c_3351908 => ?_)
      · have j_3351909 : gb_iv 0 24 p3 := (gb_rU (lo := 0) (hi := 24) (gb_deq2 c_3351908) j_3351906 (gb_i23 hXf_8.1) (by decide))
        exact gm_some ⟨hXf_8.1, (gb_iw (lo := 0) (hi := 1) (gb_ic (a := 1) (by decide)) (by decide))⟩
      · exact gm_some ⟨hXf_8.1, (gb_iw (lo := 0) (hi := 1) (gb_ic (a := 0) (by decide)) (by decide))⟩
    · have j_3351910 : gb_iv (-2147483648) (-1) p3 := (gb_rU (lo := (-2147483648)) (hi := (-1)) (gb_dnle c_3351905) (gb_it _) (gb_ic (a := 0) (by decide)) (by decide))
      exact gm_some ⟨hXf_1.1, (gb_iw (lo := 0) (hi := 1) (gb_ic (a := 0) (by decide)) (by decide))⟩
set_option maxHeartbeats 4000000 in
theorem mt_goose {n : Nat} (hn : gb_N ≤ n) {f : gb_F} {w : Int64} {p1 : Int32} {p2 : Int32} {p3 : Int32} {p4 : Int32} {p5 : Int32} (hT : gb_TM f) : gb_tm (ms_goose n f w p1 p2 p3 p4 p5) (fun f2 _ r => gb_TM f2 ∧ gb_iv (-2147483648) 2147483647 r) := by
  have hX := gb_XKr hT
  unfold ms_goose
  refine gm_bdT (mt_isState hn hX.1) (fun f_1 wl_2 r_3 hXf_1 h_3351932 => ?_)
  refine gm_if (fun c_3351933 => ?_) (fun c_3351933 => ?_)
  · have j_3351934 : gb_iv 0 0 r_3 := (gb_rU (lo := 0) (hi := 0) (gb_deq c_3351933) h_3351932 (gb_ic (a := 0) (by decide)) (by decide))
    exact gm_some ⟨hXf_1.1, (gb_iw (lo := (-2147483648)) (hi := 2147483647) (gb_ic (a := (-2)) (by decide)) (by decide))⟩
  · have j_3351935 : gb_iv 1 1 r_3 := (gb_rN (lo := 1) (hi := 1) (v := 0) c_3351933 h_3351932 (by decide) (by decide))
    refine gm_bdP (mt_isGoose hXf_1.1) (fun r_9 h_3351936 => ?_)
    refine gm_if (fun c_3351937 => ?_) (fun c_3351937 => ?_)
    · have j_3351938 : gb_iv 0 0 r_9 := (gb_rU (lo := 0) (hi := 0) (gb_deq c_3351937) h_3351936.1 (gb_ic (a := 0) (by decide)) (by decide))
      exact gm_some ⟨hXf_1.1, (gb_iw (lo := (-2147483648)) (hi := 2147483647) (gb_ic (a := (-2)) (by decide)) (by decide))⟩
    · have j_3351939 : gb_iv 1 1 r_9 := (gb_rN (lo := 1) (hi := 1) (v := 0) c_3351937 h_3351936.1 (by decide) (by decide))
      have j_3351940 : gb_iv 0 7 p4 := (h_3351936.2 c_3351937)
      refine gm_if (fun c_3351941 => ?_) (fun c_3351941 => ?_)
      · have j_3351942 : gb_iv (-2147483648) 0 p5 := (gb_rU (lo := (-2147483648)) (hi := 0) (gb_deq c_3351941) (gb_it _) (gb_ic (a := 0) (by decide)) (by decide))
        have j_3351943 : gb_iv 0 0 p5 := (gb_rL (lo := 0) (hi := 0) (gb_deq2 c_3351941) j_3351942 (gb_ic (a := 0) (by decide)) (by decide))
        refine gm_ck j_3351940 (by decide) ?_
        refine gm_lti (lo := (-2147483648)) (hi := 2147483647) (gb_it _) (fun x_24 ex_24 ix_24 => ?_)
        exact gm_some ⟨hXf_1.1, (gb_it _)⟩
      · refine gm_if (fun c_3351944 => ?_) (fun c_3351944 => ?_)
        · have j_3351945 : gb_iv (-2147483648) 1 p5 := (gb_rU (lo := (-2147483648)) (hi := 1) (gb_deq c_3351944) (gb_it _) (gb_ic (a := 1) (by decide)) (by decide))
          have j_3351946 : gb_iv 1 1 p5 := (gb_rL (lo := 1) (hi := 1) (gb_deq2 c_3351944) j_3351945 (gb_ic (a := 1) (by decide)) (by decide))
          refine gm_ck j_3351940 (by decide) ?_
          refine gm_lti (lo := (-2147483648)) (hi := 2147483647) (gb_it _) (fun x_22 ex_22 ix_22 => ?_)
          exact gm_some ⟨hXf_1.1, (gb_it _)⟩
        · refine gm_if (fun c_3351947 => ?_) (fun c_3351947 => ?_)
          · have j_3351948 : gb_iv (-2147483648) 2 p5 := (gb_rU (lo := (-2147483648)) (hi := 2) (gb_deq c_3351947) (gb_it _) (gb_ic (a := 2) (by decide)) (by decide))
            have j_3351949 : gb_iv 2 2 p5 := (gb_rL (lo := 2) (hi := 2) (gb_deq2 c_3351947) j_3351948 (gb_ic (a := 2) (by decide)) (by decide))
            refine gm_ck j_3351940 (by decide) ?_
            refine gm_lti (lo := (-2147483648)) (hi := 2147483647) (gb_it _) (fun x_20 ex_20 ix_20 => ?_)
            exact gm_some ⟨hXf_1.1, (gb_it _)⟩
          · refine gm_if (fun c_3351950 => ?_) (fun c_3351950 => ?_)
            · have j_3351951 : gb_iv (-2147483648) 3 p5 := (gb_rU (lo := (-2147483648)) (hi := 3) (gb_deq c_3351950) (gb_it _) (gb_ic (a := 3) (by decide)) (by decide))
              have j_3351952 : gb_iv 3 3 p5 := (gb_rL (lo := 3) (hi := 3) (gb_deq2 c_3351950) j_3351951 (gb_ic (a := 3) (by decide)) (by decide))
              refine gm_ck j_3351940 (by decide) ?_
              refine gm_lti (lo := (-2147483648)) (hi := 2147483647) (gb_it _) (fun x_18 ex_18 ix_18 => ?_)
              exact gm_some ⟨hXf_1.1, (gb_it _)⟩
            · exact gm_some ⟨hXf_1.1, (gb_iw (lo := (-2147483648)) (hi := 2147483647) (gb_ic (a := (-2)) (by decide)) (by decide))⟩
set_option maxHeartbeats 4000000 in
theorem mt_path {n : Nat} (hn : gb_N ≤ n) {f : gb_F} {w : Int64} {p1 : Int32} {p2 : Int32} {p3 : Int32} {p4 : Int32} {p5 : Int32} (hT : gb_TM f) : gb_tm (ms_path n f w p1 p2 p3 p4 p5) (fun f2 _ r => gb_TM f2 ∧ gb_iv (-2147483648) 2147483647 r) := by
  have hX := gb_XKr hT
  unfold ms_path
  refine gm_bdT (mt_isState hn hX.1) (fun f_1 wl_2 r_3 hXf_1 h_3351984 => ?_)
  refine gm_if (fun c_3351985 => ?_) (fun c_3351985 => ?_)
  · have j_3351986 : gb_iv 0 0 r_3 := (gb_rU (lo := 0) (hi := 0) (gb_deq c_3351985) h_3351984 (gb_ic (a := 0) (by decide)) (by decide))
    exact gm_some ⟨hXf_1.1, (gb_iw (lo := (-2147483648)) (hi := 2147483647) (gb_ic (a := (-2)) (by decide)) (by decide))⟩
  · have j_3351987 : gb_iv 1 1 r_3 := (gb_rN (lo := 1) (hi := 1) (v := 0) c_3351985 h_3351984 (by decide) (by decide))
    refine gm_bdP (mt_isPath hXf_1.1) (fun r_9 h_3351988 => ?_)
    refine gm_if (fun c_3351989 => ?_) (fun c_3351989 => ?_)
    · have j_3351990 : gb_iv 0 0 r_9 := (gb_rU (lo := 0) (hi := 0) (gb_deq c_3351989) h_3351988.1 (gb_ic (a := 0) (by decide)) (by decide))
      exact gm_some ⟨hXf_1.1, (gb_iw (lo := (-2147483648)) (hi := 2147483647) (gb_ic (a := (-2)) (by decide)) (by decide))⟩
    · have j_3351991 : gb_iv 1 1 r_9 := (gb_rN (lo := 1) (hi := 1) (v := 0) c_3351989 h_3351988.1 (by decide) (by decide))
      have j_3351992 : gb_iv 0 4 p4 := (h_3351988.2 c_3351989)
      refine gm_if (fun c_3351993 => ?_) (fun c_3351993 => ?_)
      · have j_3351994 : gb_iv (-2147483648) 0 p5 := (gb_rU (lo := (-2147483648)) (hi := 0) (gb_deq c_3351993) (gb_it _) (gb_ic (a := 0) (by decide)) (by decide))
        have j_3351995 : gb_iv 0 0 p5 := (gb_rL (lo := 0) (hi := 0) (gb_deq2 c_3351993) j_3351994 (gb_ic (a := 0) (by decide)) (by decide))
        refine gm_ck j_3351992 (by decide) ?_
        refine gm_lti (lo := (-2147483648)) (hi := 2147483647) (gb_it _) (fun x_15 ex_15 ix_15 => ?_)
        exact gm_some ⟨hXf_1.1, (gb_it _)⟩
      · refine gm_if (fun c_3351996 => ?_) (fun c_3351996 => ?_)
        · have j_3351997 : gb_iv (-2147483648) 1 p5 := (gb_rU (lo := (-2147483648)) (hi := 1) (gb_deq c_3351996) (gb_it _) (gb_ic (a := 1) (by decide)) (by decide))
          have j_3351998 : gb_iv 1 1 p5 := (gb_rL (lo := 1) (hi := 1) (gb_deq2 c_3351996) j_3351997 (gb_ic (a := 1) (by decide)) (by decide))
          refine gm_ck j_3351992 (by decide) ?_
          refine gm_lti (lo := (-2147483648)) (hi := 2147483647) (gb_it _) (fun x_18 ex_18 ix_18 => ?_)
          exact gm_some ⟨hXf_1.1, (gb_it _)⟩
        · refine gm_if (fun c_3351999 => ?_) (fun c_3351999 => ?_)
          · have j_3352000 : gb_iv (-2147483648) 2 p5 := (gb_rU (lo := (-2147483648)) (hi := 2) (gb_deq c_3351999) (gb_it _) (gb_ic (a := 2) (by decide)) (by decide))
            have j_3352001 : gb_iv 2 2 p5 := (gb_rL (lo := 2) (hi := 2) (gb_deq2 c_3351999) j_3352000 (gb_ic (a := 2) (by decide)) (by decide))
            refine gm_bdP (mt_tally hn hXf_1.1 j_3351992) (fun r_22 h_3352002 => ?_)
            exact gm_some ⟨hXf_1.1, (gb_it _)⟩
          · refine gm_if (fun c_3352003 => ?_) (fun c_3352003 => ?_)
            · have j_3352004 : gb_iv (-2147483648) 3 p5 := (gb_rU (lo := (-2147483648)) (hi := 3) (gb_deq c_3352003) (gb_it _) (gb_ic (a := 3) (by decide)) (by decide))
              have j_3352005 : gb_iv 3 3 p5 := (gb_rL (lo := 3) (hi := 3) (gb_deq2 c_3352003) j_3352004 (gb_ic (a := 3) (by decide)) (by decide))
              refine gm_bdP (mt_tally hn hXf_1.1 j_3351992) (fun r_28 h_3352006 => ?_)
              refine gm_bdP (mt_padded hn hXf_1.1 (gb_iw (lo := 0) (hi := 100) j_3351992 (by decide))) (fun r_33 h_3352007 => ?_)
              exact gm_some ⟨hXf_1.1, (gb_it _)⟩
            · refine gm_if (fun c_3352008 => ?_) (fun c_3352008 => ?_)
              · have j_3352009 : gb_iv (-2147483648) 4 p5 := (gb_rU (lo := (-2147483648)) (hi := 4) (gb_deq c_3352008) (gb_it _) (gb_ic (a := 4) (by decide)) (by decide))
                have j_3352010 : gb_iv 4 4 p5 := (gb_rL (lo := 4) (hi := 4) (gb_deq2 c_3352008) j_3352009 (gb_ic (a := 4) (by decide)) (by decide))
                refine gm_bdP (mt_pay hn hXf_1.1 j_3351992) (fun r_39 h_3352011 => ?_)
                exact gm_some ⟨hXf_1.1, (gb_it _)⟩
              · refine gm_if (fun c_3352012 => ?_) (fun c_3352012 => ?_)
                · have j_3352013 : gb_iv (-2147483648) 5 p5 := (gb_rU (lo := (-2147483648)) (hi := 5) (gb_deq c_3352012) (gb_it _) (gb_ic (a := 5) (by decide)) (by decide))
                  have j_3352014 : gb_iv 5 5 p5 := (gb_rL (lo := 5) (hi := 5) (gb_deq2 c_3352012) j_3352013 (gb_ic (a := 5) (by decide)) (by decide))
                  refine gm_ck j_3351992 (by decide) ?_
                  refine gm_lti (lo := (-2147483648)) (hi := 2147483647) (gb_it _) (fun x_44 ex_44 ix_44 => ?_)
                  exact gm_some ⟨hXf_1.1, (gb_it _)⟩
                · exact gm_some ⟨hXf_1.1, (gb_iw (lo := (-2147483648)) (hi := 2147483647) (gb_ic (a := (-2)) (by decide)) (by decide))⟩
set_option maxHeartbeats 4000000 in
theorem mt_state_112 {n : Nat} (hn : gb_N ≤ n) {Q : gb_F → Int64 → Int32 → Prop} {f0 : gb_F} {k79 : gb_F → Int64 → Int32 → Int32 → Int32 → Int32 → gb_MR Int32} {M79 : Nat} (hk79 : ∀ (f : gb_F) (w : Int64) (v4 : Int32) (v5 : Int32) (v6 : Int32) (v7 : Int32), gb_XK f0 f → gb_iv 0 5 v4 → gb_iv 0 255 v5 → gb_iv (-2147483648) 2147483647 v6 → gb_iv 0 8 v7 → (8 - v7.toInt).toNat < M79 → gb_tm (k79 f w v4 v5 v6 v7) Q) (hret : ∀ (f : gb_F) (w : Int64) (r : Int32), gb_XK f0 f → gb_iv (-2147483648) 2147483647 r → Q f w r) : ∀ (f : gb_F) (w : Int64) (v4 : Int32) (v6 : Int32) (v7 : Int32) (t0 : Int32) (t1 : Int32), gb_XK f0 f → gb_iv 0 5 v4 → gb_iv (-2147483648) 2147483647 v6 → gb_iv 0 7 v7 → gb_iv 1 128 t0 → gb_iv 0 255 t1 → (8 - v7.toInt).toNat < M79 + 1 → gb_tm (ms_state_112 n k79 f w v4 v6 v7 t0 t1) Q := by
  intro f w v4 v6 v7 t0 t1 hX iv4 iv6 iv7 it0 it1 hm79
  unfold ms_state_112
  refine gm_lti (lo := 0) (hi := 255) (gb_ior it1 (gb_iw (lo := 0) (hi := 255) it0 (by decide))) (fun x_27 ex_27 ix_27 => ?_)
  refine gm_ck iv7 (by decide) ?_
  refine gm_lti (lo := (-2147483648)) (hi := 2147483647) (gb_it _) (fun x_29 ex_29 ix_29 => ?_)
  refine gm_lti (lo := 0) (hi := 2) (gb_irem (lo := 0) (hi := 2) iv4 (gb_ic (a := 3) (by decide)) (by decide)) (fun x_30 ex_30 ix_30 => ?_)
  refine gm_if (fun c_3352611 => ?_) (fun c_3352611 => ?_)
  · have j_3352612 : gb_iv (-2147483648) 2 x_29 := (gb_rU (lo := (-2147483648)) (hi := 2) (gb_deq c_3352611) (gb_it _) ix_30 (by decide))
    have j_3352613 : gb_iv 0 2 x_29 := (gb_rL (lo := 0) (hi := 2) (gb_deq2 c_3352611) j_3352612 ix_30 (by decide))
    refine gm_bdP (mt_ofGoose hn hX.1 (gb_iw (lo := 0) (hi := 70) iv7 (by decide)) (gb_iw (lo := 0) (hi := 4) (gb_ic (a := 4) (by decide)) (by decide))) (fun r_36 h_3352614 => ?_)
    refine gm_lti (lo := (-2147483648)) (hi := 2147483647) (gb_it _) (fun x_39 ex_39 ix_39 => ?_)
    refine gm_lti (lo := 1) (hi := 8) (gb_iadd (lo := 1) (hi := 8) iv7 (gb_ic (a := 1) (by decide)) (by decide)) (fun x_40 ex_40 ix_40 => ?_)
    exact hk79 _ _ _ _ _ _ hX iv4 ix_27 (gb_it _) (gb_iw (lo := 0) (hi := 8) ix_40 (by decide)) (gb_mup ex_40 iv7 (by decide) hm79)
  · refine gm_lti (lo := (-2147483648)) (hi := 2147483647) (gb_iadd (lo := (-2147483648)) (hi := 2147483647) (gb_it _) (gb_ic (a := 0) (by decide)) (by decide)) (fun x_32 ex_32 ix_32 => ?_)
    refine gm_lti (lo := 1) (hi := 8) (gb_iadd (lo := 1) (hi := 8) iv7 (gb_ic (a := 1) (by decide)) (by decide)) (fun x_33 ex_33 ix_33 => ?_)
    exact hk79 _ _ _ _ _ _ hX iv4 ix_27 (gb_it _) (gb_iw (lo := 0) (hi := 8) ix_33 (by decide)) (gb_mup ex_33 iv7 (by decide) hm79)
set_option maxHeartbeats 4000000 in
theorem mt_state_112_i1 {n : Nat} (hn : gb_N ≤ n) {Q : gb_F → Int64 → Int32 → Prop} {f0 : gb_F} {k79 : gb_F → Int64 → Int32 → Int32 → Int32 → Int32 → gb_MR Int32} {M79 : Nat} (hk79 : ∀ (f : gb_F) (w : Int64) (v4 : Int32) (v5 : Int32) (v6 : Int32) (v7 : Int32), gb_XK f0 f → gb_iv 0 5 v4 → gb_iv 0 255 v5 → gb_iv (-2147483648) 2147483647 v6 → gb_iv 0 8 v7 → (8 - v7.toInt).toNat < M79 → gb_tm (k79 f w v4 v5 v6 v7) Q) (hret : ∀ (f : gb_F) (w : Int64) (r : Int32), gb_XK f0 f → gb_iv (-2147483648) 2147483647 r → Q f w r) : ∀ (f : gb_F) (w : Int64) (v4 : Int32) (v6 : Int32) (v7 : Int32) (t0 : Int32) (t1 : Int32), gb_XK f0 f → gb_iv 0 5 v4 → gb_iv (-2147483648) 2147483647 v6 → gb_iv 0 7 v7 → gb_iv 0 0 t0 → gb_iv 0 255 t1 → (8 - v7.toInt).toNat < M79 + 1 → gb_tm (ms_state_112 n k79 f w v4 v6 v7 t0 t1) Q := by
  intro f w v4 v6 v7 t0 t1 hX iv4 iv6 iv7 it0 it1 hm79
  unfold ms_state_112
  refine gm_lti (lo := 0) (hi := 255) (gb_ior it1 (gb_iw (lo := 0) (hi := 255) it0 (by decide))) (fun x_27 ex_27 ix_27 => ?_)
  refine gm_ck iv7 (by decide) ?_
  refine gm_lti (lo := (-2147483648)) (hi := 2147483647) (gb_it _) (fun x_29 ex_29 ix_29 => ?_)
  refine gm_lti (lo := 0) (hi := 2) (gb_irem (lo := 0) (hi := 2) iv4 (gb_ic (a := 3) (by decide)) (by decide)) (fun x_30 ex_30 ix_30 => ?_)
  refine gm_if (fun c_3352615 => ?_) (fun c_3352615 => ?_)
  · have j_3352616 : gb_iv (-2147483648) 2 x_29 := (gb_rU (lo := (-2147483648)) (hi := 2) (gb_deq c_3352615) (gb_it _) ix_30 (by decide))
    have j_3352617 : gb_iv 0 2 x_29 := (gb_rL (lo := 0) (hi := 2) (gb_deq2 c_3352615) j_3352616 ix_30 (by decide))
    refine gm_bdP (mt_ofGoose hn hX.1 (gb_iw (lo := 0) (hi := 70) iv7 (by decide)) (gb_iw (lo := 0) (hi := 4) (gb_ic (a := 4) (by decide)) (by decide))) (fun r_36 h_3352618 => ?_)
    refine gm_lti (lo := (-2147483648)) (hi := 2147483647) (gb_it _) (fun x_39 ex_39 ix_39 => ?_)
    refine gm_lti (lo := 1) (hi := 8) (gb_iadd (lo := 1) (hi := 8) iv7 (gb_ic (a := 1) (by decide)) (by decide)) (fun x_40 ex_40 ix_40 => ?_)
    exact hk79 _ _ _ _ _ _ hX iv4 ix_27 (gb_it _) (gb_iw (lo := 0) (hi := 8) ix_40 (by decide)) (gb_mup ex_40 iv7 (by decide) hm79)
  · refine gm_lti (lo := (-2147483648)) (hi := 2147483647) (gb_iadd (lo := (-2147483648)) (hi := 2147483647) (gb_it _) (gb_ic (a := 0) (by decide)) (by decide)) (fun x_32 ex_32 ix_32 => ?_)
    refine gm_lti (lo := 1) (hi := 8) (gb_iadd (lo := 1) (hi := 8) iv7 (gb_ic (a := 1) (by decide)) (by decide)) (fun x_33 ex_33 ix_33 => ?_)
    exact hk79 _ _ _ _ _ _ hX iv4 ix_27 (gb_it _) (gb_iw (lo := 0) (hi := 8) ix_33 (by decide)) (gb_mup ex_33 iv7 (by decide) hm79)
set_option maxHeartbeats 4000000 in
theorem mt_state_79 {n : Nat} (hn : gb_N ≤ n) {Q : gb_F → Int64 → Int32 → Prop} {f0 : gb_F} (hret : ∀ (f : gb_F) (w : Int64) (r : Int32), gb_XK f0 f → gb_iv (-2147483648) 2147483647 r → Q f w r) : ∀ (mm : Nat) (f : gb_F) (w : Int64) (v4 : Int32) (v5 : Int32) (v6 : Int32) (v7 : Int32), gb_XK f0 f → gb_iv 0 5 v4 → gb_iv 0 255 v5 → gb_iv (-2147483648) 2147483647 v6 → gb_iv 0 8 v7 → (8 - v7.toInt).toNat < mm → gb_tm (ms_state_79 n mm f w v4 v5 v6 v7) Q := by
  intro mm
  induction mm with
  | zero =>
    intro f w v4 v5 v6 v7 hX iv4 iv5 iv6 iv7 hm
    exact absurd hm (Nat.not_lt_zero _)
  | succ mm ih =>
    intro f w v4 v5 v6 v7 hX iv4 iv5 iv6 iv7 hm
    rw [ms_state_79]
    refine gm_bdP (mt_geese hX.1) (fun r_18 h_3352601 => ?_)
    refine gm_if (fun c_3352602 => ?_) (fun c_3352602 => ?_)
    · refine gm_if (fun c_3352603 => ?_) (fun c_3352603 => ?_)
      · have j_3352604 : gb_iv 3 5 v4 := (gb_rL (lo := 3) (hi := 5) (gb_dle c_3352603) iv4 (gb_ic (a := 3) (by decide)) (by decide))
        exact gm_some (hret _ _ _ hX (gb_it _))
      · have j_3352605 : gb_iv 0 2 v4 := (gb_rU (lo := 0) (hi := 2) (gb_dnle c_3352603) iv4 (gb_ic (a := 3) (by decide)) (by decide))
        exact gm_some (hret _ _ _ hX (gb_iw (lo := (-2147483648)) (hi := 2147483647) iv5 (by decide)))
    · have j_3352606 : gb_iv 0 7 v7 := (gb_rU (lo := 0) (hi := 7) (gb_dnle c_3352602) iv7 h_3352601 (by decide))
      have j_3352607 : gb_iv 1 8 r_18 := (gb_rL (lo := 1) (hi := 8) (gb_dnle c_3352602) h_3352601 j_3352606 (by decide))
      refine gm_ck j_3352606 (by decide) ?_
      refine gm_lti (lo := (-2147483648)) (hi := 2147483647) (gb_it _) (fun x_24 ex_24 ix_24 => ?_)
      refine gm_lti (lo := 0) (hi := 2) (gb_irem (lo := 0) (hi := 2) iv4 (gb_ic (a := 3) (by decide)) (by decide)) (fun x_25 ex_25 ix_25 => ?_)
      refine gm_if (fun c_3352608 => ?_) (fun c_3352608 => ?_)
      · have j_3352609 : gb_iv (-2147483648) 2 x_24 := (gb_rU (lo := (-2147483648)) (hi := 2) (gb_deq c_3352608) (gb_it _) ix_25 (by decide))
        have j_3352610 : gb_iv 0 2 x_24 := (gb_rL (lo := 0) (hi := 2) (gb_deq2 c_3352608) j_3352609 ix_25 (by decide))
        exact mt_state_112 hn ih hret _ _ _ _ _ _ _ hX iv4 (gb_it _) j_3352606 (gb_ishl (lo := 1) (hi := 128) j_3352606 (by decide)) iv5 hm
      · exact mt_state_112_i1 hn ih hret _ _ _ _ _ _ _ hX iv4 (gb_it _) j_3352606 (gb_ic (a := 0) (by decide)) iv5 hm
set_option maxHeartbeats 4000000 in
theorem mt_state {n : Nat} (hn : gb_N ≤ n) {f : gb_F} {w : Int64} {p1 : Int32} {p2 : Int32} {p3 : Int32} {p4 : Int32} (hT : gb_TM f) : gb_tm (ms_state n f w p1 p2 p3 p4) (fun f2 _ r => gb_TM f2 ∧ gb_iv (-2147483648) 2147483647 r) := by
  have hX := gb_XKr hT
  unfold ms_state
  refine gm_bdT (mt_isState hn hX.1) (fun f_1 wl_2 r_3 hXf_1 h_3352308 => ?_)
  refine gm_if (fun c_3352309 => ?_) (fun c_3352309 => ?_)
  · have j_3352310 : gb_iv 0 0 r_3 := (gb_rU (lo := 0) (hi := 0) (gb_deq c_3352309) h_3352308 (gb_ic (a := 0) (by decide)) (by decide))
    exact gm_some ⟨hXf_1.1, (gb_iw (lo := (-2147483648)) (hi := 2147483647) (gb_ic (a := (-2)) (by decide)) (by decide))⟩
  · have j_3352311 : gb_iv 1 1 r_3 := (gb_rN (lo := 1) (hi := 1) (v := 0) c_3352309 h_3352308 (by decide) (by decide))
    refine gm_if (fun c_3352312 => ?_) (fun c_3352312 => ?_)
    · have j_3352313 : gb_iv (-2147483648) 6 p4 := (gb_rU (lo := (-2147483648)) (hi := 6) (gb_deq c_3352312) (gb_it _) (gb_ic (a := 6) (by decide)) (by decide))
      have j_3352314 : gb_iv 6 6 p4 := (gb_rL (lo := 6) (hi := 6) (gb_deq2 c_3352312) j_3352313 (gb_ic (a := 6) (by decide)) (by decide))
      refine gm_bdP (mt_worn hn hXf_1.1) (fun r_49 h_3352315 => ?_)
      exact gm_some ⟨hXf_1.1, (gb_iw (lo := (-2147483648)) (hi := 2147483647) h_3352315 (by decide))⟩
    · refine gm_if (fun c_3352316 => ?_) (fun c_3352316 => ?_)
      · have j_3352317 : gb_iv (-2147483648) 7 p4 := (gb_rU (lo := (-2147483648)) (hi := 7) (gb_deq c_3352316) (gb_it _) (gb_ic (a := 7) (by decide)) (by decide))
        have j_3352318 : gb_iv 7 7 p4 := (gb_rL (lo := 7) (hi := 7) (gb_deq2 c_3352316) j_3352317 (gb_ic (a := 7) (by decide)) (by decide))
        refine gm_bdP (mt_allPay hn hXf_1.1) (fun r_44 h_3352319 => ?_)
        exact gm_some ⟨hXf_1.1, (gb_it _)⟩
      · refine gm_if (fun c_3352320 => ?_) (fun c_3352320 => ?_)
        · have j_3352321 : gb_iv (-2147483648) 8 p4 := (gb_rU (lo := (-2147483648)) (hi := 8) (gb_deq c_3352320) (gb_it _) (gb_ic (a := 8) (by decide)) (by decide))
          have j_3352322 : gb_iv 8 8 p4 := (gb_rL (lo := 8) (hi := 8) (gb_deq2 c_3352320) j_3352321 (gb_ic (a := 8) (by decide)) (by decide))
          refine gm_if (fun c_3352323 => ?_) (fun c_3352323 => ?_)
          · have j_3352324 : gb_iv (-2147483648) 0 (f_1 0 22) := (gb_rU (lo := (-2147483648)) (hi := 0) (gb_deq c_3352323) (gb_it _) (gb_ic (a := 0) (by decide)) (by decide))
            have j_3352325 : gb_iv 0 0 (f_1 0 22) := (gb_rL (lo := 0) (hi := 0) (gb_deq2 c_3352323) j_3352324 (gb_ic (a := 0) (by decide)) (by decide))
            exact gm_some ⟨hXf_1.1, (gb_iw (lo := (-2147483648)) (hi := 2147483647) (gb_ic (a := 0) (by decide)) (by decide))⟩
          · exact gm_some ⟨hXf_1.1, (gb_iw (lo := (-2147483648)) (hi := 2147483647) (gb_ic (a := 1) (by decide)) (by decide))⟩
        · refine gm_bdP mt_isIn (fun r_12 h_3352326 => ?_)
          refine gm_if (fun c_3352327 => ?_) (fun c_3352327 => ?_)
          · have j_3352328 : gb_iv 0 0 r_12 := (gb_rU (lo := 0) (hi := 0) (gb_deq c_3352327) h_3352326.1 (gb_ic (a := 0) (by decide)) (by decide))
            exact gm_some ⟨hXf_1.1, (gb_iw (lo := (-2147483648)) (hi := 2147483647) (gb_ic (a := (-2)) (by decide)) (by decide))⟩
          · have j_3352329 : gb_iv 1 1 r_12 := (gb_rN (lo := 1) (hi := 1) (v := 0) c_3352327 h_3352326.1 (by decide) (by decide))
            have j_3352330 : gb_iv 0 5 p4 := ((fun q_ => gb_iin (a := 0) (b := 0) (h_3352326.2 q_) (gb_ic (a := 0) (by decide)).1 (gb_ic (a := 5) (by decide)).2) c_3352327)
            exact mt_state_79 hn (fun _ _ _ hX h => ⟨hX.1, h⟩) n _ _ _ _ _ _ hXf_1 j_3352330 (gb_iw (lo := 0) (hi := 255) (gb_ic (a := 0) (by decide)) (by decide)) (gb_iw (lo := (-2147483648)) (hi := 2147483647) (gb_ic (a := 0) (by decide)) (by decide)) (gb_iw (lo := 0) (hi := 8) (gb_ic (a := 0) (by decide)) (by decide)) (gb_fuu hn (gb_iw (lo := 0) (hi := 8) (gb_ic (a := 0) (by decide)) (by decide)) (by decide))
set_option maxHeartbeats 4000000 in
theorem mt_rest_29 {n : Nat} (hn : gb_N ≤ n) {Q : gb_F → Int64 → Int32 → Prop} {f0 : gb_F} (hFNN : gb_NN f0) (hret : ∀ (f : gb_F) (w : Int64) (r : Int32), gb_XK f0 f → gb_iv (-2147483648) 2147483647 r → Q f w r) : ∀ (mm : Nat) (f : gb_F) (w : Int64) (v3 : Int32) (v4 : Int32) (v5 : Int32), gb_XK f0 f → gb_iv (-1) 2147483647 v3 → gb_iv (-2147483648) 2147483647 v4 → gb_iv 0 32 v5 → (32 - v5.toInt).toNat < mm → gb_tm (ms_rest_29 n mm f w v3 v4 v5) Q := by
  intro mm
  induction mm with
  | zero =>
    intro f w v3 v4 v5 hX iv3 iv4 iv5 hm
    exact absurd hm (Nat.not_lt_zero _)
  | succ mm ih =>
    intro f w v3 v4 v5 hX iv3 iv4 iv5 hm
    rw [ms_rest_29]
    refine gm_bdP (mt_paths hX.1) (fun r_15 h_3353616 => ?_)
    refine gm_if (fun c_3353617 => ?_) (fun c_3353617 => ?_)
    · have j_3353618 : gb_iv 1 32 v5 := (gb_rL (lo := 1) (hi := 32) (gb_dle c_3353617) iv5 (gb_ishl (lo := 1) (hi := 32) h_3353616.1 (by decide)) (by decide))
      refine gm_if (fun c_3353619 => ?_) (fun c_3353619 => ?_)
      · have j_3353620 : gb_iv (-1) (-1) v3 := (gb_rU (lo := (-1)) (hi := (-1)) (gb_deq c_3353619) iv3 (gb_ic (a := (-1)) (by decide)) (by decide))
        exact gm_some (hret _ _ _ hX (gb_it _))
      · have j_3353621 : gb_iv 0 2147483647 v3 := (gb_rN (lo := 0) (hi := 2147483647) (v := (-1)) c_3353619 iv3 (by decide) (by decide))
        exact gm_some (hret _ _ _ hX (gb_iw (lo := (-2147483648)) (hi := 2147483647) (gb_ic (a := (-2)) (by decide)) (by decide)))
    · have j_3353622 : gb_iv 0 31 v5 := (gb_rU (lo := 0) (hi := 31) (gb_dnle c_3353617) iv5 (gb_ishl (lo := 1) (hi := 32) h_3353616.1 (by decide)) (by decide))
      refine gm_bdP (mt_isRest hn hX.1) (fun r_22 h_3353623 => ?_)
      refine gm_if (fun c_3353624 => ?_) (fun c_3353624 => ?_)
      · have j_3353625 : gb_iv 0 0 r_22 := (gb_rU (lo := 0) (hi := 0) (gb_deq c_3353624) h_3353623 (gb_ic (a := 0) (by decide)) (by decide))
        refine gm_lti (lo := 1) (hi := 32) (gb_iadd (lo := 1) (hi := 32) j_3353622 (gb_ic (a := 1) (by decide)) (by decide)) (fun x_29 ex_29 ix_29 => ?_)
        exact ih _ _ _ _ _ hX iv3 (gb_it _) (gb_iw (lo := 0) (hi := 32) ix_29 (by decide)) (gb_mup ex_29 j_3353622 (by decide) hm)
      · have j_3353626 : gb_iv 1 1 r_22 := (gb_rN (lo := 1) (hi := 1) (v := 0) c_3353624 h_3353623 (by decide) (by decide))
        refine gm_if (fun c_3353627 => ?_) (fun c_3353627 => ?_)
        · have j_3353628 : gb_iv (-1) 2147483647 v4 := (gb_rL (lo := (-1)) (hi := 2147483647) (gb_deq2 c_3353627) (gb_it _) iv3 (by decide))
          exact gm_some (hret _ _ _ hX (gb_iw (lo := (-2147483648)) (hi := 2147483647) j_3353622 (by decide)))
        · refine gm_lti (lo := (-2147483648)) (hi := 2147483647) (gb_it _) (fun x_27 ex_27 ix_27 => ?_)
          refine gm_lti (lo := 1) (hi := 32) (gb_iadd (lo := 1) (hi := 32) j_3353622 (gb_ic (a := 1) (by decide)) (by decide)) (fun x_28 ex_28 ix_28 => ?_)
          exact ih _ _ _ _ _ hX iv3 (gb_it _) (gb_iw (lo := 0) (hi := 32) ix_28 (by decide)) (gb_mup ex_28 j_3353622 (by decide) hm)
set_option maxHeartbeats 4000000 in
theorem mt_rest {n : Nat} (hn : gb_N ≤ n) {f : gb_F} {w : Int64} {p1 : Int32} {p2 : Int32} {p3 : Int32} (hT : gb_TM f) : gb_tm (ms_rest n f w p1 p2 p3) (fun f2 _ r => gb_TM f2 ∧ gb_iv (-2147483648) 2147483647 r) := by
  have hX := gb_XKr hT
  unfold ms_rest
  refine gm_bdT (mt_areTold hX.1) (fun f_1 wl_2 r_3 hXf_1 h_3353118 => ?_)
  refine gm_if (fun c_3353119 => ?_) (fun c_3353119 => ?_)
  · have j_3353120 : gb_iv 0 0 r_3 := (gb_rU (lo := 0) (hi := 0) (gb_deq c_3353119) h_3353118.1 (gb_ic (a := 0) (by decide)) (by decide))
    exact gm_some ⟨hXf_1.1, (gb_iw (lo := (-2147483648)) (hi := 2147483647) (gb_ic (a := (-2)) (by decide)) (by decide))⟩
  · have j_3353121 : gb_iv 1 1 r_3 := (gb_rN (lo := 1) (hi := 1) (v := 0) c_3353119 h_3353118.1 (by decide) (by decide))
    have hF_3353122 := (h_3353118.2 c_3353119)
    refine gm_if (fun c_3353123 => ?_) (fun c_3353123 => ?_)
    · have j_3353124 : gb_iv (-1) 2147483647 p3 := (gb_rL (lo := (-1)) (hi := 2147483647) (gb_dle c_3353123) (gb_it _) (gb_ic (a := (-1)) (by decide)) (by decide))
      refine gm_bdK hXf_1 (mt_runs hn hXf_1.1 (gb_NNx hXf_1 hF_3353122)) (fun f_8 wl_9 u_3353125 hXf_8 _ => ?_)
      exact mt_rest_29 hn hF_3353122 (fun _ _ _ hX h => ⟨hX.1, h⟩) n _ _ _ _ _ hXf_8 j_3353124 (gb_iw (lo := (-2147483648)) (hi := 2147483647) (gb_ic (a := 0) (by decide)) (by decide)) (gb_iw (lo := 0) (hi := 32) (gb_ic (a := 0) (by decide)) (by decide)) (gb_fuu hn (gb_iw (lo := 0) (hi := 32) (gb_ic (a := 0) (by decide)) (by decide)) (by decide))
    · have j_3353629 : gb_iv (-2147483648) (-2) p3 := (gb_rU (lo := (-2147483648)) (hi := (-2)) (gb_dnle c_3353123) (gb_it _) (gb_ic (a := (-1)) (by decide)) (by decide))
      exact gm_some ⟨hXf_1.1, (gb_iw (lo := (-2147483648)) (hi := 2147483647) (gb_ic (a := (-2)) (by decide)) (by decide))⟩
set_option maxHeartbeats 4000000 in
theorem mt_take {n : Nat} (hn : gb_N ≤ n) {f : gb_F} {w : Int64} {p1 : Int32} {p2 : Int32} {p3 : Int32} {p4 : Int32} (hT : gb_TM f) : gb_tm (ms_take n f w p1 p2 p3 p4) (fun f2 _ r => gb_TM f2 ∧ gb_iv (-2147483648) 2147483647 r) := by
  have hX := gb_XKr hT
  unfold ms_take
  refine gm_bdT (mt_areTold hX.1) (fun f_1 wl_2 r_3 hXf_1 h_3353648 => ?_)
  refine gm_if (fun c_3353649 => ?_) (fun c_3353649 => ?_)
  · have j_3353650 : gb_iv 0 0 r_3 := (gb_rU (lo := 0) (hi := 0) (gb_deq c_3353649) h_3353648.1 (gb_ic (a := 0) (by decide)) (by decide))
    exact gm_some ⟨hXf_1.1, (gb_iw (lo := (-2147483648)) (hi := 2147483647) (gb_ic (a := (-1)) (by decide)) (by decide))⟩
  · have j_3353651 : gb_iv 1 1 r_3 := (gb_rN (lo := 1) (hi := 1) (v := 0) c_3353649 h_3353648.1 (by decide) (by decide))
    have hF_3353652 := (h_3353648.2 c_3353649)
    refine gm_bdP (mt_isPath hXf_1.1) (fun r_9 h_3353653 => ?_)
    refine gm_if (fun c_3353654 => ?_) (fun c_3353654 => ?_)
    · have j_3353655 : gb_iv 0 0 r_9 := (gb_rU (lo := 0) (hi := 0) (gb_deq c_3353654) h_3353653.1 (gb_ic (a := 0) (by decide)) (by decide))
      exact gm_some ⟨hXf_1.1, (gb_iw (lo := (-2147483648)) (hi := 2147483647) (gb_ic (a := (-1)) (by decide)) (by decide))⟩
    · have j_3353656 : gb_iv 1 1 r_9 := (gb_rN (lo := 1) (hi := 1) (v := 0) c_3353654 h_3353653.1 (by decide) (by decide))
      have j_3353657 : gb_iv 0 4 p4 := (h_3353653.2 c_3353654)
      refine gm_bdP (mt_paths hXf_1.1) (fun r_15 h_3353658 => ?_)
      refine gm_bdP mt_isIn (fun r_20 h_3353659 => ?_)
      refine gm_if (fun c_3353660 => ?_) (fun c_3353660 => ?_)
      · have j_3353661 : gb_iv 0 0 r_20 := (gb_rU (lo := 0) (hi := 0) (gb_deq c_3353660) h_3353659.1 (gb_ic (a := 0) (by decide)) (by decide))
        exact gm_some ⟨hXf_1.1, (gb_iw (lo := (-2147483648)) (hi := 2147483647) (gb_ic (a := (-1)) (by decide)) (by decide))⟩
      · have j_3353662 : gb_iv 1 1 r_20 := (gb_rN (lo := 1) (hi := 1) (v := 0) c_3353660 h_3353659.1 (by decide) (by decide))
        have j_3353663 : gb_iv 0 31 p3 := ((fun q_ => gb_iin (a := 0) (b := 0) (h_3353659.2 q_) (gb_ic (a := 0) (by decide)).1 (gb_isub (lo := 0) (hi := 31) (gb_ishl (lo := 1) (hi := 32) h_3353658.1 (by decide)) (gb_ic (a := 1) (by decide)) (by decide)).2) c_3353660)
        refine gm_bdK hXf_1 (mt_runs hn hXf_1.1 (gb_NNx hXf_1 hF_3353652)) (fun f_24 wl_25 u_3353664 hXf_24 _ => ?_)
        refine gm_bdP (mt_takeOf hn hXf_24.1 j_3353657) (fun r_31 h_3353665 => ?_)
        exact gm_some ⟨hXf_24.1, (gb_it _)⟩
set_option maxHeartbeats 4000000 in
theorem mt_honest {n : Nat} (hn : gb_N ≤ n) {f : gb_F} {w : Int64} {p1 : Int32} {p2 : Int32} {p3 : Int32} (hT : gb_TM f) : gb_tm (ms_honest n f w p1 p2 p3) (fun f2 _ r => gb_TM f2 ∧ gb_iv (-2147483648) 2147483647 r) := by
  have hX := gb_XKr hT
  unfold ms_honest
  refine gm_bdT (mt_areTold hX.1) (fun f_1 wl_2 r_3 hXf_1 h_3353680 => ?_)
  refine gm_if (fun c_3353681 => ?_) (fun c_3353681 => ?_)
  · have j_3353682 : gb_iv 0 0 r_3 := (gb_rU (lo := 0) (hi := 0) (gb_deq c_3353681) h_3353680.1 (gb_ic (a := 0) (by decide)) (by decide))
    exact gm_some ⟨hXf_1.1, (gb_iw (lo := (-2147483648)) (hi := 2147483647) (gb_ic (a := (-1)) (by decide)) (by decide))⟩
  · have j_3353683 : gb_iv 1 1 r_3 := (gb_rN (lo := 1) (hi := 1) (v := 0) c_3353681 h_3353680.1 (by decide) (by decide))
    have hF_3353684 := (h_3353680.2 c_3353681)
    refine gm_bdP (mt_isPath hXf_1.1) (fun r_9 h_3353685 => ?_)
    refine gm_if (fun c_3353686 => ?_) (fun c_3353686 => ?_)
    · have j_3353687 : gb_iv 0 0 r_9 := (gb_rU (lo := 0) (hi := 0) (gb_deq c_3353686) h_3353685.1 (gb_ic (a := 0) (by decide)) (by decide))
      exact gm_some ⟨hXf_1.1, (gb_iw (lo := (-2147483648)) (hi := 2147483647) (gb_ic (a := (-1)) (by decide)) (by decide))⟩
    · have j_3353688 : gb_iv 1 1 r_9 := (gb_rN (lo := 1) (hi := 1) (v := 0) c_3353686 h_3353685.1 (by decide) (by decide))
      have j_3353689 : gb_iv 0 4 p3 := (h_3353685.2 c_3353686)
      refine gm_bdK hXf_1 (mt_runs hn hXf_1.1 (gb_NNx hXf_1 hF_3353684)) (fun f_13 wl_14 u_3353690 hXf_13 _ => ?_)
      refine gm_bdP (mt_pay hn hXf_13.1 j_3353689) (fun r_20 h_3353691 => ?_)
      refine gm_bdP (mt_ofPath hn hXf_13.1 (gb_iw (lo := 0) (hi := 100) j_3353689 (by decide)) (gb_iw (lo := 0) (hi := 2) (gb_ic (a := 1) (by decide)) (by decide))) (fun r_25 h_3353692 => ?_)
      refine gm_bdP (mt_tally hn hXf_13.1 j_3353689) (fun r_30 h_3353693 => ?_)
      exact gm_some ⟨hXf_13.1, (gb_it _)⟩
set_option maxHeartbeats 4000000 in
theorem mt_who_34 {n : Nat} (hn : gb_N ≤ n) {Q : gb_F → Int64 → Int32 → Prop} {f0 : gb_F} (hFNN : gb_NN f0) (hret : ∀ (f : gb_F) (w : Int64) (r : Int32), gb_XK f0 f → gb_iv (-1) 23 r → Q f w r) : ∀ (mm : Nat) (f : gb_F) (w : Int64) (v3 : Int32) (v4 : Int32) (v5 : Int32) (v6 : Int32), gb_XK f0 f → gb_iv 0 4 v3 → gb_iv (-2147483648) 2147483647 v4 → gb_iv 0 24 v5 → gb_iv 0 24 v6 → (24 - v6.toInt).toNat < mm → gb_tm (ms_who_34 n mm f w v3 v4 v5 v6) Q := by
  intro mm
  induction mm with
  | zero =>
    intro f w v3 v4 v5 v6 hX iv3 iv4 iv5 iv6 hm
    exact absurd hm (Nat.not_lt_zero _)
  | succ mm ih =>
    intro f w v3 v4 v5 v6 hX iv3 iv4 iv5 iv6 hm
    rw [ms_who_34]
    refine gm_if (fun c_3354634 => ?_) (fun c_3354634 => ?_)
    · exact gm_some (hret _ _ _ hX (gb_iw (lo := (-1)) (hi := 23) (gb_ic (a := (-1)) (by decide)) (by decide)))
    · have j_3354635 : gb_iv 0 23 v6 := (gb_rU (lo := 0) (hi := 23) (gb_dnle c_3354634) iv6 iv5 (by decide))
      have j_3354636 : gb_iv 1 24 v5 := (gb_rL (lo := 1) (hi := 24) (gb_dnle c_3354634) iv5 j_3354635 (by decide))
      refine gm_bdP (mt_deedOf hn hX.1 (gb_iw (lo := 0) (hi := 24) j_3354635 (by decide)) (gb_iw (lo := 0) (hi := 3) (gb_ic (a := 0) (by decide)) (by decide))) (fun r_22 h_3354637 => ?_)
      refine gm_if (fun c_3354638 => ?_) (fun c_3354638 => ?_)
      · have j_3354639 : gb_iv (-2147483648) 0 r_22 := (gb_rU (lo := (-2147483648)) (hi := 0) (gb_deq c_3354638) (gb_it _) (gb_ic (a := 0) (by decide)) (by decide))
        have j_3354640 : gb_iv 0 0 r_22 := (gb_rL (lo := 0) (hi := 0) (gb_deq2 c_3354638) j_3354639 (gb_ic (a := 0) (by decide)) (by decide))
        refine gm_bdP (mt_deedOf hn hX.1 (gb_iw (lo := 0) (hi := 24) j_3354635 (by decide)) (gb_iw (lo := 0) (hi := 3) (gb_ic (a := 2) (by decide)) (by decide))) (fun r_29 h_3354641 => ?_)
        refine gm_if (fun c_3354642 => ?_) (fun c_3354642 => ?_)
        · have j_3354643 : gb_iv (-2147483648) 4 r_29 := (gb_rU (lo := (-2147483648)) (hi := 4) (gb_deq c_3354642) (gb_it _) iv3 (by decide))
          have j_3354644 : gb_iv 0 4 r_29 := (gb_rL (lo := 0) (hi := 4) (gb_deq2 c_3354642) j_3354643 iv3 (by decide))
          refine gm_ltf (gb_XKf hX rfl) (fun f_33 ef_33 hXf_33 => ?_)
          refine gm_bdK hXf_33 (mt_runs hn hXf_33.1 (gb_NNx hXf_33 hFNN)) (fun f_34 wl_35 u_3354645 hXf_34 _ => ?_)
          refine gm_if (fun c_3354646 => ?_) (fun c_3354646 => ?_)
          · have j_3354647 : gb_iv 1 24 (f_34 0 23) := (gb_rL (lo := 1) (hi := 24) (gb_deq2 c_3354646) (gb_i23 hXf_34.1) j_3354636 (by decide))
            refine gm_bdP (mt_tally hn hXf_34.1 iv3) (fun r_43 h_3354648 => ?_)
            refine gm_if (fun c_3354649 => ?_) (fun c_3354649 => ?_)
            · exact gm_some (hret _ _ _ hXf_34 (gb_iw (lo := (-1)) (hi := 23) j_3354635 (by decide)))
            · refine gm_lti (lo := 1) (hi := 24) (gb_iadd (lo := 1) (hi := 24) j_3354635 (gb_ic (a := 1) (by decide)) (by decide)) (fun x_47 ex_47 ix_47 => ?_)
              exact ih _ _ _ _ _ _ hXf_34 iv3 (gb_it _) (gb_iw (lo := 0) (hi := 24) j_3354636 (by decide)) (gb_iw (lo := 0) (hi := 24) ix_47 (by decide)) (gb_mup ex_47 j_3354635 (by decide) hm)
          · refine gm_lti (lo := 1) (hi := 24) (gb_iadd (lo := 1) (hi := 24) j_3354635 (gb_ic (a := 1) (by decide)) (by decide)) (fun x_40 ex_40 ix_40 => ?_)
            exact ih _ _ _ _ _ _ hXf_34 iv3 (gb_it _) (gb_iw (lo := 0) (hi := 24) j_3354636 (by decide)) (gb_iw (lo := 0) (hi := 24) ix_40 (by decide)) (gb_mup ex_40 j_3354635 (by decide) hm)
        · refine gm_lti (lo := 1) (hi := 24) (gb_iadd (lo := 1) (hi := 24) j_3354635 (gb_ic (a := 1) (by decide)) (by decide)) (fun x_48 ex_48 ix_48 => ?_)
          exact ih _ _ _ _ _ _ hX iv3 (gb_it _) (gb_iw (lo := 0) (hi := 24) j_3354636 (by decide)) (gb_iw (lo := 0) (hi := 24) ix_48 (by decide)) (gb_mup ex_48 j_3354635 (by decide) hm)
      · refine gm_lti (lo := 1) (hi := 24) (gb_iadd (lo := 1) (hi := 24) j_3354635 (gb_ic (a := 1) (by decide)) (by decide)) (fun x_26 ex_26 ix_26 => ?_)
        exact ih _ _ _ _ _ _ hX iv3 (gb_it _) (gb_iw (lo := 0) (hi := 24) j_3354636 (by decide)) (gb_iw (lo := 0) (hi := 24) ix_26 (by decide)) (gb_mup ex_26 j_3354635 (by decide) hm)
set_option maxHeartbeats 4000000 in
theorem mt_who {n : Nat} (hn : gb_N ≤ n) {f : gb_F} {w : Int64} {p1 : Int32} {p2 : Int32} {p3 : Int32} {p4 : Int32} (hT : gb_TM f) : gb_tm (ms_who n f w p1 p2 p3 p4) (fun f2 _ r => gb_TM f2 ∧ gb_iv (-1) 23 r) := by
  have hX := gb_XKr hT
  unfold ms_who
  refine gm_bdT (mt_areTold hX.1) (fun f_1 wl_2 r_3 hXf_1 h_3354271 => ?_)
  refine gm_if (fun c_3354272 => ?_) (fun c_3354272 => ?_)
  · have j_3354273 : gb_iv 0 0 r_3 := (gb_rU (lo := 0) (hi := 0) (gb_deq c_3354272) h_3354271.1 (gb_ic (a := 0) (by decide)) (by decide))
    exact gm_some ⟨hXf_1.1, (gb_iw (lo := (-1)) (hi := 23) (gb_ic (a := (-1)) (by decide)) (by decide))⟩
  · have j_3354274 : gb_iv 1 1 r_3 := (gb_rN (lo := 1) (hi := 1) (v := 0) c_3354272 h_3354271.1 (by decide) (by decide))
    have hF_3354275 := (h_3354271.2 c_3354272)
    refine gm_bdP (mt_isPath hXf_1.1) (fun r_9 h_3354276 => ?_)
    refine gm_if (fun c_3354277 => ?_) (fun c_3354277 => ?_)
    · have j_3354278 : gb_iv 0 0 r_9 := (gb_rU (lo := 0) (hi := 0) (gb_deq c_3354277) h_3354276.1 (gb_ic (a := 0) (by decide)) (by decide))
      exact gm_some ⟨hXf_1.1, (gb_iw (lo := (-1)) (hi := 23) (gb_ic (a := (-1)) (by decide)) (by decide))⟩
    · have j_3354279 : gb_iv 1 1 r_9 := (gb_rN (lo := 1) (hi := 1) (v := 0) c_3354277 h_3354276.1 (by decide) (by decide))
      have j_3354280 : gb_iv 0 4 p3 := (h_3354276.2 c_3354277)
      refine gm_bdK hXf_1 (mt_runs hn hXf_1.1 (gb_NNx hXf_1 hF_3354275)) (fun f_13 wl_14 u_3354281 hXf_13 _ => ?_)
      refine gm_lti (lo := 0) (hi := 24) (gb_i23 hXf_13.1) (fun x_18 ex_18 ix_18 => ?_)
      exact mt_who_34 hn hF_3354275 (fun _ _ _ hX h => ⟨hX.1, h⟩) n _ _ _ _ _ _ hXf_13 j_3354280 (gb_it _) ix_18 (gb_iw (lo := 0) (hi := 24) (gb_ic (a := 0) (by decide)) (by decide)) (gb_fuu hn (gb_iw (lo := 0) (hi := 24) (gb_ic (a := 0) (by decide)) (by decide)) (by decide))
