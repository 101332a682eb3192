/-! THE REFERENCE's methods answer (written by wip/tot) -/
theorem mt_ofF {n : Nat} {f : gb_F} {w : Int64} {p1 : Int32} (hT : gb_TM f) (i1 : gb_iv 0 400 p1) : gb_tm (ms_of n f w p1) (fun f2 w2 r => f2 = f ∧ w2 = w ∧ gb_iv (-2147483648) 2147483647 r) := gm_mono (mt_of hT i1) (fun _ _ _ h => ⟨h.1, h.2.1, gb_it _⟩)
set_option maxHeartbeats 4000000 in
theorem mt_ofPath {n : Nat} (hn : gb_N ≤ n) {f : gb_F} {w : Int64} {p1 : Int32} {p2 : Int32} (hT : gb_TM f) (ip1 : gb_iv 0 100 p1) (ip2 : gb_iv 0 2 p2) : gb_tm (ms_ofPath n f w p1 p2) (fun f2 w2 r => f2 = f ∧ w2 = w ∧ gb_iv (-2147483648) 2147483647 r) := by
  have hX := gb_XKr hT
  unfold ms_ofPath
  refine gm_bdP (mt_ofF hX.1 (gb_iw (lo := 0) (hi := 400) (gb_iadd (lo := 3) (hi := 305) (gb_iadd (lo := 3) (hi := 303) (gb_ic (a := 3) (by decide)) (gb_imul (lo := 0) (hi := 300) (gb_ic (a := 3) (by decide)) ip1 (by decide)) (by decide)) ip2 (by decide)) (by decide))) (fun r_3 h_2 => ?_)
  exact gm_some ⟨rfl, rfl, (gb_it _)⟩
set_option maxHeartbeats 4000000 in
theorem mt_ofGoose {n : Nat} (hn : gb_N ≤ n) {f : gb_F} {w : Int64} {p1 : Int32} {p2 : Int32} (hT : gb_TM f) (ip1 : gb_iv 0 70 p1) (ip2 : gb_iv 0 4 p2) : gb_tm (ms_ofGoose n f w p1 p2) (fun f2 w2 r => f2 = f ∧ w2 = w ∧ gb_iv (-2147483648) 2147483647 r) := by
  have hX := gb_XKr hT
  unfold ms_ofGoose
  refine gm_bdP (mt_ofF hX.1 (gb_iw (lo := 0) (hi := 400) (gb_iadd (lo := 18) (hi := 372) (gb_iadd (lo := 18) (hi := 368) (gb_ic (a := 18) (by decide)) (gb_imul (lo := 0) (hi := 350) (gb_ic (a := 5) (by decide)) ip1 (by decide)) (by decide)) ip2 (by decide)) (by decide))) (fun r_3 h_4 => ?_)
  exact gm_some ⟨rfl, rfl, (gb_it _)⟩
set_option maxHeartbeats 4000000 in
theorem mt_border {n : Nat} (hn : gb_N ≤ n) {f : gb_F} {w : Int64} {p1 : Int32} {p2 : Int32} (hT : gb_TM f) : gb_tm (ms_border n f w p1 p2) (fun f2 _ r => gb_TM f2 ∧ gb_iv (-2147483648) 2147483647 r) := by
  have hX := gb_XKr hT
  unfold ms_border
  refine gm_bdT (mt_isBorder hX.1) (fun f_1 wl_2 r_3 hXf_1 h_37 => ?_)
  refine gm_if (fun c_38 => ?_) (fun c_38 => ?_)
  · have j_39 : gb_iv 0 0 r_3 := (gb_rU (lo := 0) (hi := 0) (gb_deq c_38) h_37.1 (gb_ic (a := 0) (by decide)) (by decide))
    exact gm_some ⟨hXf_1.1, (gb_iw (lo := (-2147483648)) (hi := 2147483647) (gb_ic (a := (-2)) (by decide)) (by decide))⟩
  · have j_40 : gb_iv 1 1 r_3 := (gb_rN (lo := 1) (hi := 1) (v := 0) c_38 h_37.1 (by decide) (by decide))
    refine gm_bdP mt_isIn (fun r_9 h_41 => ?_)
    refine gm_if (fun c_42 => ?_) (fun c_42 => ?_)
    · have j_43 : gb_iv 0 0 r_9 := (gb_rU (lo := 0) (hi := 0) (gb_deq c_42) h_41.1 (gb_ic (a := 0) (by decide)) (by decide))
      refine gm_lti (lo := (-2147483648)) (hi := 2147483647) (gb_it _) (fun x_13 ex_13 ix_13 => ?_)
      refine gm_bdP mt_isIn (fun r_16 h_44 => ?_)
      refine gm_if (fun c_45 => ?_) (fun c_45 => ?_)
      · have j_46 : gb_iv 0 0 r_16 := (gb_rU (lo := 0) (hi := 0) (gb_deq c_45) h_44.1 (gb_ic (a := 0) (by decide)) (by decide))
        refine gm_bdP mt_isIn (fun r_22 h_47 => ?_)
        refine gm_if (fun c_48 => ?_) (fun c_48 => ?_)
        · have j_49 : gb_iv 0 0 r_22 := (gb_rU (lo := 0) (hi := 0) (gb_deq c_48) h_47.1 (gb_ic (a := 0) (by decide)) (by decide))
          exact gm_some ⟨hXf_1.1, (gb_iw (lo := (-2147483648)) (hi := 2147483647) (gb_ic (a := (-2)) (by decide)) (by decide))⟩
        · have j_50 : gb_iv 1 1 r_22 := (gb_rN (lo := 1) (hi := 1) (v := 0) c_48 h_47.1 (by decide) (by decide))
          have j_51 : gb_iv 40 89 p2 := ((fun q_ => gb_iin (a := 0) (b := 0) (h_47.2 q_) (gb_ic (a := 40) (by decide)).1 (gb_ic (a := 89) (by decide)).2) c_48)
          refine gm_bdP (mt_isGoose hXf_1.1) (fun r_28 h_52 => ?_)
          refine gm_if (fun c_53 => ?_) (fun c_53 => ?_)
          · have j_54 : gb_iv 0 0 r_28 := (gb_rU (lo := 0) (hi := 0) (gb_deq c_53) h_52.1 (gb_ic (a := 0) (by decide)) (by decide))
            exact gm_some ⟨hXf_1.1, (gb_iw (lo := (-2147483648)) (hi := 2147483647) (gb_ic (a := (-2)) (by decide)) (by decide))⟩
          · have j_55 : gb_iv 1 1 r_28 := (gb_rN (lo := 1) (hi := 1) (v := 0) c_53 h_52.1 (by decide) (by decide))
            have j_56 : gb_iv 0 7 x_13 := (h_52.2 c_53)
            refine gm_lti (lo := 4) (hi := 8) (gb_idivc (v := 10) (lo := 4) (hi := 8) j_51 (by decide) (by decide)) (fun x_32 ex_32 ix_32 => ?_)
            refine gm_bdP (mt_ofGoose hn hXf_1.1 (gb_iw (lo := 0) (hi := 70) j_56 (by decide)) (gb_isub (lo := 0) (hi := 4) ix_32 (gb_ic (a := 4) (by decide)) (by decide))) (fun r_35 h_57 => ?_)
            exact gm_some ⟨hXf_1.1, (gb_it _)⟩
      · have j_58 : gb_iv 1 1 r_16 := (gb_rN (lo := 1) (hi := 1) (v := 0) c_45 h_44.1 (by decide) (by decide))
        have j_59 : gb_iv 10 39 p2 := ((fun q_ => gb_iin (a := 0) (b := 0) (h_44.2 q_) (gb_ic (a := 10) (by decide)).1 (gb_ic (a := 39) (by decide)).2) c_45)
        refine gm_bdP (mt_isPath hXf_1.1) (fun r_40 h_60 => ?_)
        refine gm_if (fun c_61 => ?_) (fun c_61 => ?_)
        · have j_62 : gb_iv 0 0 r_40 := (gb_rU (lo := 0) (hi := 0) (gb_deq c_61) h_60.1 (gb_ic (a := 0) (by decide)) (by decide))
          exact gm_some ⟨hXf_1.1, (gb_iw (lo := (-2147483648)) (hi := 2147483647) (gb_ic (a := (-2)) (by decide)) (by decide))⟩
        · have j_63 : gb_iv 1 1 r_40 := (gb_rN (lo := 1) (hi := 1) (v := 0) c_61 h_60.1 (by decide) (by decide))
          have j_64 : gb_iv 0 4 x_13 := (h_60.2 c_61)
          refine gm_lti (lo := 1) (hi := 3) (gb_idivc (v := 10) (lo := 1) (hi := 3) j_59 (by decide) (by decide)) (fun x_44 ex_44 ix_44 => ?_)
          refine gm_bdP (mt_ofPath hn hXf_1.1 (gb_iw (lo := 0) (hi := 100) j_64 (by decide)) (gb_isub (lo := 0) (hi := 2) ix_44 (gb_ic (a := 1) (by decide)) (by decide))) (fun r_47 h_65 => ?_)
          exact gm_some ⟨hXf_1.1, (gb_it _)⟩
    · have j_66 : gb_iv 1 1 r_9 := (gb_rN (lo := 1) (hi := 1) (v := 0) c_42 h_41.1 (by decide) (by decide))
      have j_67 : gb_iv 0 2 p2 := ((fun q_ => gb_iin (a := 0) (b := 0) (h_41.2 q_) (gb_ic (a := 0) (by decide)).1 (gb_ic (a := 2) (by decide)).2) c_42)
      refine gm_bdP (mt_ofF hXf_1.1 (gb_iw (lo := 0) (hi := 400) j_67 (by decide))) (fun r_52 h_68 => ?_)
      exact gm_some ⟨hXf_1.1, (gb_it _)⟩
set_option maxHeartbeats 4000000 in
theorem mt_left_10 {n : Nat} (hn : gb_N ≤ n) {Q : gb_F → Int64 → Int32 → Prop} {f : gb_F} {w : Int64} (hX : gb_XK f f) (hret : ∀ (r : Int32), gb_iv (-2147483648) 2147483647 r → Q f w r) : ∀ (v1 : Int32) (v2 : Int32) (v4 : Int32) (v5 : Int32) (t0 : Int32), gb_iv 0 7 v1 → gb_iv (-2147483648) 2147483647 v2 → gb_iv (-2147483648) 2147483647 v4 → gb_iv (-2147483648) 2147483647 v5 → gb_iv (-2147483648) 2147483647 t0 → gb_tm (ms_left_10 n f w v1 v2 v4 v5 t0) Q := by
  intro v1 v2 v4 v5 t0 iv1 iv2 iv4 iv5 it0
  unfold ms_left_10
  refine gm_bdP (mt_ofGoose hn hX.1 (gb_iw (lo := 0) (hi := 70) iv1 (by decide)) (gb_iw (lo := 0) (hi := 4) (gb_ic (a := 0) (by decide)) (by decide))) (fun r_4 h_83 => ?_)
  refine gm_bdP (mt_ofGoose hn hX.1 (gb_iw (lo := 0) (hi := 70) iv1 (by decide)) (gb_iw (lo := 0) (hi := 4) (gb_ic (a := 1) (by decide)) (by decide))) (fun r_9 h_84 => ?_)
  refine gm_lti (lo := (-2147483648)) (hi := 2147483647) (gb_it _) (fun x_12 ex_12 ix_12 => ?_)
  refine gm_if (fun c_85 => ?_) (fun c_85 => ?_)
  · have j_86 : gb_iv (-2147483648) 0 v4 := (gb_rU (lo := (-2147483648)) (hi := 0) (gb_deq c_85) (gb_it _) (gb_ic (a := 0) (by decide)) (by decide))
    have j_87 : gb_iv 0 0 v4 := (gb_rL (lo := 0) (hi := 0) (gb_deq2 c_85) j_86 (gb_ic (a := 0) (by decide)) (by decide))
    exact gm_some (hret _ (gb_it _))
  · exact gm_some (hret _ (gb_it _))
set_option maxHeartbeats 4000000 in
theorem mt_left_10_i1 {n : Nat} (hn : gb_N ≤ n) {Q : gb_F → Int64 → Int32 → Prop} {f : gb_F} {w : Int64} (hX : gb_XK f f) (hret : ∀ (r : Int32), gb_iv (-2147483648) 2147483647 r → Q f w r) : ∀ (v1 : Int32) (v2 : Int32) (v4 : Int32) (v5 : Int32) (t0 : Int32), gb_iv 0 7 v1 → gb_iv (-2147483647) 2147483647 v2 → gb_iv (-2147483648) 2147483647 v4 → gb_iv (-2147483648) 2147483647 v5 → gb_iv (-2147483648) 2147483646 t0 → gb_tm (ms_left_10 n f w v1 v2 v4 v5 t0) Q := by
  intro v1 v2 v4 v5 t0 iv1 iv2 iv4 iv5 it0
  unfold ms_left_10
  refine gm_bdP (mt_ofGoose hn hX.1 (gb_iw (lo := 0) (hi := 70) iv1 (by decide)) (gb_iw (lo := 0) (hi := 4) (gb_ic (a := 0) (by decide)) (by decide))) (fun r_4 h_90 => ?_)
  refine gm_bdP (mt_ofGoose hn hX.1 (gb_iw (lo := 0) (hi := 70) iv1 (by decide)) (gb_iw (lo := 0) (hi := 4) (gb_ic (a := 1) (by decide)) (by decide))) (fun r_9 h_91 => ?_)
  refine gm_lti (lo := (-2147483648)) (hi := 2147483647) (gb_it _) (fun x_12 ex_12 ix_12 => ?_)
  refine gm_if (fun c_92 => ?_) (fun c_92 => ?_)
  · have j_93 : gb_iv (-2147483648) 0 v4 := (gb_rU (lo := (-2147483648)) (hi := 0) (gb_deq c_92) (gb_it _) (gb_ic (a := 0) (by decide)) (by decide))
    have j_94 : gb_iv 0 0 v4 := (gb_rL (lo := 0) (hi := 0) (gb_deq2 c_92) j_93 (gb_ic (a := 0) (by decide)) (by decide))
    exact gm_some (hret _ (gb_it _))
  · exact gm_some (hret _ (gb_it _))
set_option maxHeartbeats 4000000 in
theorem mt_left {n : Nat} (hn : gb_N ≤ n) {f : gb_F} {w : Int64} {p1 : Int32} {p2 : Int32} {p3 : Int32} {p4 : Int32} {p5 : Int32} (hT : gb_TM f) (ip1 : gb_iv 0 7 p1) : gb_tm (ms_left n f w p1 p2 p3 p4 p5) (fun f2 w2 r => f2 = f ∧ w2 = w ∧ gb_iv (-2147483648) 2147483647 r) := by
  have hX := gb_XKr hT
  unfold ms_left
  refine gm_if (fun c_82 => ?_) (fun c_82 => ?_)
  · exact mt_left_10 hn hX (fun _ h => ⟨rfl, rfl, h⟩) _ _ _ _ _ ip1 (gb_it _) (gb_it _) (gb_it _) (gb_it _)
  · have j_88 : gb_iv (-2147483648) 2147483646 p3 := (gb_rU (lo := (-2147483648)) (hi := 2147483646) (gb_dnle c_82) (gb_it _) (gb_it _) (by decide))
    have j_89 : gb_iv (-2147483647) 2147483647 p2 := (gb_rL (lo := (-2147483647)) (hi := 2147483647) (gb_dnle c_82) (gb_it _) j_88 (by decide))
    exact mt_left_10_i1 hn hX (fun _ h => ⟨rfl, rfl, h⟩) _ _ _ _ _ ip1 j_89 (gb_it _) (gb_it _) j_88
set_option maxHeartbeats 4000000 in
theorem mt_firstMarks {n : Nat} (hn : gb_N ≤ n) {f : gb_F} {w : Int64} {p1 : Int32} {p2 : Int32} (hT : gb_TM f) (ip1 : gb_iv 0 7 p1) (ip2 : gb_iv 0 100 p2) : gb_tm (ms_firstMarks n f w p1 p2) (fun f2 w2 r => f2 = f ∧ w2 = w ∧ gb_iv (-2147483648) 2147483647 r) := by
  have hX := gb_XKr hT
  unfold ms_firstMarks
  refine gm_bdP (mt_ofPath hn hX.1 ip2 (gb_iw (lo := 0) (hi := 2) (gb_ic (a := 0) (by decide)) (by decide))) (fun r_3 h_99 => ?_)
  refine gm_bdP (mt_ofGoose hn hX.1 (gb_iw (lo := 0) (hi := 70) ip1 (by decide)) (gb_iw (lo := 0) (hi := 4) (gb_ic (a := 2) (by decide)) (by decide))) (fun r_8 h_100 => ?_)
  refine gm_bdP (mt_ofGoose hn hX.1 (gb_iw (lo := 0) (hi := 70) ip1 (by decide)) (gb_iw (lo := 0) (hi := 4) (gb_ic (a := 3) (by decide)) (by decide))) (fun r_13 h_101 => ?_)
  refine gm_bdP (mt_left hn hX.1 ip1) (fun r_18 h_102 => ?_)
  exact gm_some ⟨rfl, rfl, (gb_it _)⟩
set_option maxHeartbeats 4000000 in
theorem mt_marks {n : Nat} (hn : gb_N ≤ n) {f : gb_F} {w : Int64} {p1 : Int32} {p2 : Int32} {p3 : Int32} {p4 : Int32} (hT : gb_TM f) : gb_tm (ms_marks n f w p1 p2 p3 p4) (fun f2 _ r => gb_TM f2 ∧ gb_iv (-2147483648) 2147483647 r) := by
  have hX := gb_XKr hT
  unfold ms_marks
  refine gm_bdT (mt_isBorder hX.1) (fun f_1 wl_2 r_3 hXf_1 h_121 => ?_)
  refine gm_if (fun c_122 => ?_) (fun c_122 => ?_)
  · have j_123 : gb_iv 0 0 r_3 := (gb_rU (lo := 0) (hi := 0) (gb_deq c_122) h_121.1 (gb_ic (a := 0) (by decide)) (by decide))
    exact gm_some ⟨hXf_1.1, (gb_iw (lo := (-2147483648)) (hi := 2147483647) (gb_ic (a := (-1)) (by decide)) (by decide))⟩
  · have j_124 : gb_iv 1 1 r_3 := (gb_rN (lo := 1) (hi := 1) (v := 0) c_122 h_121.1 (by decide) (by decide))
    refine gm_bdP (mt_isGoose hXf_1.1) (fun r_9 h_125 => ?_)
    refine gm_if (fun c_126 => ?_) (fun c_126 => ?_)
    · have j_127 : gb_iv 0 0 r_9 := (gb_rU (lo := 0) (hi := 0) (gb_deq c_126) h_125.1 (gb_ic (a := 0) (by decide)) (by decide))
      exact gm_some ⟨hXf_1.1, (gb_iw (lo := (-2147483648)) (hi := 2147483647) (gb_ic (a := (-1)) (by decide)) (by decide))⟩
    · have j_128 : gb_iv 1 1 r_9 := (gb_rN (lo := 1) (hi := 1) (v := 0) c_126 h_125.1 (by decide) (by decide))
      have j_129 : gb_iv 0 7 p2 := (h_125.2 c_126)
      refine gm_bdP (mt_isPath hXf_1.1) (fun r_15 h_130 => ?_)
      refine gm_if (fun c_131 => ?_) (fun c_131 => ?_)
      · have j_132 : gb_iv 0 0 r_15 := (gb_rU (lo := 0) (hi := 0) (gb_deq c_131) h_130.1 (gb_ic (a := 0) (by decide)) (by decide))
        exact gm_some ⟨hXf_1.1, (gb_iw (lo := (-2147483648)) (hi := 2147483647) (gb_ic (a := (-1)) (by decide)) (by decide))⟩
      · have j_133 : gb_iv 1 1 r_15 := (gb_rN (lo := 1) (hi := 1) (v := 0) c_131 h_130.1 (by decide) (by decide))
        have j_134 : gb_iv 0 4 p3 := (h_130.2 c_131)
        refine gm_bdP (mt_ofPath hn hXf_1.1 (gb_iw (lo := 0) (hi := 100) j_134 (by decide)) (gb_iw (lo := 0) (hi := 2) (gb_ic (a := 0) (by decide)) (by decide))) (fun r_21 h_135 => ?_)
        refine gm_bdP (mt_ofGoose hn hXf_1.1 (gb_iw (lo := 0) (hi := 70) j_129 (by decide)) (gb_iw (lo := 0) (hi := 4) (gb_ic (a := 2) (by decide)) (by decide))) (fun r_26 h_136 => ?_)
        refine gm_bdP (mt_ofGoose hn hXf_1.1 (gb_iw (lo := 0) (hi := 70) j_129 (by decide)) (gb_iw (lo := 0) (hi := 4) (gb_ic (a := 3) (by decide)) (by decide))) (fun r_31 h_137 => ?_)
        refine gm_bdP (mt_left hn hXf_1.1 j_129) (fun r_36 h_138 => ?_)
        exact gm_some ⟨hXf_1.1, (gb_it _)⟩
set_option maxHeartbeats 4000000 in
theorem mt_deeds {n : Nat} (hn : gb_N ≤ n) {f : gb_F} {w : Int64} (hT : gb_TM f) : gb_tm (ms_deeds n f w) (fun f2 w2 r => f2 = f ∧ w2 = w ∧ gb_iv 0 24 r) := by
  have hX := gb_XKr hT
  unfold ms_deeds
  refine gm_ck (gb_i12 hX.1) (by decide) ?_
  refine gm_lti (lo := 0) (hi := 24) (gb_r12 hX.1) (fun x_2 ex_2 ix_2 => ?_)
  exact gm_some ⟨rfl, rfl, ix_2⟩
set_option maxHeartbeats 4000000 in
theorem mt_deedOf {n : Nat} (hn : gb_N ≤ n) {f : gb_F} {w : Int64} {p1 : Int32} {p2 : Int32} (hT : gb_TM f) (ip1 : gb_iv 0 24 p1) (ip2 : gb_iv 0 3 p2) : gb_tm (ms_deedOf n f w p1 p2) (fun f2 w2 r => f2 = f ∧ w2 = w ∧ gb_iv (-2147483648) 2147483647 r) := by
  have hX := gb_XKr hT
  unfold ms_deedOf
  refine gm_ck (gb_iadd (lo := 1) (hi := 923) (gb_iadd (lo := 1) (hi := 920) (gb_iadd (lo := 1) (hi := 824) (gb_i12 hX.1) (gb_ic (a := 1) (by decide)) (by decide)) (gb_imul (lo := 0) (hi := 96) (gb_ic (a := 4) (by decide)) ip1 (by decide)) (by decide)) ip2 (by decide)) (by decide) ?_
  refine gm_lti (lo := (-2147483648)) (hi := 2147483647) (gb_it _) (fun x_2 ex_2 ix_2 => ?_)
  exact gm_some ⟨rfl, rfl, (gb_it _)⟩
set_option maxHeartbeats 4000000 in
theorem mt_deed {n : Nat} (hn : gb_N ≤ n) {f : gb_F} {w : Int64} {p1 : Int32} {p2 : Int32} {p3 : Int32} (hT : gb_TM f) : gb_tm (ms_deed n f w p1 p2 p3) (fun f2 _ r => gb_TM f2 ∧ gb_iv (-2147483648) 2147483647 r) := by
  have hX := gb_XKr hT
  unfold ms_deed
  refine gm_bdP (mt_isOf hX.1 (gb_iw (lo := 0) (hi := 3) (gb_ic (a := 1) (by decide)) (by decide))) (fun r_3 h_164 => ?_)
  refine gm_if (fun c_165 => ?_) (fun c_165 => ?_)
  · have j_166 : gb_iv 0 0 r_3 := (gb_rU (lo := 0) (hi := 0) (gb_deq c_165) h_164.1 (gb_ic (a := 0) (by decide)) (by decide))
    exact gm_some ⟨hX.1, (gb_iw (lo := (-2147483648)) (hi := 2147483647) (gb_ic (a := (-2)) (by decide)) (by decide))⟩
  · have j_167 : gb_iv 1 1 r_3 := (gb_rN (lo := 1) (hi := 1) (v := 0) c_165 h_164.1 (by decide) (by decide))
    have j_168 : gb_iv 0 1 p1 := (h_164.2 c_165)
    refine gm_bdP (mt_placeOf1 j_168) (fun r_9 h_169 => ?_)
    refine gm_ltT (gb_TM12 hX.1 (Or.inr h_169)) (fun f_12 ef_12 hXf_12 => ?_)
    refine gm_if (fun c_170 => ?_) (fun c_170 => ?_)
    · have j_171 : gb_iv (-2147483648) (-1) p2 := (gb_rU (lo := (-2147483648)) (hi := (-1)) (gb_deq c_170) (gb_it _) (gb_ic (a := (-1)) (by decide)) (by decide))
      have j_172 : gb_iv (-1) (-1) p2 := (gb_rL (lo := (-1)) (hi := (-1)) (gb_deq2 c_170) j_171 (gb_ic (a := (-1)) (by decide)) (by decide))
      refine gm_if (fun c_173 => ?_) (fun c_173 => ?_)
      · have j_174 : gb_iv (-2147483648) 0 p3 := (gb_rU (lo := (-2147483648)) (hi := 0) (gb_deq c_173) (gb_it _) (gb_ic (a := 0) (by decide)) (by decide))
        have j_175 : gb_iv 0 0 p3 := (gb_rL (lo := 0) (hi := 0) (gb_deq2 c_173) j_174 (gb_ic (a := 0) (by decide)) (by decide))
        refine gm_bdP (mt_deeds hn hXf_12.1) (fun r_39 h_176 => ?_)
        exact gm_some ⟨hXf_12.1, (gb_iw (lo := (-2147483648)) (hi := 2147483647) h_176 (by decide))⟩
      · exact gm_some ⟨hXf_12.1, (gb_iw (lo := (-2147483648)) (hi := 2147483647) (gb_ic (a := (-2)) (by decide)) (by decide))⟩
    · refine gm_bdP (mt_deeds hn hXf_12.1) (fun r_16 h_177 => ?_)
      refine gm_bdP mt_isIn (fun r_21 h_178 => ?_)
      refine gm_if (fun c_179 => ?_) (fun c_179 => ?_)
      · have j_180 : gb_iv 0 0 r_21 := (gb_rU (lo := 0) (hi := 0) (gb_deq c_179) h_178.1 (gb_ic (a := 0) (by decide)) (by decide))
        exact gm_some ⟨hXf_12.1, (gb_iw (lo := (-2147483648)) (hi := 2147483647) (gb_ic (a := (-2)) (by decide)) (by decide))⟩
      · have j_181 : gb_iv 1 1 r_21 := (gb_rN (lo := 1) (hi := 1) (v := 0) c_179 h_178.1 (by decide) (by decide))
        have j_182 : gb_iv 0 23 p2 := ((fun q_ => gb_iin (a := 0) (b := 0) (h_178.2 q_) (gb_ic (a := 0) (by decide)).1 (gb_isub (lo := (-1)) (hi := 23) h_177 (gb_ic (a := 1) (by decide)) (by decide)).2) c_179)
        refine gm_bdP mt_isIn (fun r_27 h_183 => ?_)
        refine gm_if (fun c_184 => ?_) (fun c_184 => ?_)
        · have j_185 : gb_iv 0 0 r_27 := (gb_rU (lo := 0) (hi := 0) (gb_deq c_184) h_183.1 (gb_ic (a := 0) (by decide)) (by decide))
          exact gm_some ⟨hXf_12.1, (gb_iw (lo := (-2147483648)) (hi := 2147483647) (gb_ic (a := (-2)) (by decide)) (by decide))⟩
        · have j_186 : gb_iv 1 1 r_27 := (gb_rN (lo := 1) (hi := 1) (v := 0) c_184 h_183.1 (by decide) (by decide))
          have j_187 : gb_iv 0 3 p3 := ((fun q_ => gb_iin (a := 0) (b := 0) (h_183.2 q_) (gb_ic (a := 0) (by decide)).1 (gb_ic (a := 3) (by decide)).2) c_184)
          refine gm_bdP (mt_deedOf hn hXf_12.1 (gb_iw (lo := 0) (hi := 24) j_182 (by decide)) j_187) (fun r_33 h_188 => ?_)
          exact gm_some ⟨hXf_12.1, (gb_it _)⟩
set_option maxHeartbeats 4000000 in
theorem mt_begins_105 {n : Nat} (hn : gb_N ≤ n) {Q : gb_F → Int64 → Unit → Prop} {f0 : gb_F} (hret : ∀ (f : gb_F) (w : Int64) (r : Unit), gb_XK f0 f → True → Q f w r) : ∀ (mm : Nat) (f : gb_F) (w : Int64) (v1 : Int32), gb_XK f0 f → gb_iv 0 5 v1 → (5 - v1.toInt).toNat < mm → gb_tm (ms_begins_105 n mm f w v1) Q := by
  intro mm
  induction mm with
  | zero =>
    intro f w v1 hX iv1 hm
    exact absurd hm (Nat.not_lt_zero _)
  | succ mm ih =>
    intro f w v1 hX iv1 hm
    rw [ms_begins_105]
    refine gm_if (fun c_4556 => ?_) (fun c_4556 => ?_)
    · have j_4557 : gb_iv 5 5 v1 := (gb_rL (lo := 5) (hi := 5) (gb_dle c_4556) iv1 (gb_ic (a := 5) (by decide)) (by decide))
      refine gm_ltf (gb_XKf hX rfl) (fun f_3 ef_3 hXf_3 => ?_)
      refine gm_ltf (gb_XK23 hXf_3 (gb_iw (lo := 0) (hi := 24) (gb_ic (a := 0) (by decide)) (by decide))) (fun f_4 ef_4 hXf_4 => ?_)
      exact gm_some (hret _ _ _ hXf_4 trivial)
    · have j_4558 : gb_iv 0 4 v1 := (gb_rU (lo := 0) (hi := 4) (gb_dnle c_4556) iv1 (gb_ic (a := 5) (by decide)) (by decide))
      refine gm_ck j_4558 (by decide) ?_
      refine gm_ltf (gb_XKu hX rfl) (fun f_6 ef_6 hXf_6 => ?_)
      refine gm_ck j_4558 (by decide) ?_
      refine gm_ltf (gb_XKu hXf_6 rfl) (fun f_8 ef_8 hXf_8 => ?_)
      refine gm_ck j_4558 (by decide) ?_
      refine gm_ltf (gb_XKu hXf_8 rfl) (fun f_10 ef_10 hXf_10 => ?_)
      refine gm_lti (lo := 1) (hi := 5) (gb_iadd (lo := 1) (hi := 5) j_4558 (gb_ic (a := 1) (by decide)) (by decide)) (fun x_11 ex_11 ix_11 => ?_)
      exact ih _ _ _ hXf_10 (gb_iw (lo := 0) (hi := 5) ix_11 (by decide)) (gb_mup ex_11 j_4558 (by decide) hm)
set_option maxHeartbeats 4000000 in
theorem mt_begins_75 {n : Nat} (hn : gb_N ≤ n) {Q : gb_F → Int64 → Unit → Prop} {f0 : gb_F} {k2 : gb_F → Int64 → Int32 → gb_MR Unit} {M2 : Nat} (hk2 : ∀ (f : gb_F) (w : Int64) (v1 : Int32), gb_XK f0 f → gb_iv 0 8 v1 → (8 - v1.toInt).toNat < M2 → gb_tm (k2 f w v1) Q) (hret : ∀ (f : gb_F) (w : Int64) (r : Unit), gb_XK f0 f → True → Q f w r) : ∀ (mm : Nat) (f : gb_F) (w : Int64) (v1 : Int32) (v2 : Int32), gb_XK f0 f → gb_iv 0 7 v1 → gb_iv 0 5 v2 → (8 - v1.toInt).toNat < M2 + 1 → (5 - v2.toInt).toNat < mm → gb_tm (ms_begins_75 n k2 mm f w v1 v2) Q := by
  intro mm
  induction mm with
  | zero =>
    intro f w v1 v2 hX iv1 iv2 hm2 hm
    exact absurd hm (Nat.not_lt_zero _)
  | succ mm ih =>
    intro f w v1 v2 hX iv1 iv2 hm2 hm
    rw [ms_begins_75]
    refine gm_if (fun c_4594 => ?_) (fun c_4594 => ?_)
    · have j_4595 : gb_iv 5 5 v2 := (gb_rL (lo := 5) (hi := 5) (gb_dle c_4594) iv2 (gb_ic (a := 5) (by decide)) (by decide))
      refine gm_lti (lo := 1) (hi := 8) (gb_iadd (lo := 1) (hi := 8) iv1 (gb_ic (a := 1) (by decide)) (by decide)) (fun x_32 ex_32 ix_32 => ?_)
      exact hk2 _ _ _ hX (gb_iw (lo := 0) (hi := 8) ix_32 (by decide)) (gb_mup ex_32 iv1 (by decide) hm2)
    · have j_4596 : gb_iv 0 4 v2 := (gb_rU (lo := 0) (hi := 4) (gb_dnle c_4594) iv2 (gb_ic (a := 5) (by decide)) (by decide))
      refine gm_ck (gb_iadd (lo := 0) (hi := 39) (gb_imul (lo := 0) (hi := 35) (gb_ic (a := 5) (by decide)) iv1 (by decide)) j_4596 (by decide)) (by decide) ?_
      refine gm_ltf (gb_XKu hX rfl) (fun f_34 ef_34 hXf_34 => ?_)
      refine gm_lti (lo := 1) (hi := 5) (gb_iadd (lo := 1) (hi := 5) j_4596 (gb_ic (a := 1) (by decide)) (by decide)) (fun x_35 ex_35 ix_35 => ?_)
      exact ih _ _ _ _ hXf_34 iv1 (gb_iw (lo := 0) (hi := 5) ix_35 (by decide)) hm2 (gb_mup ex_35 j_4596 (by decide) hm)
set_option maxHeartbeats 4000000 in
theorem mt_begins_38 {n : Nat} (hn : gb_N ≤ n) {Q : gb_F → Int64 → Unit → Prop} {f0 : gb_F} {k2 : gb_F → Int64 → Int32 → gb_MR Unit} {M2 : Nat} (hk2 : ∀ (f : gb_F) (w : Int64) (v1 : Int32), gb_XK f0 f → gb_iv 0 8 v1 → (8 - v1.toInt).toNat < M2 → gb_tm (k2 f w v1) Q) (hret : ∀ (f : gb_F) (w : Int64) (r : Unit), gb_XK f0 f → True → Q f w r) : ∀ (f : gb_F) (w : Int64) (v1 : Int32) (t0 : Int32) (t1 : Int32), gb_XK f0 f → gb_iv 0 7 v1 → gb_iv 0 0 t0 → gb_iv 0 7 t1 → (8 - v1.toInt).toNat < M2 + 1 → gb_tm (ms_begins_38 n k2 f w v1 t0 t1) Q := by
  intro f w v1 t0 t1 hX iv1 it0 it1 hm2
  unfold ms_begins_38
  refine gm_ck it1 (by decide) ?_
  refine gm_ltf (gb_XKu hX rfl) (fun f_21 ef_21 hXf_21 => ?_)
  refine gm_ck iv1 (by decide) ?_
  refine gm_lti (lo := (-2147483648)) (hi := 2147483647) (gb_it _) (fun x_23 ex_23 ix_23 => ?_)
  refine gm_if (fun c_4563 => ?_) (fun c_4563 => ?_)
  · have j_4564 : gb_iv (-2147483648) 0 x_23 := (gb_rU (lo := (-2147483648)) (hi := 0) (gb_dle c_4563) (gb_it _) (gb_ic (a := 0) (by decide)) (by decide))
    refine gm_ck iv1 (by decide) ?_
    refine gm_ltf (gb_XKu hXf_21 rfl) (fun f_26 ef_26 hXf_26 => ?_)
    refine gm_ck iv1 (by decide) ?_
    refine gm_ltf (gb_XKu hXf_26 rfl) (fun f_28 ef_28 hXf_28 => ?_)
    refine gm_ck iv1 (by decide) ?_
    refine gm_ltf (gb_XKu hXf_28 rfl) (fun f_30 ef_30 hXf_30 => ?_)
    exact mt_begins_75 hn hk2 hret n _ _ _ _ hXf_30 iv1 (gb_iw (lo := 0) (hi := 5) (gb_ic (a := 0) (by decide)) (by decide)) hm2 (gb_fuu hn (gb_iw (lo := 0) (hi := 5) (gb_ic (a := 0) (by decide)) (by decide)) (by decide))
  · have j_4597 : gb_iv 1 2147483647 x_23 := (gb_rL (lo := 1) (hi := 2147483647) (gb_dnle c_4563) (gb_it _) (gb_ic (a := 0) (by decide)) (by decide))
    refine gm_ck iv1 (by decide) ?_
    refine gm_ltf (gb_XKu hXf_21 rfl) (fun f_37 ef_37 hXf_37 => ?_)
    refine gm_ck iv1 (by decide) ?_
    refine gm_ltf (gb_XKu hXf_37 rfl) (fun f_39 ef_39 hXf_39 => ?_)
    refine gm_ck iv1 (by decide) ?_
    refine gm_ltf (gb_XKu hXf_39 rfl) (fun f_41 ef_41 hXf_41 => ?_)
    exact mt_begins_75 hn hk2 hret n _ _ _ _ hXf_41 iv1 (gb_iw (lo := 0) (hi := 5) (gb_ic (a := 0) (by decide)) (by decide)) hm2 (gb_fuu hn (gb_iw (lo := 0) (hi := 5) (gb_ic (a := 0) (by decide)) (by decide)) (by decide))
set_option maxHeartbeats 4000000 in
theorem mt_begins_38_i1 {n : Nat} (hn : gb_N ≤ n) {Q : gb_F → Int64 → Unit → Prop} {f0 : gb_F} {k2 : gb_F → Int64 → Int32 → gb_MR Unit} {M2 : Nat} (hk2 : ∀ (f : gb_F) (w : Int64) (v1 : Int32), gb_XK f0 f → gb_iv 0 8 v1 → (8 - v1.toInt).toNat < M2 → gb_tm (k2 f w v1) Q) (hret : ∀ (f : gb_F) (w : Int64) (r : Unit), gb_XK f0 f → True → Q f w r) : ∀ (f : gb_F) (w : Int64) (v1 : Int32) (t0 : Int32) (t1 : Int32), gb_XK f0 f → gb_iv 0 7 v1 → gb_iv (-2147483648) 2147483647 t0 → gb_iv 0 7 t1 → (8 - v1.toInt).toNat < M2 + 1 → gb_tm (ms_begins_38 n k2 f w v1 t0 t1) Q := by
  intro f w v1 t0 t1 hX iv1 it0 it1 hm2
  unfold ms_begins_38
  refine gm_ck it1 (by decide) ?_
  refine gm_ltf (gb_XKu hX rfl) (fun f_21 ef_21 hXf_21 => ?_)
  refine gm_ck iv1 (by decide) ?_
  refine gm_lti (lo := (-2147483648)) (hi := 2147483647) (gb_it _) (fun x_23 ex_23 ix_23 => ?_)
  refine gm_if (fun c_4629 => ?_) (fun c_4629 => ?_)
  · have j_4630 : gb_iv (-2147483648) 0 x_23 := (gb_rU (lo := (-2147483648)) (hi := 0) (gb_dle c_4629) (gb_it _) (gb_ic (a := 0) (by decide)) (by decide))
    refine gm_ck iv1 (by decide) ?_
    refine gm_ltf (gb_XKu hXf_21 rfl) (fun f_26 ef_26 hXf_26 => ?_)
    refine gm_ck iv1 (by decide) ?_
    refine gm_ltf (gb_XKu hXf_26 rfl) (fun f_28 ef_28 hXf_28 => ?_)
    refine gm_ck iv1 (by decide) ?_
    refine gm_ltf (gb_XKu hXf_28 rfl) (fun f_30 ef_30 hXf_30 => ?_)
    exact mt_begins_75 hn hk2 hret n _ _ _ _ hXf_30 iv1 (gb_iw (lo := 0) (hi := 5) (gb_ic (a := 0) (by decide)) (by decide)) hm2 (gb_fuu hn (gb_iw (lo := 0) (hi := 5) (gb_ic (a := 0) (by decide)) (by decide)) (by decide))
  · have j_4660 : gb_iv 1 2147483647 x_23 := (gb_rL (lo := 1) (hi := 2147483647) (gb_dnle c_4629) (gb_it _) (gb_ic (a := 0) (by decide)) (by decide))
    refine gm_ck iv1 (by decide) ?_
    refine gm_ltf (gb_XKu hXf_21 rfl) (fun f_37 ef_37 hXf_37 => ?_)
    refine gm_ck iv1 (by decide) ?_
    refine gm_ltf (gb_XKu hXf_37 rfl) (fun f_39 ef_39 hXf_39 => ?_)
    refine gm_ck iv1 (by decide) ?_
    refine gm_ltf (gb_XKu hXf_39 rfl) (fun f_41 ef_41 hXf_41 => ?_)
    exact mt_begins_75 hn hk2 hret n _ _ _ _ hXf_41 iv1 (gb_iw (lo := 0) (hi := 5) (gb_ic (a := 0) (by decide)) (by decide)) hm2 (gb_fuu hn (gb_iw (lo := 0) (hi := 5) (gb_ic (a := 0) (by decide)) (by decide)) (by decide))
set_option maxHeartbeats 4000000 in
theorem mt_begins_2 {n : Nat} (hn : gb_N ≤ n) {Q : gb_F → Int64 → Unit → Prop} {f0 : gb_F} (hret : ∀ (f : gb_F) (w : Int64) (r : Unit), gb_XK f0 f → True → Q f w r) : ∀ (mm : Nat) (f : gb_F) (w : Int64) (v1 : Int32), gb_XK f0 f → gb_iv 0 8 v1 → (8 - v1.toInt).toNat < mm → gb_tm (ms_begins_2 n mm f w v1) Q := by
  intro mm
  induction mm with
  | zero =>
    intro f w v1 hX iv1 hm
    exact absurd hm (Nat.not_lt_zero _)
  | succ mm ih =>
    intro f w v1 hX iv1 hm
    rw [ms_begins_2]
    refine gm_if (fun c_4525 => ?_) (fun c_4525 => ?_)
    · have j_4526 : gb_iv 8 8 v1 := (gb_rL (lo := 8) (hi := 8) (gb_dle c_4525) iv1 (gb_ic (a := 8) (by decide)) (by decide))
      exact mt_begins_105 hn hret n _ _ _ hX (gb_iw (lo := 0) (hi := 5) (gb_ic (a := 0) (by decide)) (by decide)) (gb_fuu hn (gb_iw (lo := 0) (hi := 5) (gb_ic (a := 0) (by decide)) (by decide)) (by decide))
    · have j_4559 : gb_iv 0 7 v1 := (gb_rU (lo := 0) (hi := 7) (gb_dnle c_4525) iv1 (gb_ic (a := 8) (by decide)) (by decide))
      refine gm_ck j_4559 (by decide) ?_
      refine gm_ltf (gb_XKu hX rfl) (fun f_13 ef_13 hXf_13 => ?_)
      refine gm_bdP (mt_isGoose hXf_13.1) (fun r_16 h_4560 => ?_)
      refine gm_if (fun c_4561 => ?_) (fun c_4561 => ?_)
      · have j_4562 : gb_iv 0 0 r_16 := (gb_rU (lo := 0) (hi := 0) (gb_deq c_4561) h_4560.1 (gb_ic (a := 0) (by decide)) (by decide))
        exact mt_begins_38 hn ih hret _ _ _ _ _ hXf_13 j_4559 (gb_ic (a := 0) (by decide)) j_4559 hm
      · have j_4627 : gb_iv 1 1 r_16 := (gb_rN (lo := 1) (hi := 1) (v := 0) c_4561 h_4560.1 (by decide) (by decide))
        refine gm_bdP (mt_ofGoose hn hXf_13.1 (gb_iw (lo := 0) (hi := 70) j_4559 (by decide)) (gb_iw (lo := 0) (hi := 4) (gb_ic (a := 2) (by decide)) (by decide))) (fun r_44 h_4628 => ?_)
        exact mt_begins_38_i1 hn ih hret _ _ _ _ _ hXf_13 j_4559 (gb_it _) j_4559 hm
set_option maxHeartbeats 4000000 in
theorem mt_begins {n : Nat} (hn : gb_N ≤ n) {f : gb_F} {w : Int64} (hT : gb_TM f) : gb_tm (ms_begins n f w) (fun f2 _ _ => gb_XK f f2 ∧ True) := by
  have hX := gb_XKr hT
  unfold ms_begins
  exact mt_begins_2 hn (fun _ _ _ hX h => ⟨hX, h⟩) n _ _ _ hX (gb_iw (lo := 0) (hi := 8) (gb_ic (a := 0) (by decide)) (by decide)) (gb_fuu hn (gb_iw (lo := 0) (hi := 8) (gb_ic (a := 0) (by decide)) (by decide)) (by decide))
set_option maxHeartbeats 4000000 in
theorem mt_foxed_4 {n : Nat} (hn : gb_N ≤ n) {Q : gb_F → Int64 → Int32 → Prop} {f : gb_F} {w : Int64} (hX : gb_XK f f) (hret : ∀ (r : Int32), gb_iv (-1) 7 r → Q f w r) : ∀ (mm : Nat) (v1 : Int32) (v2 : Int32) (v3 : Int32), gb_iv 0 4 v1 → gb_iv (-1) 7 v2 → gb_iv 0 8 v3 → (8 - v3.toInt).toNat < mm → gb_tm (ms_foxed_4 n mm f w v1 v2 v3) Q := by
  intro mm
  induction mm with
  | zero =>
    intro v1 v2 v3 iv1 iv2 iv3 hm
    exact absurd hm (Nat.not_lt_zero _)
  | succ mm ih =>
    intro v1 v2 v3 iv1 iv2 iv3 hm
    rw [ms_foxed_4]
    refine gm_bdP (mt_geese hX.1) (fun r_3 h_5160 => ?_)
    refine gm_if (fun c_5161 => ?_) (fun c_5161 => ?_)
    · exact gm_some (hret _ iv2)
    · have j_5162 : gb_iv 0 7 v3 := (gb_rU (lo := 0) (hi := 7) (gb_dnle c_5161) iv3 h_5160 (by decide))
      have j_5163 : gb_iv 1 8 r_3 := (gb_rL (lo := 1) (hi := 8) (gb_dnle c_5161) h_5160 j_5162 (by decide))
      refine gm_ck j_5162 (by decide) ?_
      refine gm_lti (lo := (-2147483648)) (hi := 2147483647) (gb_it _) (fun x_8 ex_8 ix_8 => ?_)
      refine gm_if (fun c_5164 => ?_) (fun c_5164 => ?_)
      · have j_5165 : gb_iv (-2147483648) 2 x_8 := (gb_rU (lo := (-2147483648)) (hi := 2) (gb_deq c_5164) (gb_it _) (gb_ic (a := 2) (by decide)) (by decide))
        have j_5166 : gb_iv 2 2 x_8 := (gb_rL (lo := 2) (hi := 2) (gb_deq2 c_5164) j_5165 (gb_ic (a := 2) (by decide)) (by decide))
        refine gm_lti (lo := 1) (hi := 8) (gb_iadd (lo := 1) (hi := 8) j_5162 (gb_ic (a := 1) (by decide)) (by decide)) (fun x_10 ex_10 ix_10 => ?_)
        exact ih _ _ _ iv1 iv2 (gb_iw (lo := 0) (hi := 8) ix_10 (by decide)) (gb_mup ex_10 j_5162 (by decide) hm)
      · refine gm_ck (gb_iadd (lo := 0) (hi := 39) (gb_imul (lo := 0) (hi := 35) (gb_ic (a := 5) (by decide)) j_5162 (by decide)) iv1 (by decide)) (by decide) ?_
        refine gm_lti (lo := (-2147483648)) (hi := 2147483647) (gb_it _) (fun x_12 ex_12 ix_12 => ?_)
        refine gm_if (fun c_5167 => ?_) (fun c_5167 => ?_)
        · have j_5168 : gb_iv (-2147483648) (-1) x_12 := (gb_rU (lo := (-2147483648)) (hi := (-1)) (gb_deq c_5167) (gb_it _) (gb_ic (a := (-1)) (by decide)) (by decide))
          have j_5169 : gb_iv (-1) (-1) x_12 := (gb_rL (lo := (-1)) (hi := (-1)) (gb_deq2 c_5167) j_5168 (gb_ic (a := (-1)) (by decide)) (by decide))
          refine gm_lti (lo := 1) (hi := 8) (gb_iadd (lo := 1) (hi := 8) j_5162 (gb_ic (a := 1) (by decide)) (by decide)) (fun x_23 ex_23 ix_23 => ?_)
          exact ih _ _ _ iv1 iv2 (gb_iw (lo := 0) (hi := 8) ix_23 (by decide)) (gb_mup ex_23 j_5162 (by decide) hm)
        · refine gm_if (fun c_5170 => ?_) (fun c_5170 => ?_)
          · have j_5171 : gb_iv (-1) (-1) v2 := (gb_rU (lo := (-1)) (hi := (-1)) (gb_deq c_5170) iv2 (gb_ic (a := (-1)) (by decide)) (by decide))
            refine gm_lti (lo := 1) (hi := 8) (gb_iadd (lo := 1) (hi := 8) j_5162 (gb_ic (a := 1) (by decide)) (by decide)) (fun x_15 ex_15 ix_15 => ?_)
            exact ih _ _ _ iv1 (gb_iw (lo := (-1)) (hi := 7) j_5162 (by decide)) (gb_iw (lo := 0) (hi := 8) ix_15 (by decide)) (gb_mup ex_15 j_5162 (by decide) hm)
          · have j_5172 : gb_iv 0 7 v2 := (gb_rN (lo := 0) (hi := 7) (v := (-1)) c_5170 iv2 (by decide) (by decide))
            refine gm_ck (gb_iadd (lo := 0) (hi := 39) (gb_imul (lo := 0) (hi := 35) (gb_ic (a := 5) (by decide)) j_5162 (by decide)) iv1 (by decide)) (by decide) ?_
            refine gm_lti (lo := (-2147483648)) (hi := 2147483647) (gb_it _) (fun x_17 ex_17 ix_17 => ?_)
            refine gm_ck (gb_iadd (lo := 0) (hi := 39) (gb_imul (lo := 0) (hi := 35) (gb_ic (a := 5) (by decide)) j_5172 (by decide)) iv1 (by decide)) (by decide) ?_
            refine gm_lti (lo := (-2147483648)) (hi := 2147483647) (gb_it _) (fun x_19 ex_19 ix_19 => ?_)
            refine gm_if (fun c_5173 => ?_) (fun c_5173 => ?_)
            · refine gm_lti (lo := 1) (hi := 8) (gb_iadd (lo := 1) (hi := 8) j_5162 (gb_ic (a := 1) (by decide)) (by decide)) (fun x_21 ex_21 ix_21 => ?_)
              exact ih _ _ _ iv1 (gb_iw (lo := (-1)) (hi := 7) j_5172 (by decide)) (gb_iw (lo := 0) (hi := 8) ix_21 (by decide)) (gb_mup ex_21 j_5162 (by decide) hm)
            · have j_5174 : gb_iv (-2147483648) 2147483646 x_19 := (gb_rU (lo := (-2147483648)) (hi := 2147483646) (gb_dnle c_5173) (gb_it _) (gb_it _) (by decide))
              have j_5175 : gb_iv (-2147483647) 2147483647 x_17 := (gb_rL (lo := (-2147483647)) (hi := 2147483647) (gb_dnle c_5173) (gb_it _) j_5174 (by decide))
              refine gm_lti (lo := 1) (hi := 8) (gb_iadd (lo := 1) (hi := 8) j_5162 (gb_ic (a := 1) (by decide)) (by decide)) (fun x_22 ex_22 ix_22 => ?_)
              exact ih _ _ _ iv1 (gb_iw (lo := (-1)) (hi := 7) j_5162 (by decide)) (gb_iw (lo := 0) (hi := 8) ix_22 (by decide)) (gb_mup ex_22 j_5162 (by decide) hm)
set_option maxHeartbeats 4000000 in
theorem mt_foxed {n : Nat} (hn : gb_N ≤ n) {f : gb_F} {w : Int64} {p1 : Int32} (hT : gb_TM f) (ip1 : gb_iv 0 4 p1) : gb_tm (ms_foxed n f w p1) (fun f2 w2 r => f2 = f ∧ w2 = w ∧ gb_iv (-1) 7 r) := by
  have hX := gb_XKr hT
  unfold ms_foxed
  exact mt_foxed_4 hn hX (fun _ h => ⟨rfl, rfl, h⟩) n _ _ _ ip1 (gb_iw (lo := (-1)) (hi := 7) (gb_ic (a := (-1)) (by decide)) (by decide)) (gb_iw (lo := 0) (hi := 8) (gb_ic (a := 0) (by decide)) (by decide)) (gb_fuu hn (gb_iw (lo := 0) (hi := 8) (gb_ic (a := 0) (by decide)) (by decide)) (by decide))
set_option maxHeartbeats 4000000 in
theorem mt_isAt {n : Nat} (hn : gb_N ≤ n) {f : gb_F} {w : Int64} {p1 : Int32} {p2 : Int32} (hT : gb_TM f) : gb_tm (ms_isAt n f w p1 p2) (fun f2 w2 r => f2 = f ∧ w2 = w ∧ (gb_iv 0 1 r ∧ (¬ r = 0 → gb_iv 0 7 p1))) := by
  have hX := gb_XKr hT
  unfold ms_isAt
  refine gm_bdP (mt_isGoose hX.1) (fun r_3 h_5182 => ?_)
  refine gm_if (fun c_5183 => ?_) (fun c_5183 => ?_)
  · have j_5184 : gb_iv 0 0 r_3 := (gb_rU (lo := 0) (hi := 0) (gb_deq c_5183) h_5182.1 (gb_ic (a := 0) (by decide)) (by decide))
    exact gm_some ⟨rfl, rfl, ⟨(gb_iw (lo := 0) (hi := 1) (gb_ic (a := 0) (by decide)) (by decide)), (fun h => absurd rfl h)⟩⟩
  · have j_5185 : gb_iv 1 1 r_3 := (gb_rN (lo := 1) (hi := 1) (v := 0) c_5183 h_5182.1 (by decide) (by decide))
    have j_5186 : gb_iv 0 7 p1 := (h_5182.2 c_5183)
    refine gm_ck j_5186 (by decide) ?_
    refine gm_lti (lo := (-2147483648)) (hi := 2147483647) (gb_it _) (fun x_8 ex_8 ix_8 => ?_)
    refine gm_if (fun c_5187 => ?_) (fun c_5187 => ?_)
    · exact gm_some ⟨rfl, rfl, ⟨(gb_iw (lo := 0) (hi := 1) (gb_ic (a := 1) (by decide)) (by decide)), (fun _ => j_5186)⟩⟩
    · exact gm_some ⟨rfl, rfl, ⟨(gb_iw (lo := 0) (hi := 1) (gb_ic (a := 0) (by decide)) (by decide)), (fun h => absurd rfl h)⟩⟩
set_option maxHeartbeats 4000000 in
theorem mt_walks_122 {n : Nat} (hn : gb_N ≤ n) {Q : gb_F → Int64 → Unit → Prop} {f0 : gb_F} (hret : ∀ (f : gb_F) (w : Int64) (r : Unit), gb_XK f0 f → True → Q f w r) : ∀ (f : gb_F) (w : Int64) (v1 : Int32) (v2 : Int32) (v3 : Int32) (v5 : Int32), gb_XK f0 f → gb_iv (-2147483648) 2147483647 v1 → gb_iv 0 7 v2 → gb_iv 0 4 v3 → gb_iv (-2147483648) 2147483647 v5 → gb_tm (ms_walks_122 n f w v1 v2 v3 v5) Q := by
  intro f w v1 v2 v3 v5 hX iv1 iv2 iv3 iv5
  unfold ms_walks_122
  refine gm_ck iv2 (by decide) ?_
  refine gm_ltf (gb_XKu hX rfl) (fun f_25 ef_25 hXf_25 => ?_)
  refine gm_ck iv2 (by decide) ?_
  refine gm_ltf (gb_XKu hXf_25 rfl) (fun f_27 ef_27 hXf_27 => ?_)
  refine gm_ck (gb_iadd (lo := 0) (hi := 39) (gb_imul (lo := 0) (hi := 35) (gb_ic (a := 5) (by decide)) iv2 (by decide)) iv3 (by decide)) (by decide) ?_
  refine gm_ltf (gb_XKu hXf_27 rfl) (fun f_29 ef_29 hXf_29 => ?_)
  exact gm_some (hret _ _ _ hXf_29 trivial)
set_option maxHeartbeats 4000000 in
theorem mt_walks_120 {n : Nat} (hn : gb_N ≤ n) {Q : gb_F → Int64 → Unit → Prop} {f0 : gb_F} (hret : ∀ (f : gb_F) (w : Int64) (r : Unit), gb_XK f0 f → True → Q f w r) : ∀ (f : gb_F) (w : Int64) (v1 : Int32) (v2 : Int32) (v3 : Int32) (v5 : Int32) (t0 : Int32) (t1 : Int32) (t2 : Int32), gb_XK f0 f → gb_iv (-2147483648) 2147483647 v1 → gb_iv 0 7 v2 → gb_iv 0 4 v3 → gb_iv (-2147483648) 2147483647 v5 → gb_iv 0 0 t0 → gb_iv (-2147483648) 2147483647 t1 → gb_iv 0 4 t2 → gb_tm (ms_walks_120 n f w v1 v2 v3 v5 t0 t1 t2) Q := by
  intro f w v1 v2 v3 v5 t0 t1 t2 hX iv1 iv2 iv3 iv5 it0 it1 it2
  unfold ms_walks_120
  refine gm_ck it2 (by decide) ?_
  refine gm_ltf (gb_XKu hX rfl) (fun f_43 ef_43 hXf_43 => ?_)
  exact mt_walks_122 hn hret _ _ _ _ _ _ hXf_43 (gb_it _) iv2 iv3 (gb_it _)
set_option maxHeartbeats 4000000 in
theorem mt_walks_100 {n : Nat} (hn : gb_N ≤ n) {Q : gb_F → Int64 → Unit → Prop} {f0 : gb_F} (hret : ∀ (f : gb_F) (w : Int64) (r : Unit), gb_XK f0 f → True → Q f w r) : ∀ (f : gb_F) (w : Int64) (v1 : Int32) (v2 : Int32) (v3 : Int32) (v4 : Int32) (v5 : Int32) (v7 : Int32) (t0 : Int32) (t1 : Int32) (t2 : Int32), gb_XK f0 f → gb_iv (-2147483648) 2147483647 v1 → gb_iv 0 7 v2 → gb_iv 0 4 v3 → gb_iv 0 0 v4 → gb_iv (-2147483648) 2147483647 v5 → gb_iv (-2147483648) 2147483647 v7 → gb_iv (-2147483648) 2147483647 t0 → gb_iv (-2147483648) 2147483647 t1 → gb_iv 0 4 t2 → gb_tm (ms_walks_100 n f w v1 v2 v3 v4 v5 v7 t0 t1 t2) Q := by
  intro f w v1 v2 v3 v4 v5 v7 t0 t1 t2 hX iv1 iv2 iv3 iv4 iv5 iv7 it0 it1 it2
  unfold ms_walks_100
  refine gm_ck it2 (by decide) ?_
  refine gm_ltf (gb_XKu hX rfl) (fun f_38 ef_38 hXf_38 => ?_)
  refine gm_ck iv3 (by decide) ?_
  refine gm_lti (lo := (-2147483648)) (hi := 2147483647) (gb_it _) (fun x_40 ex_40 ix_40 => ?_)
  refine gm_if (fun c_5218 => ?_) (fun c_5218 => ?_)
  · exact mt_walks_120 hn hret _ _ _ _ _ _ _ _ _ hXf_38 (gb_it _) iv2 iv3 (gb_it _) (gb_ic (a := 0) (by decide)) (gb_it _) iv3
  · exact (gb_em (gb_rN (lo := 1) (hi := (-1)) (v := 0) c_5218 iv4 (by decide) (by decide)) (by decide)).elim
set_option maxHeartbeats 4000000 in
theorem mt_walks_120_i1 {n : Nat} (hn : gb_N ≤ n) {Q : gb_F → Int64 → Unit → Prop} {f0 : gb_F} (hret : ∀ (f : gb_F) (w : Int64) (r : Unit), gb_XK f0 f → True → Q f w r) : ∀ (f : gb_F) (w : Int64) (v1 : Int32) (v2 : Int32) (v3 : Int32) (v5 : Int32) (t0 : Int32) (t1 : Int32) (t2 : Int32), gb_XK f0 f → gb_iv (-2147483648) 2147483647 v1 → gb_iv 0 7 v2 → gb_iv 0 4 v3 → gb_iv (-2147483648) 2147483647 v5 → gb_iv (-2147483648) 2147483647 t0 → gb_iv (-2147483648) 2147483647 t1 → gb_iv 0 4 t2 → gb_tm (ms_walks_120 n f w v1 v2 v3 v5 t0 t1 t2) Q := by
  intro f w v1 v2 v3 v5 t0 t1 t2 hX iv1 iv2 iv3 iv5 it0 it1 it2
  unfold ms_walks_120
  refine gm_ck it2 (by decide) ?_
  refine gm_ltf (gb_XKu hX rfl) (fun f_43 ef_43 hXf_43 => ?_)
  exact mt_walks_122 hn hret _ _ _ _ _ _ hXf_43 (gb_it _) iv2 iv3 (gb_it _)
set_option maxHeartbeats 4000000 in
theorem mt_walks_100_i1 {n : Nat} (hn : gb_N ≤ n) {Q : gb_F → Int64 → Unit → Prop} {f0 : gb_F} (hret : ∀ (f : gb_F) (w : Int64) (r : Unit), gb_XK f0 f → True → Q f w r) : ∀ (f : gb_F) (w : Int64) (v1 : Int32) (v2 : Int32) (v3 : Int32) (v4 : Int32) (v5 : Int32) (v7 : Int32) (t0 : Int32) (t1 : Int32) (t2 : Int32), gb_XK f0 f → gb_iv (-2147483648) 2147483647 v1 → gb_iv 0 7 v2 → gb_iv 0 4 v3 → gb_iv (-2147483648) 2147483647 v4 → gb_iv (-2147483648) 2147483647 v5 → gb_iv (-2147483648) 2147483647 v7 → gb_iv 0 0 t0 → gb_iv (-2147483648) 2147483647 t1 → gb_iv 0 4 t2 → gb_tm (ms_walks_100 n f w v1 v2 v3 v4 v5 v7 t0 t1 t2) Q := by
  intro f w v1 v2 v3 v4 v5 v7 t0 t1 t2 hX iv1 iv2 iv3 iv4 iv5 iv7 it0 it1 it2
  unfold ms_walks_100
  refine gm_ck it2 (by decide) ?_
  refine gm_ltf (gb_XKu hX rfl) (fun f_38 ef_38 hXf_38 => ?_)
  refine gm_ck iv3 (by decide) ?_
  refine gm_lti (lo := (-2147483648)) (hi := 2147483647) (gb_it _) (fun x_40 ex_40 ix_40 => ?_)
  refine gm_if (fun c_5219 => ?_) (fun c_5219 => ?_)
  · have j_5220 : gb_iv (-2147483648) 0 v4 := (gb_rU (lo := (-2147483648)) (hi := 0) (gb_deq c_5219) (gb_it _) (gb_ic (a := 0) (by decide)) (by decide))
    have j_5221 : gb_iv 0 0 v4 := (gb_rL (lo := 0) (hi := 0) (gb_deq2 c_5219) j_5220 (gb_ic (a := 0) (by decide)) (by decide))
    exact mt_walks_120 hn hret _ _ _ _ _ _ _ _ _ hXf_38 (gb_it _) iv2 iv3 (gb_it _) (gb_ic (a := 0) (by decide)) (gb_it _) iv3
  · exact mt_walks_120_i1 hn hret _ _ _ _ _ _ _ _ _ hXf_38 (gb_it _) iv2 iv3 (gb_it _) (gb_it _) (gb_it _) iv3
set_option maxHeartbeats 4000000 in
theorem mt_walks_62 {n : Nat} (hn : gb_N ≤ n) {Q : gb_F → Int64 → Unit → Prop} {f0 : gb_F} (hret : ∀ (f : gb_F) (w : Int64) (r : Unit), gb_XK f0 f → True → Q f w r) : ∀ (f : gb_F) (w : Int64) (v1 : Int32) (v2 : Int32) (v3 : Int32) (v4 : Int32) (v5 : Int32) (v7 : Int32) (t0 : Int32) (t1 : Int32), gb_XK f0 f → gb_iv (-2147483648) 2147483647 v1 → gb_iv 0 7 v2 → gb_iv 0 4 v3 → gb_iv (-2147483648) 2147483647 v4 → gb_iv (-2147483648) 2147483647 v5 → gb_iv (-2147483648) 2147483647 v7 → gb_iv 0 0 t0 → gb_iv 0 7 t1 → gb_tm (ms_walks_62 n f w v1 v2 v3 v4 v5 v7 t0 t1) Q := by
  intro f w v1 v2 v3 v4 v5 v7 t0 t1 hX iv1 iv2 iv3 iv4 iv5 iv7 it0 it1
  unfold ms_walks_62
  refine gm_ck it1 (by decide) ?_
  refine gm_ltf (gb_XKu hX rfl) (fun f_22 ef_22 hXf_22 => ?_)
  refine gm_if (fun c_5214 => ?_) (fun c_5214 => ?_)
  · exact mt_walks_122 hn hret _ _ _ _ _ _ hXf_22 (gb_it _) iv2 iv3 (gb_it _)
  · refine gm_ck iv2 (by decide) ?_
    refine gm_lti (lo := (-2147483648)) (hi := 2147483647) (gb_it _) (fun x_31 ex_31 ix_31 => ?_)
    refine gm_ck iv2 (by decide) ?_
    refine gm_ltf (gb_XKu hXf_22 rfl) (fun f_33 ef_33 hXf_33 => ?_)
    refine gm_ck iv3 (by decide) ?_
    refine gm_lti (lo := (-2147483648)) (hi := 2147483647) (gb_it _) (fun x_35 ex_35 ix_35 => ?_)
    refine gm_if (fun c_5215 => ?_) (fun c_5215 => ?_)
    · have j_5216 : gb_iv (-2147483648) 0 v4 := (gb_rU (lo := (-2147483648)) (hi := 0) (gb_deq c_5215) (gb_it _) (gb_ic (a := 0) (by decide)) (by decide))
      have j_5217 : gb_iv 0 0 v4 := (gb_rL (lo := 0) (hi := 0) (gb_deq2 c_5215) j_5216 (gb_ic (a := 0) (by decide)) (by decide))
      exact mt_walks_100 hn hret _ _ _ _ _ _ _ _ _ _ _ hXf_33 (gb_it _) iv2 iv3 j_5217 (gb_it _) (gb_it _) (gb_it _) (gb_it _) iv3
    · exact mt_walks_100_i1 hn hret _ _ _ _ _ _ _ _ _ _ _ hXf_33 (gb_it _) iv2 iv3 (gb_it _) (gb_it _) (gb_it _) (gb_ic (a := 0) (by decide)) (gb_it _) iv3
set_option maxHeartbeats 4000000 in
theorem mt_walks_62_i1 {n : Nat} (hn : gb_N ≤ n) {Q : gb_F → Int64 → Unit → Prop} {f0 : gb_F} (hret : ∀ (f : gb_F) (w : Int64) (r : Unit), gb_XK f0 f → True → Q f w r) : ∀ (f : gb_F) (w : Int64) (v1 : Int32) (v2 : Int32) (v3 : Int32) (v4 : Int32) (v5 : Int32) (v7 : Int32) (t0 : Int32) (t1 : Int32), gb_XK f0 f → gb_iv (-2147483648) 2147483647 v1 → gb_iv 0 7 v2 → gb_iv 0 4 v3 → gb_iv (-2147483648) 2147483647 v4 → gb_iv (-2147483648) 2147483647 v5 → gb_iv (-2147483648) 2147483647 v7 → gb_iv (-2147483648) 2147483647 t0 → gb_iv 0 7 t1 → gb_tm (ms_walks_62 n f w v1 v2 v3 v4 v5 v7 t0 t1) Q := by
  intro f w v1 v2 v3 v4 v5 v7 t0 t1 hX iv1 iv2 iv3 iv4 iv5 iv7 it0 it1
  unfold ms_walks_62
  refine gm_ck it1 (by decide) ?_
  refine gm_ltf (gb_XKu hX rfl) (fun f_22 ef_22 hXf_22 => ?_)
  refine gm_if (fun c_5224 => ?_) (fun c_5224 => ?_)
  · exact mt_walks_122 hn hret _ _ _ _ _ _ hXf_22 (gb_it _) iv2 iv3 (gb_it _)
  · refine gm_ck iv2 (by decide) ?_
    refine gm_lti (lo := (-2147483648)) (hi := 2147483647) (gb_it _) (fun x_31 ex_31 ix_31 => ?_)
    refine gm_ck iv2 (by decide) ?_
    refine gm_ltf (gb_XKu hXf_22 rfl) (fun f_33 ef_33 hXf_33 => ?_)
    refine gm_ck iv3 (by decide) ?_
    refine gm_lti (lo := (-2147483648)) (hi := 2147483647) (gb_it _) (fun x_35 ex_35 ix_35 => ?_)
    refine gm_if (fun c_5225 => ?_) (fun c_5225 => ?_)
    · have j_5226 : gb_iv (-2147483648) 0 v4 := (gb_rU (lo := (-2147483648)) (hi := 0) (gb_deq c_5225) (gb_it _) (gb_ic (a := 0) (by decide)) (by decide))
      have j_5227 : gb_iv 0 0 v4 := (gb_rL (lo := 0) (hi := 0) (gb_deq2 c_5225) j_5226 (gb_ic (a := 0) (by decide)) (by decide))
      exact mt_walks_100 hn hret _ _ _ _ _ _ _ _ _ _ _ hXf_33 (gb_it _) iv2 iv3 j_5227 (gb_it _) (gb_it _) (gb_it _) (gb_it _) iv3
    · exact mt_walks_100_i1 hn hret _ _ _ _ _ _ _ _ _ _ _ hXf_33 (gb_it _) iv2 iv3 (gb_it _) (gb_it _) (gb_it _) (gb_ic (a := 0) (by decide)) (gb_it _) iv3
set_option maxHeartbeats 4000000 in
theorem mt_walks {n : Nat} (hn : gb_N ≤ n) {f : gb_F} {w : Int64} {p1 : Int32} {p2 : Int32} {p3 : Int32} {p4 : Int32} {p5 : Int32} (hT : gb_TM f) (ip2 : gb_iv 0 7 p2) (ip3 : gb_iv 0 4 p3) : gb_tm (ms_walks n f w p1 p2 p3 p4 p5) (fun f2 _ _ => gb_XK f f2 ∧ True) := by
  have hX := gb_XKr hT
  unfold ms_walks
  refine gm_bdP (mt_ofPath hn hX.1 (gb_iw (lo := 0) (hi := 100) ip3 (by decide)) (gb_iw (lo := 0) (hi := 2) (gb_ic (a := 0) (by decide)) (by decide))) (fun r_3 h_5210 => ?_)
  refine gm_ck ip2 (by decide) ?_
  refine gm_lti (lo := (-2147483648)) (hi := 2147483647) (gb_it _) (fun x_7 ex_7 ix_7 => ?_)
  refine gm_bdP (mt_ofGoose hn hX.1 (gb_iw (lo := 0) (hi := 70) ip2 (by decide)) (gb_iw (lo := 0) (hi := 4) (gb_ic (a := 3) (by decide)) (by decide))) (fun r_10 h_5211 => ?_)
  refine gm_bdP (mt_left hn hX.1 ip2) (fun r_15 h_5212 => ?_)
  refine gm_ck ip2 (by decide) ?_
  refine gm_lti (lo := (-2147483648)) (hi := 2147483647) (gb_it _) (fun x_19 ex_19 ix_19 => ?_)
  refine gm_if (fun c_5213 => ?_) (fun c_5213 => ?_)
  · exact mt_walks_62 hn (fun _ _ _ hX h => ⟨hX, h⟩) _ _ _ _ _ _ _ _ _ _ hX (gb_it _) ip2 ip3 (gb_it _) (gb_it _) (gb_it _) (gb_ic (a := 0) (by decide)) ip2
  · have j_5222 : gb_iv (-2147483648) 2147483646 r_3 := (gb_rU (lo := (-2147483648)) (hi := 2147483646) (gb_dnle c_5213) (gb_it _) (gb_it _) (by decide))
    have j_5223 : gb_iv (-2147483647) 2147483647 x_19 := (gb_rL (lo := (-2147483647)) (hi := 2147483647) (gb_dnle c_5213) (gb_it _) j_5222 (by decide))
    refine gm_ck ip2 (by decide) ?_
    refine gm_lti (lo := (-2147483648)) (hi := 2147483647) (gb_it _) (fun x_45 ex_45 ix_45 => ?_)
    exact mt_walks_62_i1 hn (fun _ _ _ hX h => ⟨hX, h⟩) _ _ _ _ _ _ _ _ _ _ hX (gb_it _) ip2 ip3 (gb_it _) (gb_it _) (gb_it _) (gb_it _) ip2
set_option maxHeartbeats 4000000 in
theorem mt_rains_2 {n : Nat} (hn : gb_N ≤ n) {Q : gb_F → Int64 → Unit → Prop} {f0 : gb_F} (hret : ∀ (f : gb_F) (w : Int64) (r : Unit), gb_XK f0 f → True → Q f w r) : ∀ (mm : Nat) (f : gb_F) (w : Int64) (v1 : Int32) (v2 : Int32), gb_XK f0 f → gb_iv (-2147483648) 2147483647 v1 → gb_iv 0 5 v2 → (5 - v2.toInt).toNat < mm → gb_tm (ms_rains_2 n mm f w v1 v2) Q := by
  intro mm
  induction mm with
  | zero =>
    intro f w v1 v2 hX iv1 iv2 hm
    exact absurd hm (Nat.not_lt_zero _)
  | succ mm ih =>
    intro f w v1 v2 hX iv1 iv2 hm
    rw [ms_rains_2]
    refine gm_bdP (mt_paths hX.1) (fun r_3 h_5358 => ?_)
    refine gm_if (fun c_5359 => ?_) (fun c_5359 => ?_)
    · exact gm_some (hret _ _ _ hX trivial)
    · have j_5360 : gb_iv 0 4 v2 := (gb_rU (lo := 0) (hi := 4) (gb_dnle c_5359) iv2 h_5358.1 (by decide))
      have j_5361 : gb_iv 1 5 r_3 := (gb_rL (lo := 1) (hi := 5) (gb_dnle c_5359) h_5358.1 j_5360 (by decide))
      have hF_5362 := (gb_PPy hX (h_5358.2 j_5361.1))
      refine gm_ck j_5360 (by decide) ?_
      refine gm_lti (lo := (-2147483648)) (hi := 2147483647) (gb_it _) (fun x_8 ex_8 ix_8 => ?_)
      refine gm_lti (lo := (-2147483648)) (hi := 2147483647) (gb_it _) (fun x_9 ex_9 ix_9 => ?_)
      refine gm_ck j_5360 (by decide) ?_
      refine gm_lti (lo := (-2147483648)) (hi := 2147483647) (gb_it _) (fun x_11 ex_11 ix_11 => ?_)
      refine gm_lti (lo := (-2147483648)) (hi := 2147483647) (gb_it _) (fun x_12 ex_12 ix_12 => ?_)
      refine gm_ck j_5360 (by decide) ?_
      refine gm_lti (lo := (-2147483648)) (hi := 2147483647) (gb_it _) (fun x_14 ex_14 ix_14 => ?_)
      refine gm_ck j_5360 (by decide) ?_
      refine gm_ltf (gb_XKu hX rfl) (fun f_16 ef_16 hXf_16 => ?_)
      refine gm_ck j_5360 (by decide) ?_
      refine gm_lti (lo := (-2147483648)) (hi := 2147483647) (gb_it _) (fun x_18 ex_18 ix_18 => ?_)
      refine gm_ck j_5360 (by decide) ?_
      refine gm_ltf (gb_XKu hXf_16 rfl) (fun f_20 ef_20 hXf_20 => ?_)
      refine gm_ck j_5360 (by decide) ?_
      refine gm_lti (lo := (-2147483648)) (hi := 2147483647) (gb_it _) (fun x_22 ex_22 ix_22 => ?_)
      refine gm_ck j_5360 (by decide) ?_
      refine gm_ltf (gb_XKu hXf_20 rfl) (fun f_24 ef_24 hXf_24 => ?_)
      refine gm_lti (lo := 1) (hi := 5) (gb_iadd (lo := 1) (hi := 5) j_5360 (gb_ic (a := 1) (by decide)) (by decide)) (fun x_25 ex_25 ix_25 => ?_)
      exact ih _ _ _ _ hXf_24 (gb_it _) (gb_iw (lo := 0) (hi := 5) ix_25 (by decide)) (gb_mup ex_25 j_5360 (by decide) hm)
set_option maxHeartbeats 4000000 in
theorem mt_rains {n : Nat} (hn : gb_N ≤ n) {f : gb_F} {w : Int64} {p1 : Int32} (hT : gb_TM f) : gb_tm (ms_rains n f w p1) (fun f2 _ _ => gb_XK f f2 ∧ True) := by
  have hX := gb_XKr hT
  unfold ms_rains
  exact mt_rains_2 hn (fun _ _ _ hX h => ⟨hX, h⟩) n _ _ _ _ hX (gb_it _) (gb_iw (lo := 0) (hi := 5) (gb_ic (a := 0) (by decide)) (by decide)) (gb_fuu hn (gb_iw (lo := 0) (hi := 5) (gb_ic (a := 0) (by decide)) (by decide)) (by decide))
set_option maxHeartbeats 4000000 in
theorem mt_tally {n : Nat} (hn : gb_N ≤ n) {f : gb_F} {w : Int64} {p1 : Int32} (hT : gb_TM f) (ip1 : gb_iv 0 4 p1) : gb_tm (ms_tally n f w p1) (fun f2 w2 r => f2 = f ∧ w2 = w ∧ gb_iv (-2147483648) 2147483647 r) := by
  have hX := gb_XKr hT
  unfold ms_tally
  refine gm_ck ip1 (by decide) ?_
  refine gm_lti (lo := (-2147483648)) (hi := 2147483647) (gb_it _) (fun x_2 ex_2 ix_2 => ?_)
  refine gm_ck ip1 (by decide) ?_
  refine gm_lti (lo := (-2147483648)) (hi := 2147483647) (gb_it _) (fun x_4 ex_4 ix_4 => ?_)
  refine gm_if (fun c_5366 => ?_) (fun c_5366 => ?_)
  · exact gm_some ⟨rfl, rfl, (gb_iw (lo := (-2147483648)) (hi := 2147483647) (gb_ic (a := 0) (by decide)) (by decide))⟩
  · have j_5367 : gb_iv (-2147483648) 2147483646 x_4 := (gb_rU (lo := (-2147483648)) (hi := 2147483646) (gb_dnle c_5366) (gb_it _) (gb_it _) (by decide))
    have j_5368 : gb_iv (-2147483647) 2147483647 x_2 := (gb_rL (lo := (-2147483647)) (hi := 2147483647) (gb_dnle c_5366) (gb_it _) j_5367 (by decide))
    refine gm_ck ip1 (by decide) ?_
    refine gm_lti (lo := (-2147483648)) (hi := 2147483647) (gb_it _) (fun x_7 ex_7 ix_7 => ?_)
    refine gm_ck ip1 (by decide) ?_
    refine gm_lti (lo := (-2147483648)) (hi := 2147483647) (gb_it _) (fun x_9 ex_9 ix_9 => ?_)
    exact gm_some ⟨rfl, rfl, (gb_it _)⟩
set_option maxHeartbeats 4000000 in
theorem mt_padded {n : Nat} (hn : gb_N ≤ n) {f : gb_F} {w : Int64} {p1 : Int32} {p2 : Int32} (hT : gb_TM f) (ip2 : gb_iv 0 100 p2) : gb_tm (ms_padded n f w p1 p2) (fun f2 w2 r => f2 = f ∧ w2 = w ∧ gb_iv (-2147483648) 2147483647 r) := by
  have hX := gb_XKr hT
  unfold ms_padded
  refine gm_bdP (mt_ofPath hn hX.1 ip2 (gb_iw (lo := 0) (hi := 2) (gb_ic (a := 2) (by decide)) (by decide))) (fun r_3 h_5370 => ?_)
  refine gm_lti (lo := (-2147483648)) (hi := 2147483647) (gb_it _) (fun x_6 ex_6 ix_6 => ?_)
  exact gm_some ⟨rfl, rfl, (gb_it _)⟩
set_option maxHeartbeats 4000000 in
theorem mt_pay {n : Nat} (hn : gb_N ≤ n) {f : gb_F} {w : Int64} {p1 : Int32} (hT : gb_TM f) (ip1 : gb_iv 0 4 p1) : gb_tm (ms_pay n f w p1) (fun f2 w2 r => f2 = f ∧ w2 = w ∧ gb_iv (-2147483648) 2147483647 r) := by
  have hX := gb_XKr hT
  unfold ms_pay
  refine gm_bdP (mt_ofPath hn hX.1 (gb_iw (lo := 0) (hi := 100) ip1 (by decide)) (gb_iw (lo := 0) (hi := 2) (gb_ic (a := 1) (by decide)) (by decide))) (fun r_3 h_5374 => ?_)
  refine gm_bdP (mt_tally hn hX.1 ip1) (fun r_8 h_5375 => ?_)
  refine gm_bdP (mt_padded hn hX.1 (gb_iw (lo := 0) (hi := 100) ip1 (by decide))) (fun r_13 h_5376 => ?_)
  exact gm_some ⟨rfl, rfl, (gb_it _)⟩
set_option maxHeartbeats 4000000 in
theorem mt_allPay_4 {n : Nat} (hn : gb_N ≤ n) {Q : gb_F → Int64 → Int32 → Prop} {f : gb_F} {w : Int64} (hX : gb_XK f f) (hret : ∀ (r : Int32), gb_iv (-2147483648) 2147483647 r → Q f w r) : ∀ (mm : Nat) (v1 : Int32) (v2 : Int32), gb_iv (-2147483648) 2147483647 v1 → gb_iv 0 5 v2 → (5 - v2.toInt).toNat < mm → gb_tm (ms_allPay_4 n mm f w v1 v2) Q := by
  intro mm
  induction mm with
  | zero =>
    intro v1 v2 iv1 iv2 hm
    exact absurd hm (Nat.not_lt_zero _)
  | succ mm ih =>
    intro v1 v2 iv1 iv2 hm
    rw [ms_allPay_4]
    refine gm_bdP (mt_paths hX.1) (fun r_3 h_5533 => ?_)
    refine gm_if (fun c_5534 => ?_) (fun c_5534 => ?_)
    · exact gm_some (hret _ (gb_it _))
    · have j_5535 : gb_iv 0 4 v2 := (gb_rU (lo := 0) (hi := 4) (gb_dnle c_5534) iv2 h_5533.1 (by decide))
      have j_5536 : gb_iv 1 5 r_3 := (gb_rL (lo := 1) (hi := 5) (gb_dnle c_5534) h_5533.1 j_5535 (by decide))
      have hF_5537 := (gb_PPy hX (h_5533.2 j_5536.1))
      refine gm_bdP (mt_pay hn hX.1 j_5535) (fun r_9 h_5538 => ?_)
      refine gm_lti (lo := (-2147483648)) (hi := 2147483647) (gb_it _) (fun x_12 ex_12 ix_12 => ?_)
      refine gm_lti (lo := 1) (hi := 5) (gb_iadd (lo := 1) (hi := 5) j_5535 (gb_ic (a := 1) (by decide)) (by decide)) (fun x_13 ex_13 ix_13 => ?_)
      exact ih _ _ (gb_it _) (gb_iw (lo := 0) (hi := 5) ix_13 (by decide)) (gb_mup ex_13 j_5535 (by decide) hm)
set_option maxHeartbeats 4000000 in
theorem mt_allPay {n : Nat} (hn : gb_N ≤ n) {f : gb_F} {w : Int64} (hT : gb_TM f) : gb_tm (ms_allPay n f w) (fun f2 w2 r => f2 = f ∧ w2 = w ∧ gb_iv (-2147483648) 2147483647 r) := by
  have hX := gb_XKr hT
  unfold ms_allPay
  exact mt_allPay_4 hn hX (fun _ h => ⟨rfl, rfl, h⟩) n _ _ (gb_iw (lo := (-2147483648)) (hi := 2147483647) (gb_ic (a := 0) (by decide)) (by decide)) (gb_iw (lo := 0) (hi := 5) (gb_ic (a := 0) (by decide)) (by decide)) (gb_fuu hn (gb_iw (lo := 0) (hi := 5) (gb_ic (a := 0) (by decide)) (by decide)) (by decide))
set_option maxHeartbeats 4000000 in
theorem mt_worn_4 {n : Nat} (hn : gb_N ≤ n) {Q : gb_F → Int64 → Int32 → Prop} {f : gb_F} {w : Int64} (hX : gb_XK f f) (hret : ∀ (r : Int32), gb_iv 0 255 r → Q f w r) : ∀ (mm : Nat) (v1 : Int32) (v2 : Int32), gb_iv 0 255 v1 → gb_iv 0 8 v2 → (8 - v2.toInt).toNat < mm → gb_tm (ms_worn_4 n mm f w v1 v2) Q := by
  intro mm
  induction mm with
  | zero =>
    intro v1 v2 iv1 iv2 hm
    exact absurd hm (Nat.not_lt_zero _)
  | succ mm ih =>
    intro v1 v2 iv1 iv2 hm
    rw [ms_worn_4]
    refine gm_bdP (mt_geese hX.1) (fun r_3 h_5839 => ?_)
    refine gm_if (fun c_5840 => ?_) (fun c_5840 => ?_)
    · exact gm_some (hret _ iv1)
    · have j_5841 : gb_iv 0 7 v2 := (gb_rU (lo := 0) (hi := 7) (gb_dnle c_5840) iv2 h_5839 (by decide))
      have j_5842 : gb_iv 1 8 r_3 := (gb_rL (lo := 1) (hi := 8) (gb_dnle c_5840) h_5839 j_5841 (by decide))
      refine gm_ck j_5841 (by decide) ?_
      refine gm_lti (lo := (-2147483648)) (hi := 2147483647) (gb_it _) (fun x_8 ex_8 ix_8 => ?_)
      refine gm_if (fun c_5843 => ?_) (fun c_5843 => ?_)
      · have j_5844 : gb_iv (-2147483648) 0 x_8 := (gb_rU (lo := (-2147483648)) (hi := 0) (gb_deq c_5843) (gb_it _) (gb_ic (a := 0) (by decide)) (by decide))
        have j_5845 : gb_iv 0 0 x_8 := (gb_rL (lo := 0) (hi := 0) (gb_deq2 c_5843) j_5844 (gb_ic (a := 0) (by decide)) (by decide))
        refine gm_lti (lo := 0) (hi := 255) (gb_ior iv1 (gb_iw (lo := 0) (hi := 255) (gb_ic (a := 0) (by decide)) (by decide))) (fun x_10 ex_10 ix_10 => ?_)
        refine gm_lti (lo := 1) (hi := 8) (gb_iadd (lo := 1) (hi := 8) j_5841 (gb_ic (a := 1) (by decide)) (by decide)) (fun x_11 ex_11 ix_11 => ?_)
        exact ih _ _ ix_10 (gb_iw (lo := 0) (hi := 8) ix_11 (by decide)) (gb_mup ex_11 j_5841 (by decide) hm)
      · refine gm_ck j_5841 (by decide) ?_
        refine gm_lti (lo := (-2147483648)) (hi := 2147483647) (gb_it _) (fun x_13 ex_13 ix_13 => ?_)
        refine gm_if (fun c_5846 => ?_) (fun c_5846 => ?_)
        · have j_5847 : gb_iv (-2147483648) 0 x_13 := (gb_rU (lo := (-2147483648)) (hi := 0) (gb_deq c_5846) (gb_it _) (gb_ic (a := 0) (by decide)) (by decide))
          have j_5848 : gb_iv 0 0 x_13 := (gb_rL (lo := 0) (hi := 0) (gb_deq2 c_5846) j_5847 (gb_ic (a := 0) (by decide)) (by decide))
          refine gm_lti (lo := 0) (hi := 255) (gb_ior iv1 (gb_iw (lo := 0) (hi := 255) (gb_ishl (lo := 1) (hi := 128) j_5841 (by decide)) (by decide))) (fun x_17 ex_17 ix_17 => ?_)
          refine gm_lti (lo := 1) (hi := 8) (gb_iadd (lo := 1) (hi := 8) j_5841 (gb_ic (a := 1) (by decide)) (by decide)) (fun x_18 ex_18 ix_18 => ?_)
          exact ih _ _ ix_17 (gb_iw (lo := 0) (hi := 8) ix_18 (by decide)) (gb_mup ex_18 j_5841 (by decide) hm)
        · refine gm_lti (lo := 0) (hi := 255) (gb_ior iv1 (gb_iw (lo := 0) (hi := 255) (gb_ic (a := 0) (by decide)) (by decide))) (fun x_15 ex_15 ix_15 => ?_)
          refine gm_lti (lo := 1) (hi := 8) (gb_iadd (lo := 1) (hi := 8) j_5841 (gb_ic (a := 1) (by decide)) (by decide)) (fun x_16 ex_16 ix_16 => ?_)
          exact ih _ _ ix_15 (gb_iw (lo := 0) (hi := 8) ix_16 (by decide)) (gb_mup ex_16 j_5841 (by decide) hm)
set_option maxHeartbeats 4000000 in
theorem mt_worn {n : Nat} (hn : gb_N ≤ n) {f : gb_F} {w : Int64} (hT : gb_TM f) : gb_tm (ms_worn n f w) (fun f2 w2 r => f2 = f ∧ w2 = w ∧ gb_iv 0 255 r) := by
  have hX := gb_XKr hT
  unfold ms_worn
  exact mt_worn_4 hn hX (fun _ h => ⟨rfl, rfl, h⟩) n _ _ (gb_iw (lo := 0) (hi := 255) (gb_ic (a := 0) (by decide)) (by decide)) (gb_iw (lo := 0) (hi := 8) (gb_ic (a := 0) (by decide)) (by decide)) (gb_fuu hn (gb_iw (lo := 0) (hi := 8) (gb_ic (a := 0) (by decide)) (by decide)) (by decide))
set_option maxHeartbeats 4000000 in
theorem mt_termOf {n : Nat} (hn : gb_N ≤ n) {f : gb_F} {w : Int64} {p1 : Int32} {p2 : Int32} (hT : gb_TM f) (ip1 : gb_iv 0 8 p1) (ip2 : gb_iv 0 2 p2) : gb_tm (ms_termOf n f w p1 p2) (fun f2 w2 r => f2 = f ∧ w2 = w ∧ gb_iv (-2147483648) 2147483647 r) := by
  have hX := gb_XKr hT
  unfold ms_termOf
  refine gm_ck (gb_iadd (lo := 1) (hi := 972) (gb_iadd (lo := 1) (hi := 970) (gb_iadd (lo := 1) (hi := 946) (gb_i25 hX.1) (gb_ic (a := 1) (by decide)) (by decide)) (gb_imul (lo := 0) (hi := 24) (gb_ic (a := 3) (by decide)) ip1 (by decide)) (by decide)) ip2 (by decide)) (by decide) ?_
  refine gm_lti (lo := (-2147483648)) (hi := 2147483647) (gb_it _) (fun x_2 ex_2 ix_2 => ?_)
  exact gm_some ⟨rfl, rfl, (gb_it _)⟩
set_option maxHeartbeats 4000000 in
theorem mt_term {n : Nat} (hn : gb_N ≤ n) {f : gb_F} {w : Int64} {p1 : Int32} {p2 : Int32} {p3 : Int32} (hT : gb_TM f) : gb_tm (ms_term n f w p1 p2 p3) (fun f2 _ r => gb_TM f2 ∧ gb_iv (-2147483648) 2147483647 r) := by
  have hX := gb_XKr hT
  unfold ms_term
  refine gm_bdP (mt_isOf hX.1 (gb_iw (lo := 0) (hi := 3) (gb_ic (a := 2) (by decide)) (by decide))) (fun r_3 h_5872 => ?_)
  refine gm_if (fun c_5873 => ?_) (fun c_5873 => ?_)
  · have j_5874 : gb_iv 0 0 r_3 := (gb_rU (lo := 0) (hi := 0) (gb_deq c_5873) h_5872.1 (gb_ic (a := 0) (by decide)) (by decide))
    exact gm_some ⟨hX.1, (gb_iw (lo := (-2147483648)) (hi := 2147483647) (gb_ic (a := (-2)) (by decide)) (by decide))⟩
  · have j_5875 : gb_iv 1 1 r_3 := (gb_rN (lo := 1) (hi := 1) (v := 0) c_5873 h_5872.1 (by decide) (by decide))
    have j_5876 : gb_iv 0 1 p1 := (h_5872.2 c_5873)
    refine gm_bdP (mt_placeOf2 j_5876) (fun r_9 h_5877 => ?_)
    refine gm_ltT (gb_TM25 hX.1 (Or.inr h_5877)) (fun f_12 ef_12 hXf_12 => ?_)
    refine gm_if (fun c_5878 => ?_) (fun c_5878 => ?_)
    · have j_5879 : gb_iv (-2147483648) (-1) p2 := (gb_rU (lo := (-2147483648)) (hi := (-1)) (gb_deq c_5878) (gb_it _) (gb_ic (a := (-1)) (by decide)) (by decide))
      have j_5880 : gb_iv (-1) (-1) p2 := (gb_rL (lo := (-1)) (hi := (-1)) (gb_deq2 c_5878) j_5879 (gb_ic (a := (-1)) (by decide)) (by decide))
      refine gm_if (fun c_5881 => ?_) (fun c_5881 => ?_)
      · have j_5882 : gb_iv (-2147483648) 0 p3 := (gb_rU (lo := (-2147483648)) (hi := 0) (gb_deq c_5881) (gb_it _) (gb_ic (a := 0) (by decide)) (by decide))
        have j_5883 : gb_iv 0 0 p3 := (gb_rL (lo := 0) (hi := 0) (gb_deq2 c_5881) j_5882 (gb_ic (a := 0) (by decide)) (by decide))
        refine gm_ck (gb_i25 hXf_12.1) (by decide) ?_
        refine gm_lti (lo := 0) (hi := 8) (gb_r25 hXf_12.1) (fun x_35 ex_35 ix_35 => ?_)
        exact gm_some ⟨hXf_12.1, (gb_iw (lo := (-2147483648)) (hi := 2147483647) ix_35 (by decide))⟩
      · exact gm_some ⟨hXf_12.1, (gb_iw (lo := (-2147483648)) (hi := 2147483647) (gb_ic (a := (-2)) (by decide)) (by decide))⟩
    · refine gm_ck (gb_i25 hXf_12.1) (by decide) ?_
      refine gm_lti (lo := 0) (hi := 8) (gb_r25 hXf_12.1) (fun x_15 ex_15 ix_15 => ?_)
      refine gm_bdP mt_isIn (fun r_18 h_5884 => ?_)
      refine gm_if (fun c_5885 => ?_) (fun c_5885 => ?_)
      · have j_5886 : gb_iv 0 0 r_18 := (gb_rU (lo := 0) (hi := 0) (gb_deq c_5885) h_5884.1 (gb_ic (a := 0) (by decide)) (by decide))
        exact gm_some ⟨hXf_12.1, (gb_iw (lo := (-2147483648)) (hi := 2147483647) (gb_ic (a := (-2)) (by decide)) (by decide))⟩
      · have j_5887 : gb_iv 1 1 r_18 := (gb_rN (lo := 1) (hi := 1) (v := 0) c_5885 h_5884.1 (by decide) (by decide))
        have j_5888 : gb_iv 0 7 p2 := ((fun q_ => gb_iin (a := 0) (b := 0) (h_5884.2 q_) (gb_ic (a := 0) (by decide)).1 (gb_isub (lo := (-1)) (hi := 7) ix_15 (gb_ic (a := 1) (by decide)) (by decide)).2) c_5885)
        refine gm_bdP mt_isIn (fun r_24 h_5889 => ?_)
        refine gm_if (fun c_5890 => ?_) (fun c_5890 => ?_)
        · have j_5891 : gb_iv 0 0 r_24 := (gb_rU (lo := 0) (hi := 0) (gb_deq c_5890) h_5889.1 (gb_ic (a := 0) (by decide)) (by decide))
          exact gm_some ⟨hXf_12.1, (gb_iw (lo := (-2147483648)) (hi := 2147483647) (gb_ic (a := (-2)) (by decide)) (by decide))⟩
        · have j_5892 : gb_iv 1 1 r_24 := (gb_rN (lo := 1) (hi := 1) (v := 0) c_5890 h_5889.1 (by decide) (by decide))
          have j_5893 : gb_iv 0 2 p3 := ((fun q_ => gb_iin (a := 0) (b := 0) (h_5889.2 q_) (gb_ic (a := 0) (by decide)).1 (gb_ic (a := 2) (by decide)).2) c_5890)
          refine gm_bdP (mt_termOf hn hXf_12.1 (gb_iw (lo := 0) (hi := 8) j_5888 (by decide)) j_5893) (fun r_30 h_5894 => ?_)
          exact gm_some ⟨hXf_12.1, (gb_it _)⟩
set_option maxHeartbeats 4000000 in
theorem mt_paysBy_4 {n : Nat} (hn : gb_N ≤ n) {Q : gb_F → Int64 → Int32 → Prop} {f : gb_F} {w : Int64} (hX : gb_XK f f) (hret : ∀ (r : Int32), gb_iv (-2147483648) 2147483647 r → Q f w r) : ∀ (mm : Nat) (v1 : Int32) (v2 : Int32) (v3 : Int32), gb_iv (-2147483648) 2147483647 v1 → gb_iv (-2147483648) 2147483647 v2 → gb_iv 0 8 v3 → (8 - v3.toInt).toNat < mm → gb_tm (ms_paysBy_4 n mm f w v1 v2 v3) Q := by
  intro mm
  induction mm with
  | zero =>
    intro v1 v2 v3 iv1 iv2 iv3 hm
    exact absurd hm (Nat.not_lt_zero _)
  | succ mm ih =>
    intro v1 v2 v3 iv1 iv2 iv3 hm
    rw [ms_paysBy_4]
    refine gm_ck (gb_i25 hX.1) (by decide) ?_
    refine gm_lti (lo := 0) (hi := 8) (gb_r25 hX.1) (fun x_2 ex_2 ix_2 => ?_)
    refine gm_if (fun c_6795 => ?_) (fun c_6795 => ?_)
    · exact gm_some (hret _ (gb_it _))
    · have j_6796 : gb_iv 0 7 v3 := (gb_rU (lo := 0) (hi := 7) (gb_dnle c_6795) iv3 ix_2 (by decide))
      have j_6797 : gb_iv 1 8 x_2 := (gb_rL (lo := 1) (hi := 8) (gb_dnle c_6795) ix_2 j_6796 (by decide))
      refine gm_bdP (mt_termOf hn hX.1 (gb_iw (lo := 0) (hi := 8) j_6796 (by decide)) (gb_iw (lo := 0) (hi := 2) (gb_ic (a := 1) (by decide)) (by decide))) (fun r_6 h_6798 => ?_)
      refine gm_bdP (mt_termOf hn hX.1 (gb_iw (lo := 0) (hi := 8) j_6796 (by decide)) (gb_iw (lo := 0) (hi := 2) (gb_ic (a := 2) (by decide)) (by decide))) (fun r_11 h_6799 => ?_)
      refine gm_bdP (mt_termOf hn hX.1 (gb_iw (lo := 0) (hi := 8) j_6796 (by decide)) (gb_iw (lo := 0) (hi := 2) (gb_ic (a := 0) (by decide)) (by decide))) (fun r_16 h_6800 => ?_)
      refine gm_if (fun c_6801 => ?_) (fun c_6801 => ?_)
      · have j_6802 : gb_iv (-2147483648) 0 r_16 := (gb_rU (lo := (-2147483648)) (hi := 0) (gb_deq c_6801) (gb_it _) (gb_ic (a := 0) (by decide)) (by decide))
        have j_6803 : gb_iv 0 0 r_16 := (gb_rL (lo := 0) (hi := 0) (gb_deq2 c_6801) j_6802 (gb_ic (a := 0) (by decide)) (by decide))
        refine gm_lti (lo := (-2147483648)) (hi := 2147483647) (gb_it _) (fun x_20 ex_20 ix_20 => ?_)
        refine gm_lti (lo := 1) (hi := 8) (gb_iadd (lo := 1) (hi := 8) j_6796 (gb_ic (a := 1) (by decide)) (by decide)) (fun x_21 ex_21 ix_21 => ?_)
        exact ih _ _ _ (gb_it _) (gb_it _) (gb_iw (lo := 0) (hi := 8) ix_21 (by decide)) (gb_mup ex_21 j_6796 (by decide) hm)
      · refine gm_if (fun c_6804 => ?_) (fun c_6804 => ?_)
        · have j_6805 : gb_iv (-2147483648) 1 r_16 := (gb_rU (lo := (-2147483648)) (hi := 1) (gb_deq c_6804) (gb_it _) (gb_ic (a := 1) (by decide)) (by decide))
          have j_6806 : gb_iv 1 1 r_16 := (gb_rL (lo := 1) (hi := 1) (gb_deq2 c_6804) j_6805 (gb_ic (a := 1) (by decide)) (by decide))
          refine gm_if (fun c_6807 => ?_) (fun c_6807 => ?_)
          · refine gm_lti (lo := (-2147483648)) (hi := 2147483647) (gb_iadd (lo := (-2147483648)) (hi := 2147483647) (gb_it _) (gb_ic (a := 0) (by decide)) (by decide)) (fun x_24 ex_24 ix_24 => ?_)
            refine gm_lti (lo := 1) (hi := 8) (gb_iadd (lo := 1) (hi := 8) j_6796 (gb_ic (a := 1) (by decide)) (by decide)) (fun x_25 ex_25 ix_25 => ?_)
            exact ih _ _ _ (gb_it _) (gb_it _) (gb_iw (lo := 0) (hi := 8) ix_25 (by decide)) (gb_mup ex_25 j_6796 (by decide) hm)
          · have j_6808 : gb_iv (-2147483648) 2147483646 r_6 := (gb_rU (lo := (-2147483648)) (hi := 2147483646) (gb_dnle c_6807) (gb_it _) (gb_it _) (by decide))
            have j_6809 : gb_iv (-2147483647) 2147483647 v1 := (gb_rL (lo := (-2147483647)) (hi := 2147483647) (gb_dnle c_6807) (gb_it _) j_6808 (by decide))
            refine gm_lti (lo := (-2147483648)) (hi := 2147483647) (gb_it _) (fun x_26 ex_26 ix_26 => ?_)
            refine gm_lti (lo := 1) (hi := 8) (gb_iadd (lo := 1) (hi := 8) j_6796 (gb_ic (a := 1) (by decide)) (by decide)) (fun x_27 ex_27 ix_27 => ?_)
            exact ih _ _ _ (gb_iw (lo := (-2147483648)) (hi := 2147483647) j_6809 (by decide)) (gb_it _) (gb_iw (lo := 0) (hi := 8) ix_27 (by decide)) (gb_mup ex_27 j_6796 (by decide) hm)
        · refine gm_if (fun c_6810 => ?_) (fun c_6810 => ?_)
          · have j_6811 : gb_iv (-2147483648) 2 r_16 := (gb_rU (lo := (-2147483648)) (hi := 2) (gb_deq c_6810) (gb_it _) (gb_ic (a := 2) (by decide)) (by decide))
            have j_6812 : gb_iv 2 2 r_16 := (gb_rL (lo := 2) (hi := 2) (gb_deq2 c_6810) j_6811 (gb_ic (a := 2) (by decide)) (by decide))
            refine gm_if (fun c_6813 => ?_) (fun c_6813 => ?_)
            · refine gm_lti (lo := (-2147483648)) (hi := 2147483647) (gb_iadd (lo := (-2147483648)) (hi := 2147483647) (gb_it _) (gb_ic (a := 0) (by decide)) (by decide)) (fun x_30 ex_30 ix_30 => ?_)
              refine gm_lti (lo := 1) (hi := 8) (gb_iadd (lo := 1) (hi := 8) j_6796 (gb_ic (a := 1) (by decide)) (by decide)) (fun x_31 ex_31 ix_31 => ?_)
              exact ih _ _ _ (gb_it _) (gb_it _) (gb_iw (lo := 0) (hi := 8) ix_31 (by decide)) (gb_mup ex_31 j_6796 (by decide) hm)
            · have j_6814 : gb_iv (-2147483648) 2147483646 v1 := (gb_rU (lo := (-2147483648)) (hi := 2147483646) (gb_dnle c_6813) (gb_it _) (gb_it _) (by decide))
              have j_6815 : gb_iv (-2147483647) 2147483647 r_6 := (gb_rL (lo := (-2147483647)) (hi := 2147483647) (gb_dnle c_6813) (gb_it _) j_6814 (by decide))
              refine gm_lti (lo := (-2147483648)) (hi := 2147483647) (gb_it _) (fun x_32 ex_32 ix_32 => ?_)
              refine gm_lti (lo := 1) (hi := 8) (gb_iadd (lo := 1) (hi := 8) j_6796 (gb_ic (a := 1) (by decide)) (by decide)) (fun x_33 ex_33 ix_33 => ?_)
              exact ih _ _ _ (gb_iw (lo := (-2147483648)) (hi := 2147483647) j_6814 (by decide)) (gb_it _) (gb_iw (lo := 0) (hi := 8) ix_33 (by decide)) (gb_mup ex_33 j_6796 (by decide) hm)
          · refine gm_if (fun c_6816 => ?_) (fun c_6816 => ?_)
            · have j_6817 : gb_iv (-2147483648) 3 r_16 := (gb_rU (lo := (-2147483648)) (hi := 3) (gb_deq c_6816) (gb_it _) (gb_ic (a := 3) (by decide)) (by decide))
              have j_6818 : gb_iv 3 3 r_16 := (gb_rL (lo := 3) (hi := 3) (gb_deq2 c_6816) j_6817 (gb_ic (a := 3) (by decide)) (by decide))
              refine gm_lti (lo := (-2147483648)) (hi := 2147483647) (gb_it _) (fun x_35 ex_35 ix_35 => ?_)
              refine gm_if (fun c_6819 => ?_) (fun c_6819 => ?_)
              · have j_6820 : gb_iv (-2147483648) 1 x_35 := (gb_rU (lo := (-2147483648)) (hi := 1) (gb_deq c_6819) (gb_it _) (gb_ic (a := 1) (by decide)) (by decide))
                have j_6821 : gb_iv 1 1 x_35 := (gb_rL (lo := 1) (hi := 1) (gb_deq2 c_6819) j_6820 (gb_ic (a := 1) (by decide)) (by decide))
                refine gm_lti (lo := (-2147483648)) (hi := 2147483647) (gb_it _) (fun x_39 ex_39 ix_39 => ?_)
                refine gm_lti (lo := 1) (hi := 8) (gb_iadd (lo := 1) (hi := 8) j_6796 (gb_ic (a := 1) (by decide)) (by decide)) (fun x_40 ex_40 ix_40 => ?_)
                exact ih _ _ _ (gb_it _) (gb_it _) (gb_iw (lo := 0) (hi := 8) ix_40 (by decide)) (gb_mup ex_40 j_6796 (by decide) hm)
              · refine gm_lti (lo := (-2147483648)) (hi := 2147483647) (gb_iadd (lo := (-2147483648)) (hi := 2147483647) (gb_it _) (gb_ic (a := 0) (by decide)) (by decide)) (fun x_37 ex_37 ix_37 => ?_)
                refine gm_lti (lo := 1) (hi := 8) (gb_iadd (lo := 1) (hi := 8) j_6796 (gb_ic (a := 1) (by decide)) (by decide)) (fun x_38 ex_38 ix_38 => ?_)
                exact ih _ _ _ (gb_it _) (gb_it _) (gb_iw (lo := 0) (hi := 8) ix_38 (by decide)) (gb_mup ex_38 j_6796 (by decide) hm)
            · refine gm_if (fun c_6822 => ?_) (fun c_6822 => ?_)
              · refine gm_lti (lo := 1) (hi := 8) (gb_iadd (lo := 1) (hi := 8) j_6796 (gb_ic (a := 1) (by decide)) (by decide)) (fun x_42 ex_42 ix_42 => ?_)
                exact ih _ _ _ (gb_it _) (gb_it _) (gb_iw (lo := 0) (hi := 8) ix_42 (by decide)) (gb_mup ex_42 j_6796 (by decide) hm)
              · have j_6823 : gb_iv (-2147483648) 2147483646 r_6 := (gb_rU (lo := (-2147483648)) (hi := 2147483646) (gb_dnle c_6822) (gb_it _) (gb_it _) (by decide))
                have j_6824 : gb_iv (-2147483647) 2147483647 v2 := (gb_rL (lo := (-2147483647)) (hi := 2147483647) (gb_dnle c_6822) (gb_it _) j_6823 (by decide))
                refine gm_lti (lo := 1) (hi := 8) (gb_iadd (lo := 1) (hi := 8) j_6796 (gb_ic (a := 1) (by decide)) (by decide)) (fun x_43 ex_43 ix_43 => ?_)
                exact ih _ _ _ (gb_it _) (gb_iw (lo := (-2147483648)) (hi := 2147483647) j_6823 (by decide)) (gb_iw (lo := 0) (hi := 8) ix_43 (by decide)) (gb_mup ex_43 j_6796 (by decide) hm)
set_option maxHeartbeats 4000000 in
theorem mt_paysBy {n : Nat} (hn : gb_N ≤ n) {f : gb_F} {w : Int64} {p1 : Int32} (hT : gb_TM f) : gb_tm (ms_paysBy n f w p1) (fun f2 w2 r => f2 = f ∧ w2 = w ∧ gb_iv (-2147483648) 2147483647 r) := by
  have hX := gb_XKr hT
  unfold ms_paysBy
  exact mt_paysBy_4 hn hX (fun _ h => ⟨rfl, rfl, h⟩) n _ _ _ (gb_it _) (gb_iw (lo := (-2147483648)) (hi := 2147483647) (gb_ic (a := 0) (by decide)) (by decide)) (gb_iw (lo := 0) (hi := 8) (gb_ic (a := 0) (by decide)) (by decide)) (gb_fuu hn (gb_iw (lo := 0) (hi := 8) (gb_ic (a := 0) (by decide)) (by decide)) (by decide))
set_option maxHeartbeats 4000000 in
theorem mt_pays {n : Nat} (hn : gb_N ≤ n) {f : gb_F} {w : Int64} {p1 : Int32} {p2 : Int32} (hT : gb_TM f) : gb_tm (ms_pays n f w p1 p2) (fun f2 _ r => gb_TM f2 ∧ gb_iv (-2147483648) 2147483647 r) := by
  have hX := gb_XKr hT
  unfold ms_pays
  refine gm_bdP (mt_isOf hX.1 (gb_iw (lo := 0) (hi := 3) (gb_ic (a := 2) (by decide)) (by decide))) (fun r_3 h_6837 => ?_)
  refine gm_if (fun c_6838 => ?_) (fun c_6838 => ?_)
  · have j_6839 : gb_iv 0 0 r_3 := (gb_rU (lo := 0) (hi := 0) (gb_deq c_6838) h_6837.1 (gb_ic (a := 0) (by decide)) (by decide))
    exact gm_some ⟨hX.1, (gb_iw (lo := (-2147483648)) (hi := 2147483647) (gb_ic (a := (-1)) (by decide)) (by decide))⟩
  · have j_6840 : gb_iv 1 1 r_3 := (gb_rN (lo := 1) (hi := 1) (v := 0) c_6838 h_6837.1 (by decide) (by decide))
    have j_6841 : gb_iv 0 1 p1 := (h_6837.2 c_6838)
    refine gm_bdP mt_isIn (fun r_9 h_6842 => ?_)
    refine gm_if (fun c_6843 => ?_) (fun c_6843 => ?_)
    · have j_6844 : gb_iv 0 0 r_9 := (gb_rU (lo := 0) (hi := 0) (gb_deq c_6843) h_6842.1 (gb_ic (a := 0) (by decide)) (by decide))
      exact gm_some ⟨hX.1, (gb_iw (lo := (-2147483648)) (hi := 2147483647) (gb_ic (a := (-1)) (by decide)) (by decide))⟩
    · have j_6845 : gb_iv 1 1 r_9 := (gb_rN (lo := 1) (hi := 1) (v := 0) c_6843 h_6842.1 (by decide) (by decide))
      have j_6846 : gb_iv 0 9999 p2 := ((fun q_ => gb_iin (a := 0) (b := 0) (h_6842.2 q_) (gb_ic (a := 0) (by decide)).1 (gb_ic (a := 9999) (by decide)).2) c_6843)
      refine gm_bdP (mt_placeOf2 j_6841) (fun r_15 h_6847 => ?_)
      refine gm_ltT (gb_TM25 hX.1 (Or.inr h_6847)) (fun f_18 ef_18 hXf_18 => ?_)
      refine gm_bdP (mt_paysBy hn hXf_18.1) (fun r_21 h_6848 => ?_)
      exact gm_some ⟨hXf_18.1, (gb_it _)⟩
set_option maxHeartbeats 4000000 in
theorem mt_measures_12 {n : Nat} (hn : gb_N ≤ n) {Q : gb_F → Int64 → Unit → Prop} {f0 : gb_F} {k2 : gb_F → Int64 → Int32 → gb_MR Unit} {M2 : Nat} (hk2 : ∀ (f : gb_F) (w : Int64) (v1 : Int32), gb_XK f0 f → gb_iv 0 8 v1 → (8 - v1.toInt).toNat < M2 → gb_tm (k2 f w v1) Q) (hret : ∀ (f : gb_F) (w : Int64) (r : Unit), gb_XK f0 f → True → Q f w r) : ∀ (mm : Nat) (f : gb_F) (w : Int64) (v1 : Int32) (v2 : Int32), gb_XK f0 f → gb_iv 0 7 v1 → gb_iv 0 5 v2 → (8 - v1.toInt).toNat < M2 + 1 → (5 - v2.toInt).toNat < mm → gb_tm (ms_measures_12 n k2 mm f w v1 v2) Q := by
  intro mm
  induction mm with
  | zero =>
    intro f w v1 v2 hX iv1 iv2 hm2 hm
    exact absurd hm (Nat.not_lt_zero _)
  | succ mm ih =>
    intro f w v1 v2 hX iv1 iv2 hm2 hm
    rw [ms_measures_12]
    refine gm_bdP (mt_paths hX.1) (fun r_9 h_9391 => ?_)
    refine gm_if (fun c_9392 => ?_) (fun c_9392 => ?_)
    · refine gm_lti (lo := 1) (hi := 8) (gb_iadd (lo := 1) (hi := 8) iv1 (gb_ic (a := 1) (by decide)) (by decide)) (fun x_13 ex_13 ix_13 => ?_)
      exact hk2 _ _ _ hX (gb_iw (lo := 0) (hi := 8) ix_13 (by decide)) (gb_mup ex_13 iv1 (by decide) hm2)
    · have j_9393 : gb_iv 0 4 v2 := (gb_rU (lo := 0) (hi := 4) (gb_dnle c_9392) iv2 h_9391.1 (by decide))
      have j_9394 : gb_iv 1 5 r_9 := (gb_rL (lo := 1) (hi := 5) (gb_dnle c_9392) h_9391.1 j_9393 (by decide))
      have hF_9395 := (gb_PPy hX (h_9391.2 j_9394.1))
      refine gm_bdP (mt_firstMarks hn hX.1 iv1 (gb_iw (lo := 0) (hi := 100) j_9393 (by decide))) (fun r_16 h_9396 => ?_)
      refine gm_ck (gb_iadd (lo := 0) (hi := 39) (gb_imul (lo := 0) (hi := 35) (gb_ic (a := 5) (by decide)) iv1 (by decide)) j_9393 (by decide)) (by decide) ?_
      refine gm_ltf (gb_XKu hX rfl) (fun f_20 ef_20 hXf_20 => ?_)
      refine gm_lti (lo := 1) (hi := 5) (gb_iadd (lo := 1) (hi := 5) j_9393 (gb_ic (a := 1) (by decide)) (by decide)) (fun x_21 ex_21 ix_21 => ?_)
      exact ih _ _ _ _ hXf_20 iv1 (gb_iw (lo := 0) (hi := 5) ix_21 (by decide)) hm2 (gb_mup ex_21 j_9393 (by decide) hm)
set_option maxHeartbeats 4000000 in
theorem mt_measures_2 {n : Nat} (hn : gb_N ≤ n) {Q : gb_F → Int64 → Unit → Prop} {f0 : gb_F} (hret : ∀ (f : gb_F) (w : Int64) (r : Unit), gb_XK f0 f → True → Q f w r) : ∀ (mm : Nat) (f : gb_F) (w : Int64) (v1 : Int32), gb_XK f0 f → gb_iv 0 8 v1 → (8 - v1.toInt).toNat < mm → gb_tm (ms_measures_2 n mm f w v1) Q := by
  intro mm
  induction mm with
  | zero =>
    intro f w v1 hX iv1 hm
    exact absurd hm (Nat.not_lt_zero _)
  | succ mm ih =>
    intro f w v1 hX iv1 hm
    rw [ms_measures_2]
    refine gm_bdP (mt_geese hX.1) (fun r_3 h_9309 => ?_)
    refine gm_if (fun c_9310 => ?_) (fun c_9310 => ?_)
    · exact gm_some (hret _ _ _ hX trivial)
    · have j_9311 : gb_iv 0 7 v1 := (gb_rU (lo := 0) (hi := 7) (gb_dnle c_9310) iv1 h_9309 (by decide))
      have j_9312 : gb_iv 1 8 r_3 := (gb_rL (lo := 1) (hi := 8) (gb_dnle c_9310) h_9309 j_9311 (by decide))
      exact mt_measures_12 hn ih hret n _ _ _ _ hX j_9311 (gb_iw (lo := 0) (hi := 5) (gb_ic (a := 0) (by decide)) (by decide)) hm (gb_fuu hn (gb_iw (lo := 0) (hi := 5) (gb_ic (a := 0) (by decide)) (by decide)) (by decide))
set_option maxHeartbeats 4000000 in
theorem mt_measures {n : Nat} (hn : gb_N ≤ n) {f : gb_F} {w : Int64} (hT : gb_TM f) : gb_tm (ms_measures n f w) (fun f2 _ _ => gb_XK f f2 ∧ True) := by
  have hX := gb_XKr hT
  unfold ms_measures
  exact mt_measures_2 hn (fun _ _ _ hX h => ⟨hX, h⟩) n _ _ _ hX (gb_iw (lo := 0) (hi := 8) (gb_ic (a := 0) (by decide)) (by decide)) (gb_fuu hn (gb_iw (lo := 0) (hi := 8) (gb_ic (a := 0) (by decide)) (by decide)) (by decide))
set_option maxHeartbeats 4000000 in
theorem mt_sums_29 {n : Nat} (hn : gb_N ≤ n) {Q : gb_F → Int64 → Unit → Prop} {f0 : gb_F} (hFPP : gb_PP f0) (hret : ∀ (f : gb_F) (w : Int64) (r : Unit), gb_XK f0 f → True → Q f w r) : ∀ (mm : Nat) (f : gb_F) (w : Int64) (v2 : Int32) (v3 : Int32), gb_XK f0 f → gb_iv 0 2147483647 v2 → gb_iv (-1) 7 v3 → (v3.toInt - (-1)).toNat < mm → gb_tm (ms_sums_29 n mm f w v2 v3) Q := by
  intro mm
  induction mm with
  | zero =>
    intro f w v2 v3 hX iv2 iv3 hm
    exact absurd hm (Nat.not_lt_zero _)
  | succ mm ih =>
    intro f w v2 v3 hX iv2 iv3 hm
    rw [ms_sums_29]
    refine gm_if (fun c_10290 => ?_) (fun c_10290 => ?_)
    · have j_10291 : gb_iv (-1) (-1) v3 := (gb_rU (lo := (-1)) (hi := (-1)) (gb_dlt c_10290) iv3 (gb_ic (a := 0) (by decide)) (by decide))
      exact gm_some (hret _ _ _ hX trivial)
    · have j_10292 : gb_iv 0 7 v3 := (gb_rL (lo := 0) (hi := 7) (gb_dnlt c_10290) iv3 (gb_ic (a := 0) (by decide)) (by decide))
      refine gm_bdP (mt_pathsP hX.1 (gb_PPx hX hFPP)) (fun r_11 h_10293 => ?_)
      refine gm_nz h_10293.1 (by decide) ?_
      refine gm_lti (lo := 0) (hi := 4) (gb_irem (lo := 0) (hi := 4) iv2 h_10293.1 (by decide)) (fun x_15 ex_15 ix_15 => ?_)
      refine gm_ck ix_15 (by decide) ?_
      refine gm_lti (lo := (-2147483648)) (hi := 2147483647) (gb_it _) (fun x_17 ex_17 ix_17 => ?_)
      refine gm_bdP (mt_pathsP hX.1 (gb_PPx hX hFPP)) (fun r_20 h_10294 => ?_)
      refine gm_nz h_10294.1 (by decide) ?_
      refine gm_lti (lo := 0) (hi := 4) (gb_irem (lo := 0) (hi := 4) iv2 h_10294.1 (by decide)) (fun x_24 ex_24 ix_24 => ?_)
      refine gm_ck (gb_iadd (lo := 0) (hi := 39) (gb_imul (lo := 0) (hi := 35) (gb_ic (a := 5) (by decide)) j_10292 (by decide)) ix_24 (by decide)) (by decide) ?_
      refine gm_lti (lo := (-2147483648)) (hi := 2147483647) (gb_it _) (fun x_26 ex_26 ix_26 => ?_)
      refine gm_ck ix_15 (by decide) ?_
      refine gm_ltf (gb_XKu hX rfl) (fun f_28 ef_28 hXf_28 => ?_)
      refine gm_bdP (mt_pathsP hXf_28.1 (gb_PPx hXf_28 hFPP)) (fun r_31 h_10295 => ?_)
      refine gm_nz h_10295.1 (by decide) ?_
      refine gm_lti (lo := 0) (hi := 2147483647) (gb_idiv (lo := 0) (hi := 2147483647) iv2 h_10295.1 (by decide)) (fun x_35 ex_35 ix_35 => ?_)
      refine gm_lti (lo := (-1)) (hi := 6) (gb_iadd (lo := (-1)) (hi := 6) j_10292 (gb_ic (a := (-1)) (by decide)) (by decide)) (fun x_36 ex_36 ix_36 => ?_)
      exact ih _ _ _ _ hXf_28 ix_35 (gb_iw (lo := (-1)) (hi := 7) ix_36 (by decide)) (gb_mdn ex_36 j_10292 (by decide) hm)
set_option maxHeartbeats 4000000 in
theorem mt_sums_2 {n : Nat} (hn : gb_N ≤ n) {Q : gb_F → Int64 → Unit → Prop} {f0 : gb_F} (hFPP : gb_PP f0) (hret : ∀ (f : gb_F) (w : Int64) (r : Unit), gb_XK f0 f → True → Q f w r) : ∀ (mm : Nat) (f : gb_F) (w : Int64) (v1 : Int32) (v2 : Int32), gb_XK f0 f → gb_iv 0 2147483647 v1 → gb_iv 0 5 v2 → (5 - v2.toInt).toNat < mm → gb_tm (ms_sums_2 n mm f w v1 v2) Q := by
  intro mm
  induction mm with
  | zero =>
    intro f w v1 v2 hX iv1 iv2 hm
    exact absurd hm (Nat.not_lt_zero _)
  | succ mm ih =>
    intro f w v1 v2 hX iv1 iv2 hm
    rw [ms_sums_2]
    refine gm_if (fun c_10239 => ?_) (fun c_10239 => ?_)
    · have j_10240 : gb_iv 5 5 v2 := (gb_rL (lo := 5) (hi := 5) (gb_dle c_10239) iv2 (gb_ic (a := 5) (by decide)) (by decide))
      refine gm_bdP (mt_geese hX.1) (fun r_4 h_10241 => ?_)
      refine gm_lti (lo := (-1)) (hi := 7) (gb_isub (lo := (-1)) (hi := 7) h_10241 (gb_ic (a := 1) (by decide)) (by decide)) (fun x_7 ex_7 ix_7 => ?_)
      exact mt_sums_29 hn hFPP hret n _ _ _ _ hX iv1 ix_7 (gb_fud hn ix_7 (by decide))
    · have j_10296 : gb_iv 0 4 v2 := (gb_rU (lo := 0) (hi := 4) (gb_dnle c_10239) iv2 (gb_ic (a := 5) (by decide)) (by decide))
      refine gm_ck j_10296 (by decide) ?_
      refine gm_ltf (gb_XKu hX rfl) (fun f_38 ef_38 hXf_38 => ?_)
      refine gm_lti (lo := 1) (hi := 5) (gb_iadd (lo := 1) (hi := 5) j_10296 (gb_ic (a := 1) (by decide)) (by decide)) (fun x_39 ex_39 ix_39 => ?_)
      exact ih _ _ _ _ hXf_38 iv1 (gb_iw (lo := 0) (hi := 5) ix_39 (by decide)) (gb_mup ex_39 j_10296 (by decide) hm)
set_option maxHeartbeats 4000000 in
theorem mt_sums {n : Nat} (hn : gb_N ≤ n) {f : gb_F} {w : Int64} {p1 : Int32} (hT : gb_TM f) (hFPP : gb_PP f) (ip1 : gb_iv 0 2147483647 p1) : gb_tm (ms_sums n f w p1) (fun f2 _ _ => gb_XK f f2 ∧ True) := by
  have hX := gb_XKr hT
  unfold ms_sums
  exact mt_sums_2 hn hFPP (fun _ _ _ hX h => ⟨hX, h⟩) n _ _ _ _ hX ip1 (gb_iw (lo := 0) (hi := 5) (gb_ic (a := 0) (by decide)) (by decide)) (gb_fuu hn (gb_iw (lo := 0) (hi := 5) (gb_ic (a := 0) (by decide)) (by decide)) (by decide))
set_option maxHeartbeats 4000000 in
theorem mt_payOf {n : Nat} (hn : gb_N ≤ n) {f : gb_F} {w : Int64} {p1 : Int32} (hT : gb_TM f) (ip1 : gb_iv 0 4 p1) : gb_tm (ms_payOf n f w p1) (fun f2 w2 r => f2 = f ∧ w2 = w ∧ gb_iv (-2147483648) 2147483647 r) := by
  have hX := gb_XKr hT
  unfold ms_payOf
  refine gm_bdP (mt_ofPath hn hX.1 (gb_iw (lo := 0) (hi := 100) ip1 (by decide)) (gb_iw (lo := 0) (hi := 2) (gb_ic (a := 1) (by decide)) (by decide))) (fun r_3 h_10299 => ?_)
  refine gm_ck ip1 (by decide) ?_
  refine gm_lti (lo := (-2147483648)) (hi := 2147483647) (gb_it _) (fun x_7 ex_7 ix_7 => ?_)
  refine gm_bdP (mt_padded hn hX.1 (gb_iw (lo := 0) (hi := 100) ip1 (by decide))) (fun r_10 h_10300 => ?_)
  exact gm_some ⟨rfl, rfl, (gb_it _)⟩
set_option maxHeartbeats 4000000 in
theorem mt_worthOf_76 {n : Nat} (hn : gb_N ≤ n) {Q : gb_F → Int64 → Int32 → Prop} {f0 : gb_F} (hFPP : gb_PP f0) {k24 : gb_F → Int64 → Int32 → Int32 → Int32 → Int32 → Int32 → gb_MR Int32} {M24 : Nat} (hk24 : ∀ (f : gb_F) (w : Int64) (v2 : Int32) (v3 : Int32) (v4 : Int32) (v5 : Int32) (v6 : Int32), gb_XK f0 f → gb_iv (-2147483648) 2147483647 v2 → gb_iv (-2147483648) 2147483647 v3 → gb_iv (-2147483648) 2147483647 v4 → gb_iv (-2147483648) 2147483647 v5 → gb_iv 0 5 v6 → (5 - v6.toInt).toNat < M24 → gb_tm (k24 f w v2 v3 v4 v5 v6) Q) (hret : ∀ (f : gb_F) (w : Int64) (r : Int32), gb_XK f0 f → gb_iv (-2147483648) 2147483647 r → Q f w r) : ∀ (f : gb_F) (w : Int64) (v2 : Int32) (v3 : Int32) (v5 : Int32) (v6 : Int32) (t0 : Int32), gb_XK f0 f → gb_iv (-2147483648) 2147483647 v2 → gb_iv (-2147483648) 2147483647 v3 → gb_iv (-2147483648) 2147483647 v5 → gb_iv 0 4 v6 → gb_iv (-2147483648) 2147483647 t0 → (5 - v6.toInt).toNat < M24 + 1 → gb_tm (ms_worthOf_76 n k24 f w v2 v3 v5 v6 t0) Q := by
  intro f w v2 v3 v5 v6 t0 hX iv2 iv3 iv5 iv6 it0 hm24
  unfold ms_worthOf_76
  refine gm_if (fun c_11400 => ?_) (fun c_11400 => ?_)
  · have j_11401 : gb_iv (-2147483648) 0 v2 := (gb_rU (lo := (-2147483648)) (hi := 0) (gb_deq c_11400) (gb_it _) (gb_ic (a := 0) (by decide)) (by decide))
    have j_11402 : gb_iv 0 0 v2 := (gb_rL (lo := 0) (hi := 0) (gb_deq2 c_11400) j_11401 (gb_ic (a := 0) (by decide)) (by decide))
    refine gm_lti (lo := 1) (hi := 5) (gb_iadd (lo := 1) (hi := 5) iv6 (gb_ic (a := 1) (by decide)) (by decide)) (fun x_36 ex_36 ix_36 => ?_)
    exact hk24 _ _ _ _ _ _ _ hX (gb_iw (lo := (-2147483648)) (hi := 2147483647) j_11402 (by decide)) (gb_it _) (gb_it _) (gb_it _) (gb_iw (lo := 0) (hi := 5) ix_36 (by decide)) (gb_mup ex_36 iv6 (by decide) hm24)
  · refine gm_ck iv6 (by decide) ?_
    refine gm_lti (lo := (-2147483648)) (hi := 2147483647) (gb_it _) (fun x_38 ex_38 ix_38 => ?_)
    refine gm_bdP (mt_padded hn hX.1 (gb_iw (lo := 0) (hi := 100) iv6 (by decide))) (fun r_41 h_11403 => ?_)
    refine gm_bdP (mt_paysBy hn hX.1) (fun r_46 h_11404 => ?_)
    refine gm_lti (lo := (-2147483648)) (hi := 2147483647) (gb_it _) (fun x_49 ex_49 ix_49 => ?_)
    refine gm_lti (lo := 1) (hi := 5) (gb_iadd (lo := 1) (hi := 5) iv6 (gb_ic (a := 1) (by decide)) (by decide)) (fun x_50 ex_50 ix_50 => ?_)
    exact hk24 _ _ _ _ _ _ _ hX (gb_it _) (gb_it _) (gb_it _) (gb_it _) (gb_iw (lo := 0) (hi := 5) ix_50 (by decide)) (gb_mup ex_50 iv6 (by decide) hm24)
set_option maxHeartbeats 4000000 in
theorem mt_worthOf_53 {n : Nat} (hn : gb_N ≤ n) {Q : gb_F → Int64 → Int32 → Prop} {f0 : gb_F} (hFPP : gb_PP f0) {k24 : gb_F → Int64 → Int32 → Int32 → Int32 → Int32 → Int32 → gb_MR Int32} {M24 : Nat} (hk24 : ∀ (f : gb_F) (w : Int64) (v2 : Int32) (v3 : Int32) (v4 : Int32) (v5 : Int32) (v6 : Int32), gb_XK f0 f → gb_iv (-2147483648) 2147483647 v2 → gb_iv (-2147483648) 2147483647 v3 → gb_iv (-2147483648) 2147483647 v4 → gb_iv (-2147483648) 2147483647 v5 → gb_iv 0 5 v6 → (5 - v6.toInt).toNat < M24 → gb_tm (k24 f w v2 v3 v4 v5 v6) Q) (hret : ∀ (f : gb_F) (w : Int64) (r : Int32), gb_XK f0 f → gb_iv (-2147483648) 2147483647 r → Q f w r) : ∀ (f : gb_F) (w : Int64) (v2 : Int32) (v4 : Int32) (v5 : Int32) (v6 : Int32) (t0 : Int32), gb_XK f0 f → gb_iv (-2147483648) 2147483647 v2 → gb_iv (-2147483648) 2147483647 v4 → gb_iv (-2147483648) 2147483647 v5 → gb_iv 0 4 v6 → gb_iv (-2147483648) 2147483647 t0 → (5 - v6.toInt).toNat < M24 + 1 → gb_tm (ms_worthOf_53 n k24 f w v2 v4 v5 v6 t0) Q := by
  intro f w v2 v4 v5 v6 t0 hX iv2 iv4 iv5 iv6 it0 hm24
  unfold ms_worthOf_53
  refine gm_bdP (mt_payOf hn hX.1 iv6) (fun r_31 h_11398 => ?_)
  refine gm_if (fun c_11399 => ?_) (fun c_11399 => ?_)
  · exact mt_worthOf_76 hn hFPP hk24 hret _ _ _ _ _ _ _ hX (gb_it _) (gb_it _) (gb_it _) iv6 (gb_it _) hm24
  · have j_11405 : gb_iv (-2147483648) 2147483646 v4 := (gb_rU (lo := (-2147483648)) (hi := 2147483646) (gb_dnle c_11399) (gb_it _) (gb_it _) (by decide))
    have j_11406 : gb_iv (-2147483647) 2147483647 r_31 := (gb_rL (lo := (-2147483647)) (hi := 2147483647) (gb_dnle c_11399) (gb_it _) j_11405 (by decide))
    refine gm_bdP (mt_payOf hn hX.1 iv6) (fun r_53 h_11407 => ?_)
    exact mt_worthOf_76 hn hFPP hk24 hret _ _ _ _ _ _ _ hX (gb_it _) (gb_it _) (gb_it _) iv6 (gb_it _) hm24
set_option maxHeartbeats 4000000 in
theorem mt_worthOf_24 {n : Nat} (hn : gb_N ≤ n) {Q : gb_F → Int64 → Int32 → Prop} {f0 : gb_F} (hFPP : gb_PP f0) (hret : ∀ (f : gb_F) (w : Int64) (r : Int32), gb_XK f0 f → gb_iv (-2147483648) 2147483647 r → Q f w r) : ∀ (mm : Nat) (f : gb_F) (w : Int64) (v2 : Int32) (v3 : Int32) (v4 : Int32) (v5 : Int32) (v6 : Int32), gb_XK f0 f → gb_iv (-2147483648) 2147483647 v2 → gb_iv (-2147483648) 2147483647 v3 → gb_iv (-2147483648) 2147483647 v4 → gb_iv (-2147483648) 2147483647 v5 → gb_iv 0 5 v6 → (5 - v6.toInt).toNat < mm → gb_tm (ms_worthOf_24 n mm f w v2 v3 v4 v5 v6) Q := by
  intro mm
  induction mm with
  | zero =>
    intro f w v2 v3 v4 v5 v6 hX iv2 iv3 iv4 iv5 iv6 hm
    exact absurd hm (Nat.not_lt_zero _)
  | succ mm ih =>
    intro f w v2 v3 v4 v5 v6 hX iv2 iv3 iv4 iv5 iv6 hm
    rw [ms_worthOf_24]
    refine gm_bdP (mt_pathsP hX.1 (gb_PPx hX hFPP)) (fun r_18 h_11389 => ?_)
    refine gm_if (fun c_11390 => ?_) (fun c_11390 => ?_)
    · have j_11391 : gb_iv 1 5 v6 := (gb_rL (lo := 1) (hi := 5) (gb_dle c_11390) iv6 h_11389.1 (by decide))
      refine gm_if (fun c_11392 => ?_) (fun c_11392 => ?_)
      · have j_11393 : gb_iv (-2147483648) 0 v2 := (gb_rU (lo := (-2147483648)) (hi := 0) (gb_deq c_11392) (gb_it _) (gb_ic (a := 0) (by decide)) (by decide))
        have j_11394 : gb_iv 0 0 v2 := (gb_rL (lo := 0) (hi := 0) (gb_deq2 c_11392) j_11393 (gb_ic (a := 0) (by decide)) (by decide))
        exact gm_some (hret _ _ _ hX (gb_it _))
      · exact gm_some (hret _ _ _ hX (gb_it _))
    · have j_11395 : gb_iv 0 4 v6 := (gb_rU (lo := 0) (hi := 4) (gb_dnle c_11390) iv6 h_11389.1 (by decide))
      refine gm_bdP (mt_payOf hn hX.1 j_11395) (fun r_25 h_11396 => ?_)
      refine gm_if (fun c_11397 => ?_) (fun c_11397 => ?_)
      · exact mt_worthOf_53 hn hFPP ih hret _ _ _ _ _ _ _ hX (gb_it _) (gb_it _) (gb_it _) j_11395 (gb_it _) hm
      · have j_11408 : gb_iv (-2147483648) 2147483646 r_25 := (gb_rU (lo := (-2147483648)) (hi := 2147483646) (gb_dnle c_11397) (gb_it _) (gb_it _) (by decide))
        have j_11409 : gb_iv (-2147483647) 2147483647 v3 := (gb_rL (lo := (-2147483647)) (hi := 2147483647) (gb_dnle c_11397) (gb_it _) j_11408 (by decide))
        refine gm_bdP (mt_payOf hn hX.1 j_11395) (fun r_58 h_11410 => ?_)
        exact mt_worthOf_53 hn hFPP ih hret _ _ _ _ _ _ _ hX (gb_it _) (gb_it _) (gb_it _) j_11395 (gb_it _) hm
set_option maxHeartbeats 4000000 in
theorem mt_worthOf {n : Nat} (hn : gb_N ≤ n) {f : gb_F} {w : Int64} {p1 : Int32} {p2 : Int32} (hT : gb_TM f) (hFPP : gb_PP f) (ip1 : gb_iv 0 2147483647 p1) : gb_tm (ms_worthOf n f w p1 p2) (fun f2 _ r => gb_XK f f2 ∧ gb_iv (-2147483648) 2147483647 r) := by
  have hX := gb_XKr hT
  unfold ms_worthOf
  refine gm_bdK hX (mt_sums hn hX.1 (gb_PPx hX hFPP) ip1) (fun f_1 wl_2 u_10845 hXf_1 _ => ?_)
  refine gm_bdP (mt_payOf hn hXf_1.1 (gb_iw (lo := 0) (hi := 4) (gb_ic (a := 0) (by decide)) (by decide))) (fun r_8 h_10846 => ?_)
  refine gm_bdP (mt_payOf hn hXf_1.1 (gb_iw (lo := 0) (hi := 4) (gb_ic (a := 0) (by decide)) (by decide))) (fun r_13 h_10847 => ?_)
  exact mt_worthOf_24 hn hFPP (fun _ _ _ hX h => ⟨hX, h⟩) n _ _ _ _ _ _ _ hXf_1 (gb_it _) (gb_it _) (gb_it _) (gb_iw (lo := (-2147483648)) (hi := 2147483647) (gb_ic (a := 0) (by decide)) (by decide)) (gb_iw (lo := 0) (hi := 5) (gb_ic (a := 0) (by decide)) (by decide)) (gb_fuu hn (gb_iw (lo := 0) (hi := 5) (gb_ic (a := 0) (by decide)) (by decide)) (by decide))
set_option maxHeartbeats 4000000 in
theorem mt_figure_12 {n : Nat} (hn : gb_N ≤ n) {Q : gb_F → Int64 → Int32 → Prop} {f : gb_F} {w : Int64} (hX : gb_XK f f) (hFPP : gb_PP f) (hret : ∀ (r : Int32), gb_iv (-2147483648) 2147483647 r → Q f w r) : ∀ (mm : Nat) (v1 : Int32) (v2 : Int32) (v3 : Int32), gb_iv (-2147483648) 2147483647 v1 → gb_iv (-2147483648) 2147483647 v2 → gb_iv (-2147483648) 7 v3 → (v3.toInt - (-2147483648)).toNat < mm → gb_tm (ms_figure_12 n mm f w v1 v2 v3) Q := by
  intro mm
  induction mm with
  | zero =>
    intro v1 v2 v3 iv1 iv2 iv3 hm
    exact absurd hm (Nat.not_lt_zero _)
  | succ mm ih =>
    intro v1 v2 v3 iv1 iv2 iv3 hm
    rw [ms_figure_12]
    refine gm_if (fun c_11543 => ?_) (fun c_11543 => ?_)
    · refine gm_bdP (mt_pathsP hX.1 (gb_PPx hX hFPP)) (fun r_11 h_11544 => ?_)
      refine gm_nz h_11544.1 (by decide) ?_
      refine gm_lti (lo := (-2147483648)) (hi := 2147483647) (gb_it _) (fun x_15 ex_15 ix_15 => ?_)
      exact gm_some (hret _ (gb_it _))
    · have j_11545 : gb_iv (-2147483648) 6 v1 := (gb_rU (lo := (-2147483648)) (hi := 6) (gb_dnle c_11543) (gb_it _) iv3 (by decide))
      have j_11546 : gb_iv (-2147483647) 7 v3 := (gb_rL (lo := (-2147483647)) (hi := 7) (gb_dnle c_11543) iv3 j_11545 (by decide))
      refine gm_bdP (mt_pathsP hX.1 (gb_PPx hX hFPP)) (fun r_18 h_11547 => ?_)
      refine gm_nz h_11547.1 (by decide) ?_
      refine gm_lti (lo := (-2147483648)) (hi := 2147483647) (gb_it _) (fun x_22 ex_22 ix_22 => ?_)
      refine gm_lti (lo := (-2147483648)) (hi := 6) (gb_iadd (lo := (-2147483648)) (hi := 6) j_11546 (gb_ic (a := (-1)) (by decide)) (by decide)) (fun x_23 ex_23 ix_23 => ?_)
      exact ih _ _ _ (gb_iw (lo := (-2147483648)) (hi := 2147483647) j_11545 (by decide)) (gb_it _) (gb_iw (lo := (-2147483648)) (hi := 7) ix_23 (by decide)) (gb_mdn ex_23 j_11546 (by decide) hm)
set_option maxHeartbeats 4000000 in
theorem mt_figure {n : Nat} (hn : gb_N ≤ n) {f : gb_F} {w : Int64} {p1 : Int32} (hT : gb_TM f) (hFPP : gb_PP f) : gb_tm (ms_figure n f w p1) (fun f2 w2 r => f2 = f ∧ w2 = w ∧ gb_iv (-2147483648) 2147483647 r) := by
  have hX := gb_XKr hT
  unfold ms_figure
  refine gm_lti (lo := (-2147483648)) (hi := 2147483647) (gb_it _) (fun x_1 ex_1 ix_1 => ?_)
  refine gm_bdP (mt_geese hX.1) (fun r_4 h_11477 => ?_)
  refine gm_lti (lo := (-1)) (hi := 7) (gb_isub (lo := (-1)) (hi := 7) h_11477 (gb_ic (a := 1) (by decide)) (by decide)) (fun x_7 ex_7 ix_7 => ?_)
  exact mt_figure_12 hn hX hFPP (fun _ h => ⟨rfl, rfl, h⟩) n _ _ _ (gb_it _) (gb_it _) (gb_iw (lo := (-2147483648)) (hi := 7) ix_7 (by decide)) (gb_fud hn (gb_iw (lo := (-2147483648)) (hi := 7) ix_7 (by decide)) (by decide))
set_option maxHeartbeats 4000000 in
theorem mt_tar_136 {n : Nat} (hn : gb_N ≤ n) {Q : gb_F → Int64 → Int32 → Prop} {f0 : gb_F} {k87 : gb_F → Int64 → Int32 → Int32 → Int32 → Int32 → Int32 → gb_MR Int32} {M87 : Nat} (hk87 : ∀ (f : gb_F) (w : Int64) (v3 : Int32) (v4 : Int32) (v5 : Int32) (v6 : Int32) (v7 : Int32), gb_XK f0 f → gb_iv 0 9999 v3 → gb_iv (-2147483648) 2147483647 v4 → gb_iv (-2147483648) 2147483647 v5 → gb_iv (-2147483648) 2147483647 v6 → gb_iv 0 12 v7 → (v7.toInt - 0).toNat < M87 → gb_tm (k87 f w v3 v4 v5 v6 v7) Q) {k95 : gb_F → Int64 → Int32 → Int32 → Int32 → Int32 → Int32 → Int32 → gb_MR Int32} {M95 : Nat} (hk95 : ∀ (f : gb_F) (w : Int64) (v3 : Int32) (v4 : Int32) (v5 : Int32) (v6 : Int32) (v7 : Int32) (v8 : Int32), gb_XK f0 f → gb_iv 0 9999 v3 → gb_iv (-2147483648) 2147483647 v4 → gb_iv (-2147483648) 2147483647 v5 → gb_iv (-2147483648) 2147483647 v6 → gb_iv 1 12 v7 → gb_iv 0 8 v8 → (v7.toInt - 0).toNat < M87 + 1 → (8 - v8.toInt).toNat < M95 → gb_tm (k95 f w v3 v4 v5 v6 v7 v8) Q) (hret : ∀ (f : gb_F) (w : Int64) (r : Int32), gb_XK f0 f → gb_iv (-2147483648) 2147483647 r → Q f w r) : ∀ (mm : Nat) (f : gb_F) (w : Int64) (v3 : Int32) (v4 : Int32) (v5 : Int32) (v6 : Int32) (v7 : Int32) (v8 : Int32) (v9 : Int32) (v10 : Int32), gb_XK f0 f → gb_iv 0 9999 v3 → gb_iv (-2147483648) 2147483647 v4 → gb_iv (-2147483648) 2147483647 v5 → gb_iv (-2147483648) 2147483647 v6 → gb_iv 1 12 v7 → gb_iv 0 7 v8 → gb_iv (-2147483648) 2147483647 v9 → gb_iv 0 2147483647 v10 → (v7.toInt - 0).toNat < M87 + 1 → (8 - v8.toInt).toNat < M95 + 1 → (2147483647 - v10.toInt).toNat < mm → gb_tm (ms_tar_136 n k87 k95 mm f w v3 v4 v5 v6 v7 v8 v9 v10) Q := by
  intro mm
  induction mm with
  | zero =>
    intro f w v3 v4 v5 v6 v7 v8 v9 v10 hX iv3 iv4 iv5 iv6 iv7 iv8 iv9 iv10 hm87 hm95 hm
    exact absurd hm (Nat.not_lt_zero _)
  | succ mm ih =>
    intro f w v3 v4 v5 v6 v7 v8 v9 v10 hX iv3 iv4 iv5 iv6 iv7 iv8 iv9 iv10 hm87 hm95 hm
    rw [ms_tar_136]
    refine gm_if (fun c_2716216 => ?_) (fun c_2716216 => ?_)
    · refine gm_lti (lo := 1) (hi := 8) (gb_iadd (lo := 1) (hi := 8) iv8 (gb_ic (a := 1) (by decide)) (by decide)) (fun x_56 ex_56 ix_56 => ?_)
      exact hk95 _ _ _ _ _ _ _ _ hX iv3 (gb_it _) (gb_it _) (gb_it _) iv7 (gb_iw (lo := 0) (hi := 8) ix_56 (by decide)) hm87 (gb_mup ex_56 iv8 (by decide) hm95)
    · have j_2716217 : gb_iv 0 2147483646 v10 := (gb_rU (lo := 0) (hi := 2147483646) (gb_dnle c_2716216) iv10 (gb_it _) (by decide))
      have j_2716218 : gb_iv 1 2147483647 v4 := (gb_rL (lo := 1) (hi := 2147483647) (gb_dnle c_2716216) (gb_it _) j_2716217 (by decide))
      refine gm_if (fun c_2716219 => ?_) (fun c_2716219 => ?_)
      · have j_2716220 : gb_iv (-2147483648) 12 v9 := (gb_rU (lo := (-2147483648)) (hi := 12) (gb_deq c_2716219) (gb_it _) iv7 (by decide))
        have j_2716221 : gb_iv 1 12 v9 := (gb_rL (lo := 1) (hi := 12) (gb_deq2 c_2716219) j_2716220 iv7 (by decide))
        refine gm_if (fun c_2716222 => ?_) (fun c_2716222 => ?_)
        · have j_2716223 : gb_iv (-2147483648) 9999 v5 := (gb_rU (lo := (-2147483648)) (hi := 9999) (gb_dle c_2716222) (gb_it _) iv3 (by decide))
          refine gm_lti (lo := 1) (hi := 8) (gb_iadd (lo := 1) (hi := 8) iv8 (gb_ic (a := 1) (by decide)) (by decide)) (fun x_60 ex_60 ix_60 => ?_)
          exact hk95 _ _ _ _ _ _ _ _ hX iv3 (gb_iw (lo := (-2147483648)) (hi := 2147483647) j_2716218 (by decide)) (gb_iw (lo := (-2147483648)) (hi := 2147483647) j_2716223 (by decide)) (gb_it _) iv7 (gb_iw (lo := 0) (hi := 8) ix_60 (by decide)) hm87 (gb_mup ex_60 iv8 (by decide) hm95)
        · have j_2716224 : gb_iv 1 2147483647 v5 := (gb_rL (lo := 1) (hi := 2147483647) (gb_dnle c_2716222) (gb_it _) iv3 (by decide))
          refine gm_lti (lo := (-11)) (hi := 2147483646) (gb_isub (lo := (-11)) (hi := 2147483646) j_2716224 j_2716221 (by decide)) (fun x_61 ex_61 ix_61 => ?_)
          refine gm_lti (lo := (-2147483648)) (hi := 2147483647) (gb_it _) (fun x_62 ex_62 ix_62 => ?_)
          refine gm_lti (lo := 1) (hi := 2147483647) (gb_iadd (lo := 1) (hi := 2147483647) j_2716217 (gb_ic (a := 1) (by decide)) (by decide)) (fun x_63 ex_63 ix_63 => ?_)
          exact ih _ _ _ _ _ _ _ _ _ _ hX iv3 (gb_iw (lo := (-2147483648)) (hi := 2147483647) j_2716218 (by decide)) (gb_iw (lo := (-2147483648)) (hi := 2147483647) ix_61 (by decide)) (gb_it _) iv7 iv8 (gb_iw (lo := (-2147483648)) (hi := 2147483647) j_2716221 (by decide)) (gb_iw (lo := 0) (hi := 2147483647) ix_63 (by decide)) hm87 hm95 (gb_mup ex_63 j_2716217 (by decide) hm)
      · refine gm_lti (lo := 1) (hi := 8) (gb_iadd (lo := 1) (hi := 8) iv8 (gb_ic (a := 1) (by decide)) (by decide)) (fun x_58 ex_58 ix_58 => ?_)
        exact hk95 _ _ _ _ _ _ _ _ hX iv3 (gb_iw (lo := (-2147483648)) (hi := 2147483647) j_2716218 (by decide)) (gb_it _) (gb_it _) iv7 (gb_iw (lo := 0) (hi := 8) ix_58 (by decide)) hm87 (gb_mup ex_58 iv8 (by decide) hm95)
set_option maxHeartbeats 4000000 in
theorem mt_tar_95 {n : Nat} (hn : gb_N ≤ n) {Q : gb_F → Int64 → Int32 → Prop} {f0 : gb_F} {k87 : gb_F → Int64 → Int32 → Int32 → Int32 → Int32 → Int32 → gb_MR Int32} {M87 : Nat} (hk87 : ∀ (f : gb_F) (w : Int64) (v3 : Int32) (v4 : Int32) (v5 : Int32) (v6 : Int32) (v7 : Int32), gb_XK f0 f → gb_iv 0 9999 v3 → gb_iv (-2147483648) 2147483647 v4 → gb_iv (-2147483648) 2147483647 v5 → gb_iv (-2147483648) 2147483647 v6 → gb_iv 0 12 v7 → (v7.toInt - 0).toNat < M87 → gb_tm (k87 f w v3 v4 v5 v6 v7) Q) (hret : ∀ (f : gb_F) (w : Int64) (r : Int32), gb_XK f0 f → gb_iv (-2147483648) 2147483647 r → Q f w r) : ∀ (mm : Nat) (f : gb_F) (w : Int64) (v3 : Int32) (v4 : Int32) (v5 : Int32) (v6 : Int32) (v7 : Int32) (v8 : Int32), gb_XK f0 f → gb_iv 0 9999 v3 → gb_iv (-2147483648) 2147483647 v4 → gb_iv (-2147483648) 2147483647 v5 → gb_iv (-2147483648) 2147483647 v6 → gb_iv 1 12 v7 → gb_iv 0 8 v8 → (v7.toInt - 0).toNat < M87 + 1 → (8 - v8.toInt).toNat < mm → gb_tm (ms_tar_95 n k87 mm f w v3 v4 v5 v6 v7 v8) Q := by
  intro mm
  induction mm with
  | zero =>
    intro f w v3 v4 v5 v6 v7 v8 hX iv3 iv4 iv5 iv6 iv7 iv8 hm87 hm
    exact absurd hm (Nat.not_lt_zero _)
  | succ mm ih =>
    intro f w v3 v4 v5 v6 v7 v8 hX iv3 iv4 iv5 iv6 iv7 iv8 hm87 hm
    rw [ms_tar_95]
    refine gm_bdP (mt_geese hX.1) (fun r_34 h_2715894 => ?_)
    refine gm_if (fun c_2715895 => ?_) (fun c_2715895 => ?_)
    · refine gm_lti (lo := 0) (hi := 11) (gb_iadd (lo := 0) (hi := 11) iv7 (gb_ic (a := (-1)) (by decide)) (by decide)) (fun x_38 ex_38 ix_38 => ?_)
      exact hk87 _ _ _ _ _ _ _ hX iv3 (gb_it _) (gb_it _) (gb_it _) (gb_iw (lo := 0) (hi := 12) ix_38 (by decide)) (gb_mdn ex_38 iv7 (by decide) hm87)
    · have j_2715896 : gb_iv 0 7 v8 := (gb_rU (lo := 0) (hi := 7) (gb_dnle c_2715895) iv8 h_2715894 (by decide))
      have j_2715897 : gb_iv 1 8 r_34 := (gb_rL (lo := 1) (hi := 8) (gb_dnle c_2715895) h_2715894 j_2715896 (by decide))
      refine gm_bdP (mt_ofGoose hn hX.1 (gb_iw (lo := 0) (hi := 70) j_2715896 (by decide)) (gb_iw (lo := 0) (hi := 4) (gb_ic (a := 0) (by decide)) (by decide))) (fun r_41 h_2715898 => ?_)
      refine gm_bdP (mt_ofGoose hn hX.1 (gb_iw (lo := 0) (hi := 70) j_2715896 (by decide)) (gb_iw (lo := 0) (hi := 4) (gb_ic (a := 1) (by decide)) (by decide))) (fun r_46 h_2715899 => ?_)
      refine gm_bdP (mt_ofGoose hn hX.1 (gb_iw (lo := 0) (hi := 70) j_2715896 (by decide)) (gb_iw (lo := 0) (hi := 4) (gb_ic (a := 3) (by decide)) (by decide))) (fun r_51 h_2715900 => ?_)
      refine gm_lti (lo := (-2147483648)) (hi := 2147483647) (gb_it _) (fun x_54 ex_54 ix_54 => ?_)
      exact mt_tar_136 hn hk87 ih hret n _ _ _ _ _ _ _ _ _ _ hX iv3 (gb_it _) (gb_it _) (gb_it _) iv7 j_2715896 (gb_it _) (gb_iw (lo := 0) (hi := 2147483647) (gb_ic (a := 0) (by decide)) (by decide)) hm87 hm (gb_fuu hn (gb_iw (lo := 0) (hi := 2147483647) (gb_ic (a := 0) (by decide)) (by decide)) (by decide))
set_option maxHeartbeats 4000000 in
theorem mt_tar_87 {n : Nat} (hn : gb_N ≤ n) {Q : gb_F → Int64 → Int32 → Prop} {f0 : gb_F} (hret : ∀ (f : gb_F) (w : Int64) (r : Int32), gb_XK f0 f → gb_iv (-2147483648) 2147483647 r → Q f w r) : ∀ (mm : Nat) (f : gb_F) (w : Int64) (v3 : Int32) (v4 : Int32) (v5 : Int32) (v6 : Int32) (v7 : Int32), gb_XK f0 f → gb_iv 0 9999 v3 → gb_iv (-2147483648) 2147483647 v4 → gb_iv (-2147483648) 2147483647 v5 → gb_iv (-2147483648) 2147483647 v6 → gb_iv 0 12 v7 → (v7.toInt - 0).toNat < mm → gb_tm (ms_tar_87 n mm f w v3 v4 v5 v6 v7) Q := by
  intro mm
  induction mm with
  | zero =>
    intro f w v3 v4 v5 v6 v7 hX iv3 iv4 iv5 iv6 iv7 hm
    exact absurd hm (Nat.not_lt_zero _)
  | succ mm ih =>
    intro f w v3 v4 v5 v6 v7 hX iv3 iv4 iv5 iv6 iv7 hm
    rw [ms_tar_87]
    refine gm_if (fun c_2711058 => ?_) (fun c_2711058 => ?_)
    · have j_2711059 : gb_iv 0 0 v7 := (gb_rU (lo := 0) (hi := 0) (gb_dle c_2711058) iv7 (gb_ic (a := 0) (by decide)) (by decide))
      refine gm_if (fun c_2711060 => ?_) (fun c_2711060 => ?_)
      · have j_2711061 : gb_iv (-2147483648) 9999 v5 := (gb_rU (lo := (-2147483648)) (hi := 9999) (gb_dle c_2711060) (gb_it _) iv3 (by decide))
        exact gm_some (hret _ _ _ hX (gb_it _))
      · have j_2711062 : gb_iv 1 2147483647 v5 := (gb_rL (lo := 1) (hi := 2147483647) (gb_dnle c_2711060) (gb_it _) iv3 (by decide))
        exact gm_some (hret _ _ _ hX (gb_iw (lo := (-2147483648)) (hi := 2147483647) (gb_ic (a := (-1)) (by decide)) (by decide)))
    · have j_2711063 : gb_iv 1 12 v7 := (gb_rL (lo := 1) (hi := 12) (gb_dnle c_2711058) iv7 (gb_ic (a := 0) (by decide)) (by decide))
      exact mt_tar_95 hn ih hret n _ _ _ _ _ _ _ _ hX iv3 (gb_it _) (gb_it _) (gb_it _) j_2711063 (gb_iw (lo := 0) (hi := 8) (gb_ic (a := 0) (by decide)) (by decide)) hm (gb_fuu hn (gb_iw (lo := 0) (hi := 8) (gb_ic (a := 0) (by decide)) (by decide)) (by decide))
set_option maxHeartbeats 4000000 in
theorem mt_tar_43 {n : Nat} (hn : gb_N ≤ n) {Q : gb_F → Int64 → Int32 → Prop} {f0 : gb_F} (hret : ∀ (f : gb_F) (w : Int64) (r : Int32), gb_XK f0 f → gb_iv (-2147483648) 2147483647 r → Q f w r) : ∀ (mm : Nat) (f : gb_F) (w : Int64) (v3 : Int32) (v4 : Int32) (v5 : Int32) (v6 : Int32), gb_XK f0 f → gb_iv 0 9999 v3 → gb_iv (-2147483648) 2147483647 v4 → gb_iv (-2147483648) 2147483647 v5 → gb_iv 0 8 v6 → (8 - v6.toInt).toNat < mm → gb_tm (ms_tar_43 n mm f w v3 v4 v5 v6) Q := by
  intro mm
  induction mm with
  | zero =>
    intro f w v3 v4 v5 v6 hX iv3 iv4 iv5 iv6 hm
    exact absurd hm (Nat.not_lt_zero _)
  | succ mm ih =>
    intro f w v3 v4 v5 v6 hX iv3 iv4 iv5 iv6 hm
    rw [ms_tar_43]
    refine gm_bdP (mt_geese hX.1) (fun r_26 h_2619218 => ?_)
    refine gm_if (fun c_2619219 => ?_) (fun c_2619219 => ?_)
    · exact mt_tar_87 hn hret n _ _ _ _ _ _ _ hX iv3 (gb_it _) (gb_it _) (gb_iw (lo := (-2147483648)) (hi := 2147483647) (gb_ic (a := 0) (by decide)) (by decide)) (gb_iw (lo := 0) (hi := 12) (gb_ic (a := 12) (by decide)) (by decide)) (gb_fud hn (gb_iw (lo := 0) (hi := 12) (gb_ic (a := 12) (by decide)) (by decide)) (by decide))
    · have j_2716225 : gb_iv 0 7 v6 := (gb_rU (lo := 0) (hi := 7) (gb_dnle c_2619219) iv6 h_2619218 (by decide))
      have j_2716226 : gb_iv 1 8 r_26 := (gb_rL (lo := 1) (hi := 8) (gb_dnle c_2619219) h_2619218 j_2716225 (by decide))
      refine gm_bdP (mt_ofGoose hn hX.1 (gb_iw (lo := 0) (hi := 70) j_2716225 (by decide)) (gb_iw (lo := 0) (hi := 4) (gb_ic (a := 3) (by decide)) (by decide))) (fun r_66 h_2716227 => ?_)
      refine gm_bdP (mt_left hn hX.1 j_2716225) (fun r_71 h_2716228 => ?_)
      refine gm_lti (lo := (-2147483648)) (hi := 2147483647) (gb_it _) (fun x_74 ex_74 ix_74 => ?_)
      refine gm_lti (lo := 1) (hi := 8) (gb_iadd (lo := 1) (hi := 8) j_2716225 (gb_ic (a := 1) (by decide)) (by decide)) (fun x_75 ex_75 ix_75 => ?_)
      exact ih _ _ _ _ _ _ hX iv3 (gb_it _) (gb_it _) (gb_iw (lo := 0) (hi := 8) ix_75 (by decide)) (gb_mup ex_75 j_2716225 (by decide) hm)
set_option maxHeartbeats 4000000 in
theorem mt_tar {n : Nat} (hn : gb_N ≤ n) {f : gb_F} {w : Int64} {p1 : Int32} {p2 : Int32} {p3 : Int32} (hT : gb_TM f) : gb_tm (ms_tar n f w p1 p2 p3) (fun f2 _ r => gb_TM f2 ∧ gb_iv (-2147483648) 2147483647 r) := by
  have hX := gb_XKr hT
  unfold ms_tar
  refine gm_bdT (mt_isBorder hX.1) (fun f_1 wl_2 r_3 hXf_1 h_1315383 => ?_)
  refine gm_if (fun c_1315384 => ?_) (fun c_1315384 => ?_)
  · have j_1315385 : gb_iv 0 0 r_3 := (gb_rU (lo := 0) (hi := 0) (gb_deq c_1315384) h_1315383.1 (gb_ic (a := 0) (by decide)) (by decide))
    exact gm_some ⟨hXf_1.1, (gb_iw (lo := (-2147483648)) (hi := 2147483647) (gb_ic (a := (-1)) (by decide)) (by decide))⟩
  · have j_1315386 : gb_iv 1 1 r_3 := (gb_rN (lo := 1) (hi := 1) (v := 0) c_1315384 h_1315383.1 (by decide) (by decide))
    refine gm_bdP (mt_isPath hXf_1.1) (fun r_9 h_1315387 => ?_)
    refine gm_if (fun c_1315388 => ?_) (fun c_1315388 => ?_)
    · have j_1315389 : gb_iv 0 0 r_9 := (gb_rU (lo := 0) (hi := 0) (gb_deq c_1315388) h_1315387.1 (gb_ic (a := 0) (by decide)) (by decide))
      exact gm_some ⟨hXf_1.1, (gb_iw (lo := (-2147483648)) (hi := 2147483647) (gb_ic (a := (-1)) (by decide)) (by decide))⟩
    · have j_1315390 : gb_iv 1 1 r_9 := (gb_rN (lo := 1) (hi := 1) (v := 0) c_1315388 h_1315387.1 (by decide) (by decide))
      have j_1315391 : gb_iv 0 4 p2 := (h_1315387.2 c_1315388)
      refine gm_bdP mt_isIn (fun r_15 h_1315392 => ?_)
      refine gm_if (fun c_1315393 => ?_) (fun c_1315393 => ?_)
      · have j_1315394 : gb_iv 0 0 r_15 := (gb_rU (lo := 0) (hi := 0) (gb_deq c_1315393) h_1315392.1 (gb_ic (a := 0) (by decide)) (by decide))
        exact gm_some ⟨hXf_1.1, (gb_iw (lo := (-2147483648)) (hi := 2147483647) (gb_ic (a := (-1)) (by decide)) (by decide))⟩
      · have j_1315395 : gb_iv 1 1 r_15 := (gb_rN (lo := 1) (hi := 1) (v := 0) c_1315393 h_1315392.1 (by decide) (by decide))
        have j_1315396 : gb_iv 0 9999 p3 := ((fun q_ => gb_iin (a := 0) (b := 0) (h_1315392.2 q_) (gb_ic (a := 0) (by decide)).1 (gb_ic (a := 9999) (by decide)).2) c_1315393)
        refine gm_bdP (mt_ofPath hn hXf_1.1 (gb_iw (lo := 0) (hi := 100) j_1315391 (by decide)) (gb_iw (lo := 0) (hi := 2) (gb_ic (a := 0) (by decide)) (by decide))) (fun r_21 h_1315397 => ?_)
        exact mt_tar_43 hn (fun _ _ _ hX h => ⟨hX.1, h⟩) n _ _ _ _ _ _ hXf_1 j_1315396 (gb_it _) (gb_iw (lo := (-2147483648)) (hi := 2147483647) (gb_ic (a := 0) (by decide)) (by decide)) (gb_iw (lo := 0) (hi := 8) (gb_ic (a := 0) (by decide)) (by decide)) (gb_fuu hn (gb_iw (lo := 0) (hi := 8) (gb_ic (a := 0) (by decide)) (by decide)) (by decide))
set_option maxHeartbeats 4000000 in
theorem mt_lamePay_5 {n : Nat} (hn : gb_N ≤ n) {Q : gb_F → Int64 → Int32 → Prop} {f : gb_F} {w : Int64} (hX : gb_XK f f) (hret : ∀ (r : Int32), gb_iv (-2147483648) 2147483647 r → Q f w r) : ∀ (mm : Nat) (v1 : Int32) (v2 : Int32) (v3 : Int32) (v4 : Int32), gb_iv 0 4 v1 → gb_iv (-2147483648) 2147483647 v2 → gb_iv (-2147483648) 2147483647 v3 → gb_iv 0 8 v4 → (8 - v4.toInt).toNat < mm → gb_tm (ms_lamePay_5 n mm f w v1 v2 v3 v4) Q := by
  intro mm
  induction mm with
  | zero =>
    intro v1 v2 v3 v4 iv1 iv2 iv3 iv4 hm
    exact absurd hm (Nat.not_lt_zero _)
  | succ mm ih =>
    intro v1 v2 v3 v4 iv1 iv2 iv3 iv4 hm
    rw [ms_lamePay_5]
    refine gm_bdP (mt_geese hX.1) (fun r_3 h_2716649 => ?_)
    refine gm_if (fun c_2716650 => ?_) (fun c_2716650 => ?_)
    · refine gm_bdP (mt_ofPath hn hX.1 (gb_iw (lo := 0) (hi := 100) iv1 (by decide)) (gb_iw (lo := 0) (hi := 2) (gb_ic (a := 1) (by decide)) (by decide))) (fun r_9 h_2716651 => ?_)
      refine gm_bdP (mt_padded hn hX.1 (gb_iw (lo := 0) (hi := 100) iv1 (by decide))) (fun r_14 h_2716652 => ?_)
      exact gm_some (hret _ (gb_it _))
    · have j_2716653 : gb_iv 0 7 v4 := (gb_rU (lo := 0) (hi := 7) (gb_dnle c_2716650) iv4 h_2716649 (by decide))
      have j_2716654 : gb_iv 1 8 r_3 := (gb_rL (lo := 1) (hi := 8) (gb_dnle c_2716650) h_2716649 j_2716653 (by decide))
      refine gm_bdP (mt_ofPath hn hX.1 (gb_iw (lo := 0) (hi := 100) iv1 (by decide)) (gb_iw (lo := 0) (hi := 2) (gb_ic (a := 0) (by decide)) (by decide))) (fun r_19 h_2716655 => ?_)
      refine gm_bdP (mt_ofGoose hn hX.1 (gb_iw (lo := 0) (hi := 70) j_2716653 (by decide)) (gb_iw (lo := 0) (hi := 4) (gb_ic (a := 2) (by decide)) (by decide))) (fun r_24 h_2716656 => ?_)
      refine gm_if (fun c_2716657 => ?_) (fun c_2716657 => ?_)
      · have j_2716658 : gb_iv (-2147483648) 0 v2 := (gb_rU (lo := (-2147483648)) (hi := 0) (gb_deq c_2716657) (gb_it _) (gb_ic (a := 0) (by decide)) (by decide))
        have j_2716659 : gb_iv 0 0 v2 := (gb_rL (lo := 0) (hi := 0) (gb_deq2 c_2716657) j_2716658 (gb_ic (a := 0) (by decide)) (by decide))
        refine gm_bdP (mt_left hn hX.1 j_2716653) (fun r_30 h_2716660 => ?_)
        refine gm_lti (lo := (-2147483648)) (hi := 2147483647) (gb_it _) (fun x_33 ex_33 ix_33 => ?_)
        refine gm_lti (lo := 1) (hi := 8) (gb_iadd (lo := 1) (hi := 8) j_2716653 (gb_ic (a := 1) (by decide)) (by decide)) (fun x_34 ex_34 ix_34 => ?_)
        exact ih _ _ _ _ iv1 (gb_iw (lo := (-2147483648)) (hi := 2147483647) j_2716659 (by decide)) (gb_it _) (gb_iw (lo := 0) (hi := 8) ix_34 (by decide)) (gb_mup ex_34 j_2716653 (by decide) hm)
      · refine gm_bdP (mt_ofGoose hn hX.1 (gb_iw (lo := 0) (hi := 70) j_2716653 (by decide)) (gb_iw (lo := 0) (hi := 4) (gb_ic (a := 3) (by decide)) (by decide))) (fun r_37 h_2716661 => ?_)
        refine gm_bdP (mt_left hn hX.1 j_2716653) (fun r_42 h_2716662 => ?_)
        refine gm_lti (lo := (-2147483648)) (hi := 2147483647) (gb_it _) (fun x_45 ex_45 ix_45 => ?_)
        refine gm_lti (lo := 1) (hi := 8) (gb_iadd (lo := 1) (hi := 8) j_2716653 (gb_ic (a := 1) (by decide)) (by decide)) (fun x_46 ex_46 ix_46 => ?_)
        exact ih _ _ _ _ iv1 (gb_it _) (gb_it _) (gb_iw (lo := 0) (hi := 8) ix_46 (by decide)) (gb_mup ex_46 j_2716653 (by decide) hm)
set_option maxHeartbeats 4000000 in
theorem mt_lamePay {n : Nat} (hn : gb_N ≤ n) {f : gb_F} {w : Int64} {p1 : Int32} {p2 : Int32} (hT : gb_TM f) (ip1 : gb_iv 0 4 p1) : gb_tm (ms_lamePay n f w p1 p2) (fun f2 w2 r => f2 = f ∧ w2 = w ∧ gb_iv (-2147483648) 2147483647 r) := by
  have hX := gb_XKr hT
  unfold ms_lamePay
  exact mt_lamePay_5 hn hX (fun _ h => ⟨rfl, rfl, h⟩) n _ _ _ _ ip1 (gb_it _) (gb_iw (lo := (-2147483648)) (hi := 2147483647) (gb_ic (a := 0) (by decide)) (by decide)) (gb_iw (lo := 0) (hi := 8) (gb_ic (a := 0) (by decide)) (by decide)) (gb_fuu hn (gb_iw (lo := 0) (hi := 8) (gb_ic (a := 0) (by decide)) (by decide)) (by decide))
set_option maxHeartbeats 4000000 in
theorem mt_bestPath_7 {n : Nat} (hn : gb_N ≤ n) {Q : gb_F → Int64 → Int32 → Prop} {f : gb_F} {w : Int64} (hX : gb_XK f f) (hret : ∀ (r : Int32), gb_iv (-1) 4 r → Q f w r) : ∀ (mm : Nat) (v1 : Int32) (v2 : Int32) (v3 : Int32) (v4 : Int32), gb_iv 0 7 v1 → gb_iv (-1) 4 v2 → gb_iv (-2147483648) 2147483647 v3 → gb_iv 0 5 v4 → (5 - v4.toInt).toNat < mm → gb_tm (ms_bestPath_7 n mm f w v1 v2 v3 v4) Q := by
  intro mm
  induction mm with
  | zero =>
    intro v1 v2 v3 v4 iv1 iv2 iv3 iv4 hm
    exact absurd hm (Nat.not_lt_zero _)
  | succ mm ih =>
    intro v1 v2 v3 v4 iv1 iv2 iv3 iv4 hm
    rw [ms_bestPath_7]
    refine gm_bdP (mt_paths hX.1) (fun r_3 h_2717017 => ?_)
    refine gm_if (fun c_2717018 => ?_) (fun c_2717018 => ?_)
    · exact gm_some (hret _ iv2)
    · have j_2717019 : gb_iv 0 4 v4 := (gb_rU (lo := 0) (hi := 4) (gb_dnle c_2717018) iv4 h_2717017.1 (by decide))
      have j_2717020 : gb_iv 1 5 r_3 := (gb_rL (lo := 1) (hi := 5) (gb_dnle c_2717018) h_2717017.1 j_2717019 (by decide))
      have hF_2717021 := (gb_PPy hX (h_2717017.2 j_2717020.1))
      refine gm_bdP (mt_ofPath hn hX.1 (gb_iw (lo := 0) (hi := 100) j_2717019 (by decide)) (gb_iw (lo := 0) (hi := 2) (gb_ic (a := 1) (by decide)) (by decide))) (fun r_9 h_2717022 => ?_)
      refine gm_bdP (mt_firstMarks hn hX.1 iv1 (gb_iw (lo := 0) (hi := 100) j_2717019 (by decide))) (fun r_14 h_2717023 => ?_)
      refine gm_bdP (mt_padded hn hX.1 (gb_iw (lo := 0) (hi := 100) j_2717019 (by decide))) (fun r_19 h_2717024 => ?_)
      refine gm_lti (lo := (-2147483648)) (hi := 2147483647) (gb_it _) (fun x_22 ex_22 ix_22 => ?_)
      refine gm_if (fun c_2717025 => ?_) (fun c_2717025 => ?_)
      · have j_2717026 : gb_iv (-1) (-1) v2 := (gb_rU (lo := (-1)) (hi := (-1)) (gb_dlt c_2717025) iv2 (gb_ic (a := 0) (by decide)) (by decide))
        refine gm_lti (lo := 1) (hi := 5) (gb_iadd (lo := 1) (hi := 5) j_2717019 (gb_ic (a := 1) (by decide)) (by decide)) (fun x_24 ex_24 ix_24 => ?_)
        exact ih _ _ _ _ iv1 (gb_iw (lo := (-1)) (hi := 4) j_2717019 (by decide)) (gb_it _) (gb_iw (lo := 0) (hi := 5) ix_24 (by decide)) (gb_mup ex_24 j_2717019 (by decide) hm)
      · have j_2717027 : gb_iv 0 4 v2 := (gb_rL (lo := 0) (hi := 4) (gb_dnlt c_2717025) iv2 (gb_ic (a := 0) (by decide)) (by decide))
        refine gm_if (fun c_2717028 => ?_) (fun c_2717028 => ?_)
        · have j_2717029 : gb_iv (-2147483648) 2147483646 v3 := (gb_rU (lo := (-2147483648)) (hi := 2147483646) (gb_dlt c_2717028) (gb_it _) (gb_it _) (by decide))
          have j_2717030 : gb_iv (-2147483647) 2147483647 x_22 := (gb_rL (lo := (-2147483647)) (hi := 2147483647) (gb_dlt c_2717028) (gb_it _) j_2717029 (by decide))
          refine gm_lti (lo := 1) (hi := 5) (gb_iadd (lo := 1) (hi := 5) j_2717019 (gb_ic (a := 1) (by decide)) (by decide)) (fun x_26 ex_26 ix_26 => ?_)
          exact ih _ _ _ _ iv1 (gb_iw (lo := (-1)) (hi := 4) j_2717019 (by decide)) (gb_iw (lo := (-2147483648)) (hi := 2147483647) j_2717030 (by decide)) (gb_iw (lo := 0) (hi := 5) ix_26 (by decide)) (gb_mup ex_26 j_2717019 (by decide) hm)
        · refine gm_lti (lo := 1) (hi := 5) (gb_iadd (lo := 1) (hi := 5) j_2717019 (gb_ic (a := 1) (by decide)) (by decide)) (fun x_27 ex_27 ix_27 => ?_)
          exact ih _ _ _ _ iv1 (gb_iw (lo := (-1)) (hi := 4) j_2717027 (by decide)) (gb_it _) (gb_iw (lo := 0) (hi := 5) ix_27 (by decide)) (gb_mup ex_27 j_2717019 (by decide) hm)
set_option maxHeartbeats 4000000 in
theorem mt_bestPath {n : Nat} (hn : gb_N ≤ n) {f : gb_F} {w : Int64} {p1 : Int32} (hT : gb_TM f) (ip1 : gb_iv 0 7 p1) : gb_tm (ms_bestPath n f w p1) (fun f2 w2 r => f2 = f ∧ w2 = w ∧ gb_iv (-1) 4 r) := by
  have hX := gb_XKr hT
  unfold ms_bestPath
  exact mt_bestPath_7 hn hX (fun _ h => ⟨rfl, rfl, h⟩) n _ _ _ _ ip1 (gb_iw (lo := (-1)) (hi := 4) (gb_ic (a := (-1)) (by decide)) (by decide)) (gb_iw (lo := (-2147483648)) (hi := 2147483647) (gb_ic (a := 0) (by decide)) (by decide)) (gb_iw (lo := 0) (hi := 5) (gb_ic (a := 0) (by decide)) (by decide)) (gb_fuu hn (gb_iw (lo := 0) (hi := 5) (gb_ic (a := 0) (by decide)) (by decide)) (by decide))
set_option maxHeartbeats 4000000 in
theorem mt_lame {n : Nat} (hn : gb_N ≤ n) {f : gb_F} {w : Int64} {p1 : Int32} {p2 : Int32} {p3 : Int32} (hT : gb_TM f) : gb_tm (ms_lame n f w p1 p2 p3) (fun f2 _ r => gb_TM f2 ∧ gb_iv (-2147483648) 2147483647 r) := by
  have hX := gb_XKr hT
  unfold ms_lame
  refine gm_bdT (mt_isBorder hX.1) (fun f_1 wl_2 r_3 hXf_1 h_2717052 => ?_)
  refine gm_if (fun c_2717053 => ?_) (fun c_2717053 => ?_)
  · have j_2717054 : gb_iv 0 0 r_3 := (gb_rU (lo := 0) (hi := 0) (gb_deq c_2717053) h_2717052.1 (gb_ic (a := 0) (by decide)) (by decide))
    exact gm_some ⟨hXf_1.1, (gb_iw (lo := (-2147483648)) (hi := 2147483647) (gb_ic (a := (-1)) (by decide)) (by decide))⟩
  · have j_2717055 : gb_iv 1 1 r_3 := (gb_rN (lo := 1) (hi := 1) (v := 0) c_2717053 h_2717052.1 (by decide) (by decide))
    refine gm_bdP mt_isIn (fun r_9 h_2717056 => ?_)
    refine gm_if (fun c_2717057 => ?_) (fun c_2717057 => ?_)
    · have j_2717058 : gb_iv 0 0 r_9 := (gb_rU (lo := 0) (hi := 0) (gb_deq c_2717057) h_2717056.1 (gb_ic (a := 0) (by decide)) (by decide))
      refine gm_bdP (mt_isPath hXf_1.1) (fun r_15 h_2717059 => ?_)
      refine gm_if (fun c_2717060 => ?_) (fun c_2717060 => ?_)
      · have j_2717061 : gb_iv 0 0 r_15 := (gb_rU (lo := 0) (hi := 0) (gb_deq c_2717060) h_2717059.1 (gb_ic (a := 0) (by decide)) (by decide))
        exact gm_some ⟨hXf_1.1, (gb_iw (lo := (-2147483648)) (hi := 2147483647) (gb_ic (a := (-1)) (by decide)) (by decide))⟩
      · have j_2717062 : gb_iv 1 1 r_15 := (gb_rN (lo := 1) (hi := 1) (v := 0) c_2717060 h_2717059.1 (by decide) (by decide))
        have j_2717063 : gb_iv 0 4 p2 := (h_2717059.2 c_2717060)
        refine gm_bdP (mt_lamePay hn hXf_1.1 j_2717063) (fun r_21 h_2717064 => ?_)
        refine gm_bdP (mt_lamePay hn hXf_1.1 j_2717063) (fun r_26 h_2717065 => ?_)
        exact gm_some ⟨hXf_1.1, (gb_it _)⟩
    · have j_2717066 : gb_iv 1 1 r_9 := (gb_rN (lo := 1) (hi := 1) (v := 0) c_2717057 h_2717056.1 (by decide) (by decide))
      have j_2717067 : gb_iv 0 7 p3 := ((fun q_ => gb_iin (a := 0) (b := 0) (h_2717056.2 q_) (gb_ic (a := 0) (by decide)).1 (gb_ic (a := 7) (by decide)).2) c_2717057)
      refine gm_bdP (mt_isGoose hXf_1.1) (fun r_31 h_2717068 => ?_)
      refine gm_if (fun c_2717069 => ?_) (fun c_2717069 => ?_)
      · have j_2717070 : gb_iv 0 0 r_31 := (gb_rU (lo := 0) (hi := 0) (gb_deq c_2717069) h_2717068.1 (gb_ic (a := 0) (by decide)) (by decide))
        exact gm_some ⟨hXf_1.1, (gb_iw (lo := (-2147483648)) (hi := 2147483647) (gb_ic (a := (-1)) (by decide)) (by decide))⟩
      · have j_2717071 : gb_iv 1 1 r_31 := (gb_rN (lo := 1) (hi := 1) (v := 0) c_2717069 h_2717068.1 (by decide) (by decide))
        refine gm_bdP (mt_bestPath hn hXf_1.1 j_2717067) (fun r_37 h_2717072 => ?_)
        exact gm_some ⟨hXf_1.1, (gb_iw (lo := (-2147483648)) (hi := 2147483647) h_2717072 (by decide))⟩
set_option maxHeartbeats 4000000 in
theorem mt_takeOf_97 {n : Nat} (hn : gb_N ≤ n) {Q : gb_F → Int64 → Int32 → Prop} {f : gb_F} {w : Int64} (hX : gb_XK f f) (hret : ∀ (r : Int32), gb_iv (-2147483648) 2147483647 r → Q f w r) : ∀ (v2 : Int32) (v4 : Int32), gb_iv 0 4 v2 → gb_iv 1 1 v4 → gb_tm (ms_takeOf_97 n f w v2 v4) Q := by
  intro v2 v4 iv2 iv4
  unfold ms_takeOf_97
  refine gm_if (fun c_2718251 => ?_) (fun c_2718251 => ?_)
  · exact (gb_em (gb_rU (lo := 1) (hi := 0) (gb_deq c_2718251) iv4 (gb_ic (a := 0) (by decide)) (by decide)) (by decide)).elim
  · refine gm_bdP (mt_pay hn hX.1 iv2) (fun r_27 h_2718252 => ?_)
    exact gm_some (hret _ (gb_it _))
set_option maxHeartbeats 4000000 in
theorem mt_takeOf_70 {n : Nat} (hn : gb_N ≤ n) {Q : gb_F → Int64 → Int32 → Prop} {f : gb_F} {w : Int64} (hX : gb_XK f f) (hret : ∀ (r : Int32), gb_iv (-2147483648) 2147483647 r → Q f w r) : ∀ (v2 : Int32) (v3 : Int32) (t0 : Int32), gb_iv 0 4 v2 → gb_iv (-2147483648) 2147483647 v3 → gb_iv 1 1 t0 → gb_tm (ms_takeOf_70 n f w v2 v3 t0) Q := by
  intro v2 v3 t0 iv2 iv3 it0
  unfold ms_takeOf_70
  refine gm_bdP (mt_ofF hX.1 (gb_iw (lo := 0) (hi := 400) (gb_ic (a := 2) (by decide)) (by decide))) (fun r_10 h_2718247 => ?_)
  refine gm_if (fun c_2718248 => ?_) (fun c_2718248 => ?_)
  · have j_2718249 : gb_iv (-2147483648) (-1) r_10 := (gb_rU (lo := (-2147483648)) (hi := (-1)) (gb_deq c_2718248) (gb_it _) (gb_ic (a := (-1)) (by decide)) (by decide))
    have j_2718250 : gb_iv (-1) (-1) r_10 := (gb_rL (lo := (-1)) (hi := (-1)) (gb_deq2 c_2718248) j_2718249 (gb_ic (a := (-1)) (by decide)) (by decide))
    exact mt_takeOf_97 hn hX hret _ _ iv2 it0
  · refine gm_bdP (mt_ofF hX.1 (gb_iw (lo := 0) (hi := 400) (gb_ic (a := 2) (by decide)) (by decide))) (fun r_32 h_2718253 => ?_)
    refine gm_if (fun c_2718254 => ?_) (fun c_2718254 => ?_)
    · exact mt_takeOf_97 hn hX hret _ _ iv2 it0
    · have j_2718255 : gb_iv (-2147483648) 2147483646 r_32 := (gb_rU (lo := (-2147483648)) (hi := 2147483646) (gb_dnle c_2718254) (gb_it _) (gb_it _) (by decide))
      have j_2718256 : gb_iv (-2147483647) 2147483647 v3 := (gb_rL (lo := (-2147483647)) (hi := 2147483647) (gb_dnle c_2718254) (gb_it _) j_2718255 (by decide))
      refine gm_if (fun c_2718257 => ?_) (fun c_2718257 => ?_)
      · exact (gb_em (gb_rU (lo := 1) (hi := 0) (gb_deq c_2718257) it0 (gb_ic (a := 0) (by decide)) (by decide)) (by decide)).elim
      · exact gm_some (hret _ (gb_iw (lo := (-2147483648)) (hi := 2147483647) (gb_ic (a := 0) (by decide)) (by decide)))
set_option maxHeartbeats 4000000 in
theorem mt_takeOf_97_i1 {n : Nat} (hn : gb_N ≤ n) {Q : gb_F → Int64 → Int32 → Prop} {f : gb_F} {w : Int64} (hX : gb_XK f f) (hret : ∀ (r : Int32), gb_iv (-2147483648) 2147483647 r → Q f w r) : ∀ (v2 : Int32) (v4 : Int32), gb_iv 0 4 v2 → gb_iv 0 0 v4 → gb_tm (ms_takeOf_97 n f w v2 v4) Q := by
  intro v2 v4 iv2 iv4
  unfold ms_takeOf_97
  refine gm_if (fun c_2718263 => ?_) (fun c_2718263 => ?_)
  · refine gm_bdP (mt_ofPath hn hX.1 (gb_iw (lo := 0) (hi := 100) iv2 (by decide)) (gb_iw (lo := 0) (hi := 2) (gb_ic (a := 1) (by decide)) (by decide))) (fun r_17 h_2718264 => ?_)
    refine gm_bdP (mt_tally hn hX.1 iv2) (fun r_22 h_2718265 => ?_)
    exact gm_some (hret _ (gb_it _))
  · exact (gb_em (gb_rN (lo := 1) (hi := (-1)) (v := 0) c_2718263 iv4 (by decide) (by decide)) (by decide)).elim
set_option maxHeartbeats 4000000 in
theorem mt_takeOf_70_i1 {n : Nat} (hn : gb_N ≤ n) {Q : gb_F → Int64 → Int32 → Prop} {f : gb_F} {w : Int64} (hX : gb_XK f f) (hret : ∀ (r : Int32), gb_iv (-2147483648) 2147483647 r → Q f w r) : ∀ (v2 : Int32) (v3 : Int32) (t0 : Int32), gb_iv 0 4 v2 → gb_iv (-2147483648) 2147483647 v3 → gb_iv 0 0 t0 → gb_tm (ms_takeOf_70 n f w v2 v3 t0) Q := by
  intro v2 v3 t0 iv2 iv3 it0
  unfold ms_takeOf_70
  refine gm_bdP (mt_ofF hX.1 (gb_iw (lo := 0) (hi := 400) (gb_ic (a := 2) (by decide)) (by decide))) (fun r_10 h_2718259 => ?_)
  refine gm_if (fun c_2718260 => ?_) (fun c_2718260 => ?_)
  · have j_2718261 : gb_iv (-2147483648) (-1) r_10 := (gb_rU (lo := (-2147483648)) (hi := (-1)) (gb_deq c_2718260) (gb_it _) (gb_ic (a := (-1)) (by decide)) (by decide))
    have j_2718262 : gb_iv (-1) (-1) r_10 := (gb_rL (lo := (-1)) (hi := (-1)) (gb_deq2 c_2718260) j_2718261 (gb_ic (a := (-1)) (by decide)) (by decide))
    exact mt_takeOf_97_i1 hn hX hret _ _ iv2 it0
  · refine gm_bdP (mt_ofF hX.1 (gb_iw (lo := 0) (hi := 400) (gb_ic (a := 2) (by decide)) (by decide))) (fun r_32 h_2718266 => ?_)
    refine gm_if (fun c_2718267 => ?_) (fun c_2718267 => ?_)
    · exact mt_takeOf_97_i1 hn hX hret _ _ iv2 it0
    · have j_2718268 : gb_iv (-2147483648) 2147483646 r_32 := (gb_rU (lo := (-2147483648)) (hi := 2147483646) (gb_dnle c_2718267) (gb_it _) (gb_it _) (by decide))
      have j_2718269 : gb_iv (-2147483647) 2147483647 v3 := (gb_rL (lo := (-2147483647)) (hi := 2147483647) (gb_dnle c_2718267) (gb_it _) j_2718268 (by decide))
      refine gm_if (fun c_2718270 => ?_) (fun c_2718270 => ?_)
      · exact mt_takeOf_97_i1 hn hX hret _ _ iv2 it0
      · exact (gb_em (gb_rN (lo := 1) (hi := (-1)) (v := 0) c_2718270 it0 (by decide) (by decide)) (by decide)).elim
set_option maxHeartbeats 4000000 in
theorem mt_takeOf_5 {n : Nat} (hn : gb_N ≤ n) {Q : gb_F → Int64 → Int32 → Prop} {f : gb_F} {w : Int64} (hX : gb_XK f f) (hret : ∀ (r : Int32), gb_iv (-2147483648) 2147483647 r → Q f w r) : ∀ (mm : Nat) (v1 : Int32) (v2 : Int32) (v3 : Int32) (v4 : Int32), gb_iv (-2147483648) 2147483647 v1 → gb_iv 0 4 v2 → gb_iv (-2147483648) 2147483647 v3 → gb_iv 0 5 v4 → (5 - v4.toInt).toNat < mm → gb_tm (ms_takeOf_5 n mm f w v1 v2 v3 v4) Q := by
  intro mm
  induction mm with
  | zero =>
    intro v1 v2 v3 v4 iv1 iv2 iv3 iv4 hm
    exact absurd hm (Nat.not_lt_zero _)
  | succ mm ih =>
    intro v1 v2 v3 v4 iv1 iv2 iv3 iv4 hm
    rw [ms_takeOf_5]
    refine gm_bdP (mt_paths hX.1) (fun r_3 h_2718243 => ?_)
    refine gm_if (fun c_2718244 => ?_) (fun c_2718244 => ?_)
    · refine gm_if (fun c_2718245 => ?_) (fun c_2718245 => ?_)
      · have j_2718246 : gb_iv 1 1 ((v1 >>> (v2 &&& 31)) &&& 1) := (gb_rL (lo := 1) (hi := 1) (gb_deq2 c_2718245) (gb_iandr (lo := 0) (hi := 1) (gb_iw (lo := 0) (hi := 1) (gb_ic (a := 1) (by decide)) (by decide)) (by decide)) (gb_ic (a := 1) (by decide)) (by decide))
        exact mt_takeOf_70 hn hX hret _ _ _ iv2 (gb_it _) (gb_ic (a := 1) (by decide))
      · have j_2718258 : gb_iv 0 0 ((v1 >>> (v2 &&& 31)) &&& 1) := (gb_rN (lo := 0) (hi := 0) (v := 1) c_2718245 (gb_iandr (lo := 0) (hi := 1) (gb_iw (lo := 0) (hi := 1) (gb_ic (a := 1) (by decide)) (by decide)) (by decide)) (by decide) (by decide))
        exact mt_takeOf_70_i1 hn hX hret _ _ _ iv2 (gb_it _) (gb_ic (a := 0) (by decide))
    · have j_2718271 : gb_iv 0 4 v4 := (gb_rU (lo := 0) (hi := 4) (gb_dnle c_2718244) iv4 h_2718243.1 (by decide))
      have j_2718272 : gb_iv 1 5 r_3 := (gb_rL (lo := 1) (hi := 5) (gb_dnle c_2718244) h_2718243.1 j_2718271 (by decide))
      have hF_2718273 := (gb_PPy hX (h_2718243.2 j_2718272.1))
      refine gm_if (fun c_2718274 => ?_) (fun c_2718274 => ?_)
      · have j_2718275 : gb_iv 1 1 ((v1 >>> (v4 &&& 31)) &&& 1) := (gb_rL (lo := 1) (hi := 1) (gb_deq2 c_2718274) (gb_iandr (lo := 0) (hi := 1) (gb_iw (lo := 0) (hi := 1) (gb_ic (a := 1) (by decide)) (by decide)) (by decide)) (gb_ic (a := 1) (by decide)) (by decide))
        refine gm_bdP (mt_pay hn hX.1 j_2718271) (fun r_52 h_2718276 => ?_)
        refine gm_lti (lo := (-2147483648)) (hi := 2147483647) (gb_it _) (fun x_55 ex_55 ix_55 => ?_)
        refine gm_lti (lo := 1) (hi := 5) (gb_iadd (lo := 1) (hi := 5) j_2718271 (gb_ic (a := 1) (by decide)) (by decide)) (fun x_56 ex_56 ix_56 => ?_)
        exact ih _ _ _ _ (gb_it _) iv2 (gb_it _) (gb_iw (lo := 0) (hi := 5) ix_56 (by decide)) (gb_mup ex_56 j_2718271 (by decide) hm)
      · have j_2718277 : gb_iv 0 0 ((v1 >>> (v4 &&& 31)) &&& 1) := (gb_rN (lo := 0) (hi := 0) (v := 1) c_2718274 (gb_iandr (lo := 0) (hi := 1) (gb_iw (lo := 0) (hi := 1) (gb_ic (a := 1) (by decide)) (by decide)) (by decide)) (by decide) (by decide))
        refine gm_bdP (mt_ofPath hn hX.1 (gb_iw (lo := 0) (hi := 100) j_2718271 (by decide)) (gb_iw (lo := 0) (hi := 2) (gb_ic (a := 1) (by decide)) (by decide))) (fun r_40 h_2718278 => ?_)
        refine gm_bdP (mt_tally hn hX.1 j_2718271) (fun r_45 h_2718279 => ?_)
        refine gm_lti (lo := (-2147483648)) (hi := 2147483647) (gb_it _) (fun x_48 ex_48 ix_48 => ?_)
        refine gm_lti (lo := 1) (hi := 5) (gb_iadd (lo := 1) (hi := 5) j_2718271 (gb_ic (a := 1) (by decide)) (by decide)) (fun x_49 ex_49 ix_49 => ?_)
        exact ih _ _ _ _ (gb_it _) iv2 (gb_it _) (gb_iw (lo := 0) (hi := 5) ix_49 (by decide)) (gb_mup ex_49 j_2718271 (by decide) hm)
set_option maxHeartbeats 4000000 in
theorem mt_takeOf {n : Nat} (hn : gb_N ≤ n) {f : gb_F} {w : Int64} {p1 : Int32} {p2 : Int32} (hT : gb_TM f) (ip2 : gb_iv 0 4 p2) : gb_tm (ms_takeOf n f w p1 p2) (fun f2 w2 r => f2 = f ∧ w2 = w ∧ gb_iv (-2147483648) 2147483647 r) := by
  have hX := gb_XKr hT
  unfold ms_takeOf
  exact mt_takeOf_5 hn hX (fun _ h => ⟨rfl, rfl, h⟩) n _ _ _ _ (gb_it _) ip2 (gb_iw (lo := (-2147483648)) (hi := 2147483647) (gb_ic (a := 0) (by decide)) (by decide)) (gb_iw (lo := 0) (hi := 5) (gb_ic (a := 0) (by decide)) (by decide)) (gb_fuu hn (gb_iw (lo := 0) (hi := 5) (gb_ic (a := 0) (by decide)) (by decide)) (by decide))
set_option maxHeartbeats 4000000 in
theorem mt_isRest_4 {n : Nat} (hn : gb_N ≤ n) {Q : gb_F → Int64 → Int32 → Prop} {f : gb_F} {w : Int64} (hX : gb_XK f f) (hret : ∀ (r : Int32), gb_iv 0 1 r → Q f w r) : ∀ (mm : Nat) (v1 : Int32) (v2 : Int32) (v3 : Int32), gb_iv (-2147483648) 2147483647 v1 → gb_iv 0 1 v2 → gb_iv 0 5 v3 → (5 - v3.toInt).toNat < mm → gb_tm (ms_isRest_4 n mm f w v1 v2 v3) Q := by
  intro mm
  induction mm with
  | zero =>
    intro v1 v2 v3 iv1 iv2 iv3 hm
    exact absurd hm (Nat.not_lt_zero _)
  | succ mm ih =>
    intro v1 v2 v3 iv1 iv2 iv3 hm
    rw [ms_isRest_4]
    refine gm_bdP (mt_paths hX.1) (fun r_3 h_2718614 => ?_)
    refine gm_if (fun c_2718615 => ?_) (fun c_2718615 => ?_)
    · refine gm_cb iv2 ?_
      exact gm_some (hret _ iv2)
    · have j_2718616 : gb_iv 0 4 v3 := (gb_rU (lo := 0) (hi := 4) (gb_dnle c_2718615) iv3 h_2718614.1 (by decide))
      have j_2718617 : gb_iv 1 5 r_3 := (gb_rL (lo := 1) (hi := 5) (gb_dnle c_2718615) h_2718614.1 j_2718616 (by decide))
      have hF_2718618 := (gb_PPy hX (h_2718614.2 j_2718617.1))
      refine gm_if (fun c_2718619 => ?_) (fun c_2718619 => ?_)
      · have j_2718620 : gb_iv 0 0 v2 := (gb_rU (lo := 0) (hi := 0) (gb_deq c_2718619) iv2 (gb_ic (a := 0) (by decide)) (by decide))
        refine gm_lti (lo := 1) (hi := 5) (gb_iadd (lo := 1) (hi := 5) j_2718616 (gb_ic (a := 1) (by decide)) (by decide)) (fun x_9 ex_9 ix_9 => ?_)
        exact ih _ _ _ (gb_it _) (gb_iw (lo := 0) (hi := 1) (gb_ic (a := 0) (by decide)) (by decide)) (gb_iw (lo := 0) (hi := 5) ix_9 (by decide)) (gb_mup ex_9 j_2718616 (by decide) hm)
      · have j_2718621 : gb_iv 1 1 v2 := (gb_rN (lo := 1) (hi := 1) (v := 0) c_2718619 iv2 (by decide) (by decide))
        refine gm_bdP (mt_takeOf hn hX.1 j_2718616) (fun r_12 h_2718622 => ?_)
        refine gm_bdP (mt_takeOf hn hX.1 j_2718616) (fun r_17 h_2718623 => ?_)
        refine gm_if (fun c_2718624 => ?_) (fun c_2718624 => ?_)
        · have j_2718625 : gb_iv (-2147483648) 2147483646 r_17 := (gb_rU (lo := (-2147483648)) (hi := 2147483646) (gb_dlt c_2718624) (gb_it _) (gb_it _) (by decide))
          have j_2718626 : gb_iv (-2147483647) 2147483647 r_12 := (gb_rL (lo := (-2147483647)) (hi := 2147483647) (gb_dlt c_2718624) (gb_it _) j_2718625 (by decide))
          refine gm_lti (lo := 1) (hi := 5) (gb_iadd (lo := 1) (hi := 5) j_2718616 (gb_ic (a := 1) (by decide)) (by decide)) (fun x_21 ex_21 ix_21 => ?_)
          exact ih _ _ _ (gb_it _) (gb_iw (lo := 0) (hi := 1) (gb_ic (a := 0) (by decide)) (by decide)) (gb_iw (lo := 0) (hi := 5) ix_21 (by decide)) (gb_mup ex_21 j_2718616 (by decide) hm)
        · refine gm_lti (lo := 1) (hi := 5) (gb_iadd (lo := 1) (hi := 5) j_2718616 (gb_ic (a := 1) (by decide)) (by decide)) (fun x_22 ex_22 ix_22 => ?_)
          exact ih _ _ _ (gb_it _) (gb_iw (lo := 0) (hi := 1) (gb_ic (a := 1) (by decide)) (by decide)) (gb_iw (lo := 0) (hi := 5) ix_22 (by decide)) (gb_mup ex_22 j_2718616 (by decide) hm)
set_option maxHeartbeats 4000000 in
theorem mt_isRest {n : Nat} (hn : gb_N ≤ n) {f : gb_F} {w : Int64} {p1 : Int32} (hT : gb_TM f) : gb_tm (ms_isRest n f w p1) (fun f2 w2 r => f2 = f ∧ w2 = w ∧ gb_iv 0 1 r) := by
  have hX := gb_XKr hT
  unfold ms_isRest
  exact mt_isRest_4 hn hX (fun _ h => ⟨rfl, rfl, h⟩) n _ _ _ (gb_it _) (gb_iw (lo := 0) (hi := 1) (gb_ic (a := 1) (by decide)) (by decide)) (gb_iw (lo := 0) (hi := 5) (gb_ic (a := 0) (by decide)) (by decide)) (gb_fuu hn (gb_iw (lo := 0) (hi := 5) (gb_ic (a := 0) (by decide)) (by decide)) (by decide))
set_option maxHeartbeats 4000000 in
theorem mt_seenOf {n : Nat} (hn : gb_N ≤ n) {f : gb_F} {w : Int64} {p1 : Int32} {p2 : Int32} (hT : gb_TM f) (ip1 : gb_iv 0 5 p1) (ip2 : gb_iv 0 1 p2) : gb_tm (ms_seenOf n f w p1 p2) (fun f2 w2 r => f2 = f ∧ w2 = w ∧ gb_iv (-2147483648) 2147483647 r) := by
  have hX := gb_XKr hT
  unfold ms_seenOf
  refine gm_ck (gb_iadd (lo := 1) (hi := 993) (gb_iadd (lo := 1) (hi := 992) (gb_iadd (lo := 1) (hi := 982) (gb_i29 hX.1) (gb_ic (a := 1) (by decide)) (by decide)) (gb_imul (lo := 0) (hi := 10) (gb_ic (a := 2) (by decide)) ip1 (by decide)) (by decide)) ip2 (by decide)) (by decide) ?_
  refine gm_lti (lo := (-2147483648)) (hi := 2147483647) (gb_it _) (fun x_2 ex_2 ix_2 => ?_)
  exact gm_some ⟨rfl, rfl, (gb_it _)⟩
set_option maxHeartbeats 4000000 in
theorem mt_seen {n : Nat} (hn : gb_N ≤ n) {f : gb_F} {w : Int64} {p1 : Int32} {p2 : Int32} {p3 : Int32} (hT : gb_TM f) : gb_tm (ms_seen n f w p1 p2 p3) (fun f2 _ r => gb_TM f2 ∧ gb_iv (-2147483648) 2147483647 r) := by
  have hX := gb_XKr hT
  unfold ms_seen
  refine gm_bdP (mt_isOf hX.1 (gb_iw (lo := 0) (hi := 3) (gb_ic (a := 3) (by decide)) (by decide))) (fun r_3 h_2718650 => ?_)
  refine gm_if (fun c_2718651 => ?_) (fun c_2718651 => ?_)
  · have j_2718652 : gb_iv 0 0 r_3 := (gb_rU (lo := 0) (hi := 0) (gb_deq c_2718651) h_2718650.1 (gb_ic (a := 0) (by decide)) (by decide))
    exact gm_some ⟨hX.1, (gb_iw (lo := (-2147483648)) (hi := 2147483647) (gb_ic (a := (-2)) (by decide)) (by decide))⟩
  · have j_2718653 : gb_iv 1 1 r_3 := (gb_rN (lo := 1) (hi := 1) (v := 0) c_2718651 h_2718650.1 (by decide) (by decide))
    have j_2718654 : gb_iv 0 1 p1 := (h_2718650.2 c_2718651)
    refine gm_bdP (mt_placeOf3 j_2718654) (fun r_9 h_2718655 => ?_)
    refine gm_ltT (gb_TM29 hX.1 (Or.inr h_2718655)) (fun f_12 ef_12 hXf_12 => ?_)
    refine gm_if (fun c_2718656 => ?_) (fun c_2718656 => ?_)
    · have j_2718657 : gb_iv (-2147483648) (-1) p2 := (gb_rU (lo := (-2147483648)) (hi := (-1)) (gb_deq c_2718656) (gb_it _) (gb_ic (a := (-1)) (by decide)) (by decide))
      have j_2718658 : gb_iv (-1) (-1) p2 := (gb_rL (lo := (-1)) (hi := (-1)) (gb_deq2 c_2718656) j_2718657 (gb_ic (a := (-1)) (by decide)) (by decide))
      refine gm_if (fun c_2718659 => ?_) (fun c_2718659 => ?_)
      · have j_2718660 : gb_iv (-2147483648) 0 p3 := (gb_rU (lo := (-2147483648)) (hi := 0) (gb_deq c_2718659) (gb_it _) (gb_ic (a := 0) (by decide)) (by decide))
        have j_2718661 : gb_iv 0 0 p3 := (gb_rL (lo := 0) (hi := 0) (gb_deq2 c_2718659) j_2718660 (gb_ic (a := 0) (by decide)) (by decide))
        refine gm_ck (gb_i29 hXf_12.1) (by decide) ?_
        refine gm_lti (lo := 0) (hi := 5) (gb_r29 hXf_12.1) (fun x_35 ex_35 ix_35 => ?_)
        exact gm_some ⟨hXf_12.1, (gb_iw (lo := (-2147483648)) (hi := 2147483647) ix_35 (by decide))⟩
      · exact gm_some ⟨hXf_12.1, (gb_iw (lo := (-2147483648)) (hi := 2147483647) (gb_ic (a := (-2)) (by decide)) (by decide))⟩
    · refine gm_ck (gb_i29 hXf_12.1) (by decide) ?_
      refine gm_lti (lo := 0) (hi := 5) (gb_r29 hXf_12.1) (fun x_15 ex_15 ix_15 => ?_)
      refine gm_bdP mt_isIn (fun r_18 h_2718662 => ?_)
      refine gm_if (fun c_2718663 => ?_) (fun c_2718663 => ?_)
      · have j_2718664 : gb_iv 0 0 r_18 := (gb_rU (lo := 0) (hi := 0) (gb_deq c_2718663) h_2718662.1 (gb_ic (a := 0) (by decide)) (by decide))
        exact gm_some ⟨hXf_12.1, (gb_iw (lo := (-2147483648)) (hi := 2147483647) (gb_ic (a := (-2)) (by decide)) (by decide))⟩
      · have j_2718665 : gb_iv 1 1 r_18 := (gb_rN (lo := 1) (hi := 1) (v := 0) c_2718663 h_2718662.1 (by decide) (by decide))
        have j_2718666 : gb_iv 0 4 p2 := ((fun q_ => gb_iin (a := 0) (b := 0) (h_2718662.2 q_) (gb_ic (a := 0) (by decide)).1 (gb_isub (lo := (-1)) (hi := 4) ix_15 (gb_ic (a := 1) (by decide)) (by decide)).2) c_2718663)
        refine gm_bdP mt_isIn (fun r_24 h_2718667 => ?_)
        refine gm_if (fun c_2718668 => ?_) (fun c_2718668 => ?_)
        · have j_2718669 : gb_iv 0 0 r_24 := (gb_rU (lo := 0) (hi := 0) (gb_deq c_2718668) h_2718667.1 (gb_ic (a := 0) (by decide)) (by decide))
          exact gm_some ⟨hXf_12.1, (gb_iw (lo := (-2147483648)) (hi := 2147483647) (gb_ic (a := (-2)) (by decide)) (by decide))⟩
        · have j_2718670 : gb_iv 1 1 r_24 := (gb_rN (lo := 1) (hi := 1) (v := 0) c_2718668 h_2718667.1 (by decide) (by decide))
          have j_2718671 : gb_iv 0 1 p3 := ((fun q_ => gb_iin (a := 0) (b := 0) (h_2718667.2 q_) (gb_ic (a := 0) (by decide)).1 (gb_ic (a := 1) (by decide)).2) c_2718668)
          refine gm_bdP (mt_seenOf hn hXf_12.1 (gb_iw (lo := 0) (hi := 5) j_2718666 (by decide)) j_2718671) (fun r_30 h_2718672 => ?_)
          exact gm_some ⟨hXf_12.1, (gb_it _)⟩
set_option maxHeartbeats 4000000 in
theorem mt_isWhole_4 {n : Nat} (hn : gb_N ≤ n) {Q : gb_F → Int64 → Int32 → Prop} {f : gb_F} {w : Int64} (hX : gb_XK f f) (hret : ∀ (r : Int32), gb_iv 0 1 r → Q f w r) : ∀ (mm : Nat) (v1 : Int32) (v2 : Int32), gb_iv 0 1 v1 → gb_iv 0 5 v2 → (5 - v2.toInt).toNat < mm → gb_tm (ms_isWhole_4 n mm f w v1 v2) Q := by
  intro mm
  induction mm with
  | zero =>
    intro v1 v2 iv1 iv2 hm
    exact absurd hm (Nat.not_lt_zero _)
  | succ mm ih =>
    intro v1 v2 iv1 iv2 hm
    rw [ms_isWhole_4]
    refine gm_if (fun c_2718909 => ?_) (fun c_2718909 => ?_)
    · have j_2718910 : gb_iv 5 5 v2 := (gb_rL (lo := 5) (hi := 5) (gb_dle c_2718909) iv2 (gb_ic (a := 5) (by decide)) (by decide))
      refine gm_cb iv1 ?_
      exact gm_some (hret _ iv1)
    · have j_2718911 : gb_iv 0 4 v2 := (gb_rU (lo := 0) (hi := 4) (gb_dnle c_2718909) iv2 (gb_ic (a := 5) (by decide)) (by decide))
      refine gm_if (fun c_2718912 => ?_) (fun c_2718912 => ?_)
      · have j_2718913 : gb_iv 0 0 v1 := (gb_rU (lo := 0) (hi := 0) (gb_deq c_2718912) iv1 (gb_ic (a := 0) (by decide)) (by decide))
        refine gm_lti (lo := 1) (hi := 5) (gb_iadd (lo := 1) (hi := 5) j_2718911 (gb_ic (a := 1) (by decide)) (by decide)) (fun x_4 ex_4 ix_4 => ?_)
        exact ih _ _ (gb_iw (lo := 0) (hi := 1) (gb_ic (a := 0) (by decide)) (by decide)) (gb_iw (lo := 0) (hi := 5) ix_4 (by decide)) (gb_mup ex_4 j_2718911 (by decide) hm)
      · have j_2718914 : gb_iv 1 1 v1 := (gb_rN (lo := 1) (hi := 1) (v := 0) c_2718912 iv1 (by decide) (by decide))
        refine gm_ck j_2718911 (by decide) ?_
        refine gm_lti (lo := (-2147483648)) (hi := 2147483647) (gb_it _) (fun x_6 ex_6 ix_6 => ?_)
        refine gm_if (fun c_2718915 => ?_) (fun c_2718915 => ?_)
        · have j_2718916 : gb_iv (-2147483648) (-1) x_6 := (gb_rU (lo := (-2147483648)) (hi := (-1)) (gb_deq c_2718915) (gb_it _) (gb_ic (a := (-1)) (by decide)) (by decide))
          have j_2718917 : gb_iv (-1) (-1) x_6 := (gb_rL (lo := (-1)) (hi := (-1)) (gb_deq2 c_2718915) j_2718916 (gb_ic (a := (-1)) (by decide)) (by decide))
          refine gm_lti (lo := 1) (hi := 5) (gb_iadd (lo := 1) (hi := 5) j_2718911 (gb_ic (a := 1) (by decide)) (by decide)) (fun x_8 ex_8 ix_8 => ?_)
          exact ih _ _ (gb_iw (lo := 0) (hi := 1) (gb_ic (a := 1) (by decide)) (by decide)) (gb_iw (lo := 0) (hi := 5) ix_8 (by decide)) (gb_mup ex_8 j_2718911 (by decide) hm)
        · refine gm_ck j_2718911 (by decide) ?_
          refine gm_lti (lo := (-2147483648)) (hi := 2147483647) (gb_it _) (fun x_10 ex_10 ix_10 => ?_)
          refine gm_ck j_2718911 (by decide) ?_
          refine gm_lti (lo := (-2147483648)) (hi := 2147483647) (gb_it _) (fun x_12 ex_12 ix_12 => ?_)
          refine gm_if (fun c_2718918 => ?_) (fun c_2718918 => ?_)
          · refine gm_lti (lo := 1) (hi := 5) (gb_iadd (lo := 1) (hi := 5) j_2718911 (gb_ic (a := 1) (by decide)) (by decide)) (fun x_15 ex_15 ix_15 => ?_)
            exact ih _ _ (gb_iw (lo := 0) (hi := 1) (gb_ic (a := 1) (by decide)) (by decide)) (gb_iw (lo := 0) (hi := 5) ix_15 (by decide)) (gb_mup ex_15 j_2718911 (by decide) hm)
          · refine gm_lti (lo := 1) (hi := 5) (gb_iadd (lo := 1) (hi := 5) j_2718911 (gb_ic (a := 1) (by decide)) (by decide)) (fun x_14 ex_14 ix_14 => ?_)
            exact ih _ _ (gb_iw (lo := 0) (hi := 1) (gb_ic (a := 0) (by decide)) (by decide)) (gb_iw (lo := 0) (hi := 5) ix_14 (by decide)) (gb_mup ex_14 j_2718911 (by decide) hm)
set_option maxHeartbeats 4000000 in
theorem mt_isWhole {n : Nat} (hn : gb_N ≤ n) {f : gb_F} {w : Int64} (hT : gb_TM f) : gb_tm (ms_isWhole n f w) (fun f2 w2 r => f2 = f ∧ w2 = w ∧ gb_iv 0 1 r) := by
  have hX := gb_XKr hT
  unfold ms_isWhole
  exact mt_isWhole_4 hn hX (fun _ h => ⟨rfl, rfl, h⟩) n _ _ (gb_iw (lo := 0) (hi := 1) (gb_ic (a := 1) (by decide)) (by decide)) (gb_iw (lo := 0) (hi := 5) (gb_ic (a := 0) (by decide)) (by decide)) (gb_fuu hn (gb_iw (lo := 0) (hi := 5) (gb_ic (a := 0) (by decide)) (by decide)) (by decide))
set_option maxHeartbeats 4000000 in
theorem mt_opens_95 {n : Nat} (hn : gb_N ≤ n) {Q : gb_F → Int64 → Unit → Prop} {f0 : gb_F} (hret : ∀ (f : gb_F) (w : Int64) (r : Unit), gb_XK f0 f → True → Q f w r) : ∀ (mm : Nat) (f : gb_F) (w : Int64) (v1 : Int32), gb_XK f0 f → gb_iv 0 8 v1 → (8 - v1.toInt).toNat < mm → gb_tm (ms_opens_95 n mm f w v1) Q := by
  intro mm
  induction mm with
  | zero =>
    intro f w v1 hX iv1 hm
    exact absurd hm (Nat.not_lt_zero _)
  | succ mm ih =>
    intro f w v1 hX iv1 hm
    rw [ms_opens_95]
    refine gm_if (fun c_2727189 => ?_) (fun c_2727189 => ?_)
    · have j_2727190 : gb_iv 8 8 v1 := (gb_rL (lo := 8) (hi := 8) (gb_dle c_2727189) iv1 (gb_ic (a := 8) (by decide)) (by decide))
      exact gm_some (hret _ _ _ hX trivial)
    · have j_2727191 : gb_iv 0 7 v1 := (gb_rU (lo := 0) (hi := 7) (gb_dnle c_2727189) iv1 (gb_ic (a := 8) (by decide)) (by decide))
      refine gm_ck j_2727191 (by decide) ?_
      refine gm_ltf (gb_XKu hX rfl) (fun f_16 ef_16 hXf_16 => ?_)
      refine gm_lti (lo := 1) (hi := 8) (gb_iadd (lo := 1) (hi := 8) j_2727191 (gb_ic (a := 1) (by decide)) (by decide)) (fun x_17 ex_17 ix_17 => ?_)
      exact ih _ _ _ hXf_16 (gb_iw (lo := 0) (hi := 8) ix_17 (by decide)) (gb_mup ex_17 j_2727191 (by decide) hm)
set_option maxHeartbeats 4000000 in
theorem mt_opens_29 {n : Nat} (hn : gb_N ≤ n) {Q : gb_F → Int64 → Unit → Prop} {f0 : gb_F} (hret : ∀ (f : gb_F) (w : Int64) (r : Unit), gb_XK f0 f → True → Q f w r) : ∀ (mm : Nat) (f : gb_F) (w : Int64) (v1 : Int32), gb_XK f0 f → gb_iv 0 5 v1 → (5 - v1.toInt).toNat < mm → gb_tm (ms_opens_29 n mm f w v1) Q := by
  intro mm
  induction mm with
  | zero =>
    intro f w v1 hX iv1 hm
    exact absurd hm (Nat.not_lt_zero _)
  | succ mm ih =>
    intro f w v1 hX iv1 hm
    rw [ms_opens_29]
    refine gm_ck (gb_i29 hX.1) (by decide) ?_
    refine gm_lti (lo := 0) (hi := 5) (gb_r29 hX.1) (fun x_3 ex_3 ix_3 => ?_)
    refine gm_if (fun c_2727156 => ?_) (fun c_2727156 => ?_)
    · refine gm_lt (fun wl_5 ewl_5 => ?_)
      refine gm_ltf (gb_XKf hX rfl) (fun f_6 ef_6 hXf_6 => ?_)
      refine gm_ltf (gb_XKf hXf_6 rfl) (fun f_7 ef_7 hXf_7 => ?_)
      refine gm_bdP (mt_geese hXf_7.1) (fun r_10 h_2727157 => ?_)
      refine gm_ltf (gb_XKf hXf_7 rfl) (fun f_13 ef_13 hXf_13 => ?_)
      exact mt_opens_95 hn hret n _ _ _ hXf_13 (gb_iw (lo := 0) (hi := 8) (gb_ic (a := 0) (by decide)) (by decide)) (gb_fuu hn (gb_iw (lo := 0) (hi := 8) (gb_ic (a := 0) (by decide)) (by decide)) (by decide))
    · have j_2727192 : gb_iv 0 4 v1 := (gb_rU (lo := 0) (hi := 4) (gb_dnle c_2727156) iv1 ix_3 (by decide))
      have j_2727193 : gb_iv 1 5 x_3 := (gb_rL (lo := 1) (hi := 5) (gb_dnle c_2727156) ix_3 j_2727192 (by decide))
      refine gm_bdP (mt_seenOf0 hX.1 j_2727192) (fun r_20 h_2727194 => ?_)
      refine gm_bdP (mt_seenOf hn hX.1 (gb_iw (lo := 0) (hi := 5) j_2727192 (by decide)) (gb_iw (lo := 0) (hi := 1) (gb_ic (a := 1) (by decide)) (by decide))) (fun r_25 h_2727195 => ?_)
      refine gm_ck h_2727194 (by decide) ?_
      refine gm_ltf (gb_XKu hX rfl) (fun f_29 ef_29 hXf_29 => ?_)
      refine gm_lti (lo := 1) (hi := 5) (gb_iadd (lo := 1) (hi := 5) j_2727192 (gb_ic (a := 1) (by decide)) (by decide)) (fun x_30 ex_30 ix_30 => ?_)
      exact ih _ _ _ hXf_29 (gb_iw (lo := 0) (hi := 5) ix_30 (by decide)) (gb_mup ex_30 j_2727192 (by decide) hm)
set_option maxHeartbeats 4000000 in
theorem mt_opens_2 {n : Nat} (hn : gb_N ≤ n) {Q : gb_F → Int64 → Unit → Prop} {f0 : gb_F} (hret : ∀ (f : gb_F) (w : Int64) (r : Unit), gb_XK f0 f → True → Q f w r) : ∀ (mm : Nat) (f : gb_F) (w : Int64) (v1 : Int32), gb_XK f0 f → gb_iv 0 5 v1 → (5 - v1.toInt).toNat < mm → gb_tm (ms_opens_2 n mm f w v1) Q := by
  intro mm
  induction mm with
  | zero =>
    intro f w v1 hX iv1 hm
    exact absurd hm (Nat.not_lt_zero _)
  | succ mm ih =>
    intro f w v1 hX iv1 hm
    rw [ms_opens_2]
    refine gm_if (fun c_2726673 => ?_) (fun c_2726673 => ?_)
    · have j_2726674 : gb_iv 5 5 v1 := (gb_rL (lo := 5) (hi := 5) (gb_dle c_2726673) iv1 (gb_ic (a := 5) (by decide)) (by decide))
      exact mt_opens_29 hn hret n _ _ _ hX (gb_iw (lo := 0) (hi := 5) (gb_ic (a := 0) (by decide)) (by decide)) (gb_fuu hn (gb_iw (lo := 0) (hi := 5) (gb_ic (a := 0) (by decide)) (by decide)) (by decide))
    · have j_2727196 : gb_iv 0 4 v1 := (gb_rU (lo := 0) (hi := 4) (gb_dnle c_2726673) iv1 (gb_ic (a := 5) (by decide)) (by decide))
      refine gm_ck j_2727196 (by decide) ?_
      refine gm_ltf (gb_XKu hX rfl) (fun f_32 ef_32 hXf_32 => ?_)
      refine gm_ck j_2727196 (by decide) ?_
      refine gm_ltf (gb_XKu hXf_32 rfl) (fun f_34 ef_34 hXf_34 => ?_)
      refine gm_lti (lo := 1) (hi := 5) (gb_iadd (lo := 1) (hi := 5) j_2727196 (gb_ic (a := 1) (by decide)) (by decide)) (fun x_35 ex_35 ix_35 => ?_)
      exact ih _ _ _ hXf_34 (gb_iw (lo := 0) (hi := 5) ix_35 (by decide)) (gb_mup ex_35 j_2727196 (by decide) hm)
set_option maxHeartbeats 4000000 in
theorem mt_opens {n : Nat} (hn : gb_N ≤ n) {f : gb_F} {w : Int64} (hT : gb_TM f) : gb_tm (ms_opens n f w) (fun f2 _ _ => gb_XK f f2 ∧ True) := by
  have hX := gb_XKr hT
  unfold ms_opens
  exact mt_opens_2 hn (fun _ _ _ hX h => ⟨hX, h⟩) n _ _ _ hX (gb_iw (lo := 0) (hi := 5) (gb_ic (a := 0) (by decide)) (by decide)) (gb_fuu hn (gb_iw (lo := 0) (hi := 5) (gb_ic (a := 0) (by decide)) (by decide)) (by decide))
set_option maxHeartbeats 4000000 in
theorem mt_counts_93 {n : Nat} (hn : gb_N ≤ n) {Q : gb_F → Int64 → Unit → Prop} {f0 : gb_F} (hret : ∀ (f : gb_F) (w : Int64) (r : Unit), gb_XK f0 f → True → Q f w r) : ∀ (f : gb_F) (w : Int64) (v1 : Int32) (v2 : Int32) (t0 : Int32), gb_XK f0 f → gb_iv 0 255 v1 → gb_iv (-2147483648) 2147483647 v2 → gb_iv (-2147483648) 2147483647 t0 → gb_tm (ms_counts_93 n f w v1 v2 t0) Q := by
  intro f w v1 v2 t0 hX iv1 iv2 it0
  unfold ms_counts_93
  refine gm_ltf (gb_XKf hX rfl) (fun f_15 ef_15 hXf_15 => ?_)
  refine gm_if (fun c_2728360 => ?_) (fun c_2728360 => ?_)
  · refine gm_ltf (gb_XKf hXf_15 rfl) (fun f_17 ef_17 hXf_17 => ?_)
    refine gm_ltf (gb_XKf hXf_17 rfl) (fun f_18 ef_18 hXf_18 => ?_)
    exact gm_some (hret _ _ _ hXf_18 trivial)
  · have j_2728361 : gb_iv (-2147483648) 2147483646 (f_15 0 35) := (gb_rU (lo := (-2147483648)) (hi := 2147483646) (gb_dnle c_2728360) (gb_it _) (gb_it _) (by decide))
    have j_2728362 : gb_iv (-2147483647) 2147483647 v2 := (gb_rL (lo := (-2147483647)) (hi := 2147483647) (gb_dnle c_2728360) (gb_it _) j_2728361 (by decide))
    refine gm_ltf (gb_XKf hXf_15 rfl) (fun f_19 ef_19 hXf_19 => ?_)
    refine gm_ltf (gb_XKf hXf_19 rfl) (fun f_20 ef_20 hXf_20 => ?_)
    exact gm_some (hret _ _ _ hXf_20 trivial)
set_option maxHeartbeats 4000000 in
theorem mt_counts_93_i1 {n : Nat} (hn : gb_N ≤ n) {Q : gb_F → Int64 → Unit → Prop} {f0 : gb_F} (hret : ∀ (f : gb_F) (w : Int64) (r : Unit), gb_XK f0 f → True → Q f w r) : ∀ (f : gb_F) (w : Int64) (v1 : Int32) (v2 : Int32) (t0 : Int32), gb_XK f0 f → gb_iv 0 255 v1 → gb_iv (-2147483648) 2147483646 v2 → gb_iv (-2147483648) 2147483646 t0 → gb_tm (ms_counts_93 n f w v1 v2 t0) Q := by
  intro f w v1 v2 t0 hX iv1 iv2 it0
  unfold ms_counts_93
  refine gm_ltf (gb_XKf hX rfl) (fun f_15 ef_15 hXf_15 => ?_)
  refine gm_if (fun c_2728365 => ?_) (fun c_2728365 => ?_)
  · refine gm_ltf (gb_XKf hXf_15 rfl) (fun f_17 ef_17 hXf_17 => ?_)
    refine gm_ltf (gb_XKf hXf_17 rfl) (fun f_18 ef_18 hXf_18 => ?_)
    exact gm_some (hret _ _ _ hXf_18 trivial)
  · have j_2728366 : gb_iv (-2147483648) 2147483645 (f_15 0 35) := (gb_rU (lo := (-2147483648)) (hi := 2147483645) (gb_dnle c_2728365) (gb_it _) iv2 (by decide))
    have j_2728367 : gb_iv (-2147483647) 2147483646 v2 := (gb_rL (lo := (-2147483647)) (hi := 2147483646) (gb_dnle c_2728365) iv2 j_2728366 (by decide))
    refine gm_ltf (gb_XKf hXf_15 rfl) (fun f_19 ef_19 hXf_19 => ?_)
    refine gm_ltf (gb_XKf hXf_19 rfl) (fun f_20 ef_20 hXf_20 => ?_)
    exact gm_some (hret _ _ _ hXf_20 trivial)
set_option maxHeartbeats 4000000 in
theorem mt_counts_14 {n : Nat} (hn : gb_N ≤ n) {Q : gb_F → Int64 → Unit → Prop} {f0 : gb_F} (hret : ∀ (f : gb_F) (w : Int64) (r : Unit), gb_XK f0 f → True → Q f w r) : ∀ (mm : Nat) (f : gb_F) (w : Int64) (v1 : Int32) (v2 : Int32) (v3 : Int32), gb_XK f0 f → gb_iv 0 255 v1 → gb_iv (-2147483648) 2147483647 v2 → gb_iv 0 8 v3 → (8 - v3.toInt).toNat < mm → gb_tm (ms_counts_14 n mm f w v1 v2 v3) Q := by
  intro mm
  induction mm with
  | zero =>
    intro f w v1 v2 v3 hX iv1 iv2 iv3 hm
    exact absurd hm (Nat.not_lt_zero _)
  | succ mm ih =>
    intro f w v1 v2 v3 hX iv1 iv2 iv3 hm
    rw [ms_counts_14]
    refine gm_bdP (mt_geese hX.1) (fun r_9 h_2728357 => ?_)
    refine gm_if (fun c_2728358 => ?_) (fun c_2728358 => ?_)
    · refine gm_lt (fun wl_13 ewl_13 => ?_)
      refine gm_if (fun c_2728359 => ?_) (fun c_2728359 => ?_)
      · exact mt_counts_93 hn hret _ _ _ _ _ hX iv1 (gb_it _) (gb_it _)
      · have j_2728363 : gb_iv (-2147483648) 2147483646 v2 := (gb_rU (lo := (-2147483648)) (hi := 2147483646) (gb_dnle c_2728359) (gb_it _) (gb_it _) (by decide))
        have j_2728364 : gb_iv (-2147483647) 2147483647 (f 0 34) := (gb_rL (lo := (-2147483647)) (hi := 2147483647) (gb_dnle c_2728359) (gb_it _) j_2728363 (by decide))
        exact mt_counts_93_i1 hn hret _ _ _ _ _ hX iv1 j_2728363 j_2728363
    · have j_2728368 : gb_iv 0 7 v3 := (gb_rU (lo := 0) (hi := 7) (gb_dnle c_2728358) iv3 h_2728357 (by decide))
      have j_2728369 : gb_iv 1 8 r_9 := (gb_rL (lo := 1) (hi := 8) (gb_dnle c_2728358) h_2728357 j_2728368 (by decide))
      refine gm_ck j_2728368 (by decide) ?_
      refine gm_lti (lo := (-2147483648)) (hi := 2147483647) (gb_it _) (fun x_22 ex_22 ix_22 => ?_)
      refine gm_if (fun c_2728370 => ?_) (fun c_2728370 => ?_)
      · have j_2728371 : gb_iv 0 2147483647 x_22 := (gb_rL (lo := 0) (hi := 2147483647) (gb_dle c_2728370) (gb_it _) (gb_ic (a := 0) (by decide)) (by decide))
        refine gm_lti (lo := 0) (hi := 255) (gb_ior iv1 (gb_iw (lo := 0) (hi := 255) (gb_ishl (lo := 1) (hi := 128) j_2728368 (by decide)) (by decide))) (fun x_24 ex_24 ix_24 => ?_)
        refine gm_lti (lo := (-2147483648)) (hi := 2147483647) (gb_it _) (fun x_25 ex_25 ix_25 => ?_)
        refine gm_ck j_2728368 (by decide) ?_
        refine gm_lti (lo := (-2147483648)) (hi := 2147483647) (gb_it _) (fun x_27 ex_27 ix_27 => ?_)
        refine gm_ck j_2728368 (by decide) ?_
        refine gm_lti (lo := (-2147483648)) (hi := 2147483647) (gb_it _) (fun x_29 ex_29 ix_29 => ?_)
        refine gm_ck j_2728368 (by decide) ?_
        refine gm_ltf (gb_XKu hX rfl) (fun f_31 ef_31 hXf_31 => ?_)
        refine gm_lti (lo := 1) (hi := 8) (gb_iadd (lo := 1) (hi := 8) j_2728368 (gb_ic (a := 1) (by decide)) (by decide)) (fun x_32 ex_32 ix_32 => ?_)
        exact ih _ _ _ _ _ hXf_31 ix_24 (gb_it _) (gb_iw (lo := 0) (hi := 8) ix_32 (by decide)) (gb_mup ex_32 j_2728368 (by decide) hm)
      · have j_2728372 : gb_iv (-2147483648) (-1) x_22 := (gb_rU (lo := (-2147483648)) (hi := (-1)) (gb_dnle c_2728370) (gb_it _) (gb_ic (a := 0) (by decide)) (by decide))
        refine gm_lti (lo := 1) (hi := 8) (gb_iadd (lo := 1) (hi := 8) j_2728368 (gb_ic (a := 1) (by decide)) (by decide)) (fun x_33 ex_33 ix_33 => ?_)
        exact ih _ _ _ _ _ hX iv1 (gb_it _) (gb_iw (lo := 0) (hi := 8) ix_33 (by decide)) (gb_mup ex_33 j_2728368 (by decide) hm)
set_option maxHeartbeats 4000000 in
theorem mt_counts {n : Nat} (hn : gb_N ≤ n) {f : gb_F} {w : Int64} (hT : gb_TM f) : gb_tm (ms_counts n f w) (fun f2 _ _ => gb_XK f f2 ∧ True) := by
  have hX := gb_XKr hT
  unfold ms_counts
  refine gm_bdP (mt_isWhole hn hX.1) (fun r_3 h_2727777 => ?_)
  refine gm_if (fun c_2727778 => ?_) (fun c_2727778 => ?_)
  · have j_2727779 : gb_iv 0 0 r_3 := (gb_rU (lo := 0) (hi := 0) (gb_deq c_2727778) h_2727777 (gb_ic (a := 0) (by decide)) (by decide))
    exact gm_some ⟨hX, trivial⟩
  · have j_2727780 : gb_iv 1 1 r_3 := (gb_rN (lo := 1) (hi := 1) (v := 0) c_2727778 h_2727777 (by decide) (by decide))
    exact mt_counts_14 hn (fun _ _ _ hX h => ⟨hX, h⟩) n _ _ _ _ _ hX (gb_iw (lo := 0) (hi := 255) (gb_ic (a := 0) (by decide)) (by decide)) (gb_iw (lo := (-2147483648)) (hi := 2147483647) (gb_ic (a := 0) (by decide)) (by decide)) (gb_iw (lo := 0) (hi := 8) (gb_ic (a := 0) (by decide)) (by decide)) (gb_fuu hn (gb_iw (lo := 0) (hi := 8) (gb_ic (a := 0) (by decide)) (by decide)) (by decide))
set_option maxHeartbeats 4000000 in
theorem mt_toe_16 {n : Nat} (hn : gb_N ≤ n) {Q : gb_F → Int64 → Int32 → Prop} {f0 : gb_F} {k6 : gb_F → Int64 → Int32 → gb_MR Int32} {M6 : Nat} (hk6 : ∀ (f : gb_F) (w : Int64) (v1 : Int32), gb_XK f0 f → gb_iv 0 8 v1 → (8 - v1.toInt).toNat < M6 → gb_tm (k6 f w v1) Q) (hret : ∀ (f : gb_F) (w : Int64) (r : Int32), gb_XK f0 f → gb_iv (-1) 7 r → Q f w r) : ∀ (mm : Nat) (f : gb_F) (w : Int64) (v1 : Int32) (v2 : Int32), gb_XK f0 f → gb_iv 0 7 v1 → gb_iv 0 5 v2 → (8 - v1.toInt).toNat < M6 + 1 → (5 - v2.toInt).toNat < mm → gb_tm (ms_toe_16 n k6 mm f w v1 v2) Q := by
  intro mm
  induction mm with
  | zero =>
    intro f w v1 v2 hX iv1 iv2 hm6 hm
    exact absurd hm (Nat.not_lt_zero _)
  | succ mm ih =>
    intro f w v1 v2 hX iv1 iv2 hm6 hm
    rw [ms_toe_16]
    refine gm_ck (gb_i29 hX.1) (by decide) ?_
    refine gm_lti (lo := 0) (hi := 5) (gb_r29 hX.1) (fun x_13 ex_13 ix_13 => ?_)
    refine gm_if (fun c_2732932 => ?_) (fun c_2732932 => ?_)
    · refine gm_lti (lo := 1) (hi := 8) (gb_iadd (lo := 1) (hi := 8) iv1 (gb_ic (a := 1) (by decide)) (by decide)) (fun x_15 ex_15 ix_15 => ?_)
      exact hk6 _ _ _ hX (gb_iw (lo := 0) (hi := 8) ix_15 (by decide)) (gb_mup ex_15 iv1 (by decide) hm6)
    · have j_2732933 : gb_iv 0 4 v2 := (gb_rU (lo := 0) (hi := 4) (gb_dnle c_2732932) iv2 ix_13 (by decide))
      have j_2732934 : gb_iv 1 5 x_13 := (gb_rL (lo := 1) (hi := 5) (gb_dnle c_2732932) ix_13 j_2732933 (by decide))
      refine gm_bdP (mt_seenOf0 hX.1 j_2732933) (fun r_18 h_2732935 => ?_)
      refine gm_bdP (mt_isPath hX.1) (fun r_23 h_2732936 => ?_)
      refine gm_if (fun c_2732937 => ?_) (fun c_2732937 => ?_)
      · have j_2732938 : gb_iv 0 0 r_23 := (gb_rU (lo := 0) (hi := 0) (gb_deq c_2732937) h_2732936.1 (gb_ic (a := 0) (by decide)) (by decide))
        refine gm_lti (lo := 1) (hi := 5) (gb_iadd (lo := 1) (hi := 5) j_2732933 (gb_ic (a := 1) (by decide)) (by decide)) (fun x_27 ex_27 ix_27 => ?_)
        exact ih _ _ _ _ hX iv1 (gb_iw (lo := 0) (hi := 5) ix_27 (by decide)) hm6 (gb_mup ex_27 j_2732933 (by decide) hm)
      · have j_2732939 : gb_iv 1 1 r_23 := (gb_rN (lo := 1) (hi := 1) (v := 0) c_2732937 h_2732936.1 (by decide) (by decide))
        refine gm_bdP (mt_seenOf0 hX.1 j_2732933) (fun r_30 h_2732940 => ?_)
        refine gm_ck (gb_iadd (lo := 0) (hi := 39) (gb_imul (lo := 0) (hi := 35) (gb_ic (a := 5) (by decide)) iv1 (by decide)) h_2732940 (by decide)) (by decide) ?_
        refine gm_lti (lo := (-2147483648)) (hi := 2147483647) (gb_it _) (fun x_34 ex_34 ix_34 => ?_)
        refine gm_bdP (mt_seenOf hn hX.1 (gb_iw (lo := 0) (hi := 5) j_2732933 (by decide)) (gb_iw (lo := 0) (hi := 1) (gb_ic (a := 1) (by decide)) (by decide))) (fun r_37 h_2732941 => ?_)
        refine gm_if (fun c_2732942 => ?_) (fun c_2732942 => ?_)
        · exact gm_some (hret _ _ _ hX (gb_iw (lo := (-1)) (hi := 7) iv1 (by decide)))
        · refine gm_lti (lo := 1) (hi := 5) (gb_iadd (lo := 1) (hi := 5) j_2732933 (gb_ic (a := 1) (by decide)) (by decide)) (fun x_41 ex_41 ix_41 => ?_)
          exact ih _ _ _ _ hX iv1 (gb_iw (lo := 0) (hi := 5) ix_41 (by decide)) hm6 (gb_mup ex_41 j_2732933 (by decide) hm)
set_option maxHeartbeats 4000000 in
theorem mt_toe_6 {n : Nat} (hn : gb_N ≤ n) {Q : gb_F → Int64 → Int32 → Prop} {f0 : gb_F} (hret : ∀ (f : gb_F) (w : Int64) (r : Int32), gb_XK f0 f → gb_iv (-1) 7 r → Q f w r) : ∀ (mm : Nat) (f : gb_F) (w : Int64) (v1 : Int32), gb_XK f0 f → gb_iv 0 8 v1 → (8 - v1.toInt).toNat < mm → gb_tm (ms_toe_6 n mm f w v1) Q := by
  intro mm
  induction mm with
  | zero =>
    intro f w v1 hX iv1 hm
    exact absurd hm (Nat.not_lt_zero _)
  | succ mm ih =>
    intro f w v1 hX iv1 hm
    rw [ms_toe_6]
    refine gm_bdP (mt_geese hX.1) (fun r_8 h_2732785 => ?_)
    refine gm_if (fun c_2732786 => ?_) (fun c_2732786 => ?_)
    · exact gm_some (hret _ _ _ hX (gb_iw (lo := (-1)) (hi := 7) (gb_ic (a := (-1)) (by decide)) (by decide)))
    · have j_2732787 : gb_iv 0 7 v1 := (gb_rU (lo := 0) (hi := 7) (gb_dnle c_2732786) iv1 h_2732785 (by decide))
      have j_2732788 : gb_iv 1 8 r_8 := (gb_rL (lo := 1) (hi := 8) (gb_dnle c_2732786) h_2732785 j_2732787 (by decide))
      exact mt_toe_16 hn ih hret n _ _ _ _ hX j_2732787 (gb_iw (lo := 0) (hi := 5) (gb_ic (a := 0) (by decide)) (by decide)) hm (gb_fuu hn (gb_iw (lo := 0) (hi := 5) (gb_ic (a := 0) (by decide)) (by decide)) (by decide))
set_option maxHeartbeats 4000000 in
theorem mt_toe {n : Nat} (hn : gb_N ≤ n) {f : gb_F} {w : Int64} (hT : gb_TM f) : gb_tm (ms_toe n f w) (fun f2 _ r => gb_XK f f2 ∧ gb_iv (-1) 7 r) := by
  have hX := gb_XKr hT
  unfold ms_toe
  refine gm_bdK hX (mt_measures hn hX.1) (fun f_1 wl_2 u_2730579 hXf_1 _ => ?_)
  exact mt_toe_6 hn (fun _ _ _ hX h => ⟨hX, h⟩) n _ _ _ hXf_1 (gb_iw (lo := 0) (hi := 8) (gb_ic (a := 0) (by decide)) (by decide)) (gb_fuu hn (gb_iw (lo := 0) (hi := 8) (gb_ic (a := 0) (by decide)) (by decide)) (by decide))
set_option maxHeartbeats 4000000 in
theorem mt_below {n : Nat} (hn : gb_N ≤ n) {f : gb_F} {w : Int64} {p1 : Int32} (hT : gb_TM f) (ip1 : gb_iv 1 11 p1) : gb_tm (ms_below n f w p1) (fun f2 _ r => gb_XK f f2 ∧ gb_iv 0 10 r) := by
  have hX := gb_XKr hT
  unfold ms_below
  refine gm_ltf (gb_XKf hX rfl) (fun f_1 ef_1 hXf_1 => ?_)
  refine gm_nz ip1 (by decide) ?_
  refine gm_lti (lo := 0) (hi := 10) (gb_irem (lo := 0) (hi := 10) (gb_iushr _) ip1 (by decide)) (fun x_3 ex_3 ix_3 => ?_)
  exact gm_some ⟨hXf_1, ix_3⟩
set_option maxHeartbeats 4000000 in
theorem mt_below5 {n : Nat} (hn : gb_N ≤ n) {f : gb_F} {w : Int64} {p1 : Int32} (hT : gb_TM f) (ip1 : gb_iv 1 5 p1) : gb_tm (ms_below n f w p1) (fun f2 _ r => gb_XK f f2 ∧ gb_iv 0 4 r) := by
  have hX := gb_XKr hT
  unfold ms_below
  refine gm_ltf (gb_XKf hX rfl) (fun f_1 ef_1 hXf_1 => ?_)
  refine gm_nz ip1 (by decide) ?_
  refine gm_lti (lo := 0) (hi := 4) (gb_irem (lo := 0) (hi := 4) (gb_iushr _) ip1 (by decide)) (fun x_3 ex_3 ix_3 => ?_)
  exact gm_some ⟨hXf_1, ix_3⟩
set_option maxHeartbeats 4000000 in
theorem mt_draws_92 {n : Nat} (hn : gb_N ≤ n) {Q : gb_F → Int64 → Unit → Prop} {f0 : gb_F} (hFPP : gb_PP f0) (hret : ∀ (f : gb_F) (w : Int64) (r : Unit), gb_XK f0 f → True → Q f w r) : ∀ (mm : Nat) (f : gb_F) (w : Int64) (v1 : Int32) (v2 : Int32), gb_XK f0 f → gb_iv 0 10 v1 → gb_iv 0 5 v2 → (5 - v2.toInt).toNat < mm → gb_tm (ms_draws_92 n mm f w v1 v2) Q := by
  intro mm
  induction mm with
  | zero =>
    intro f w v1 v2 hX iv1 iv2 hm
    exact absurd hm (Nat.not_lt_zero _)
  | succ mm ih =>
    intro f w v1 v2 hX iv1 iv2 hm
    rw [ms_draws_92]
    refine gm_bdP (mt_pathsP hX.1 (gb_PPx hX hFPP)) (fun r_15 h_2770887 => ?_)
    refine gm_if (fun c_2770888 => ?_) (fun c_2770888 => ?_)
    · have j_2770889 : gb_iv 1 5 v2 := (gb_rL (lo := 1) (hi := 5) (gb_dle c_2770888) iv2 h_2770887.1 (by decide))
      exact gm_some (hret _ _ _ hX trivial)
    · have j_2770890 : gb_iv 0 4 v2 := (gb_rU (lo := 0) (hi := 4) (gb_dnle c_2770888) iv2 h_2770887.1 (by decide))
      refine gm_ck j_2770890 (by decide) ?_
      refine gm_lti (lo := (-2147483648)) (hi := 2147483647) (gb_it _) (fun x_20 ex_20 ix_20 => ?_)
      refine gm_ck j_2770890 (by decide) ?_
      refine gm_lti (lo := (-2147483648)) (hi := 2147483647) (gb_it _) (fun x_22 ex_22 ix_22 => ?_)
      refine gm_lti (lo := (-2147483648)) (hi := 2147483647) (gb_it _) (fun x_23 ex_23 ix_23 => ?_)
      refine gm_lti (lo := (-2147483648)) (hi := 2147483647) (gb_it _) (fun x_24 ex_24 ix_24 => ?_)
      refine gm_ck j_2770890 (by decide) ?_
      refine gm_lti (lo := (-2147483648)) (hi := 2147483647) (gb_it _) (fun x_26 ex_26 ix_26 => ?_)
      refine gm_ck j_2770890 (by decide) ?_
      refine gm_ltf (gb_XKu hX rfl) (fun f_28 ef_28 hXf_28 => ?_)
      refine gm_bdP (mt_ofPath hn hXf_28.1 (gb_iw (lo := 0) (hi := 100) j_2770890 (by decide)) (gb_iw (lo := 0) (hi := 2) (gb_ic (a := 1) (by decide)) (by decide))) (fun r_31 h_2770891 => ?_)
      refine gm_bdP (mt_padded hn hXf_28.1 (gb_iw (lo := 0) (hi := 100) j_2770890 (by decide))) (fun r_36 h_2770892 => ?_)
      refine gm_ltf (gb_XKf hXf_28 rfl) (fun f_39 ef_39 hXf_39 => ?_)
      refine gm_bdK hXf_39 (mt_below hn hXf_39.1 (gb_iw (lo := 1) (hi := 11) (gb_ic (a := 10) (by decide)) (by decide))) (fun f_40 wl_41 r_42 hXf_40 h_2770893 => ?_)
      refine gm_bdP (mt_ofPath hn hXf_40.1 (gb_iw (lo := 0) (hi := 100) j_2770890 (by decide)) (gb_iw (lo := 0) (hi := 2) (gb_ic (a := 2) (by decide)) (by decide))) (fun r_47 h_2770894 => ?_)
      refine gm_if (fun c_2770895 => ?_) (fun c_2770895 => ?_)
      · have j_2770896 : gb_iv (-2147483648) 10 r_47 := (gb_rU (lo := (-2147483648)) (hi := 10) (gb_dle c_2770895) (gb_it _) h_2770893 (by decide))
        refine gm_ltf (gb_XKf hXf_40 rfl) (fun f_51 ef_51 hXf_51 => ?_)
        refine gm_lti (lo := 1) (hi := 5) (gb_iadd (lo := 1) (hi := 5) j_2770890 (gb_ic (a := 1) (by decide)) (by decide)) (fun x_52 ex_52 ix_52 => ?_)
        exact ih _ _ _ _ hXf_51 iv1 (gb_iw (lo := 0) (hi := 5) ix_52 (by decide)) (gb_mup ex_52 j_2770890 (by decide) hm)
      · have j_2770897 : gb_iv 1 2147483647 r_47 := (gb_rL (lo := 1) (hi := 2147483647) (gb_dnle c_2770895) (gb_it _) h_2770893 (by decide))
        refine gm_ltf (gb_XKf hXf_40 rfl) (fun f_53 ef_53 hXf_53 => ?_)
        refine gm_lti (lo := 1) (hi := 5) (gb_iadd (lo := 1) (hi := 5) j_2770890 (gb_ic (a := 1) (by decide)) (by decide)) (fun x_54 ex_54 ix_54 => ?_)
        exact ih _ _ _ _ hXf_53 iv1 (gb_iw (lo := 0) (hi := 5) ix_54 (by decide)) (gb_mup ex_54 j_2770890 (by decide) hm)
set_option maxHeartbeats 4000000 in
theorem mt_draws_22 {n : Nat} (hn : gb_N ≤ n) {Q : gb_F → Int64 → Unit → Prop} {f0 : gb_F} (hFPP : gb_PP f0) (hret : ∀ (f : gb_F) (w : Int64) (r : Unit), gb_XK f0 f → True → Q f w r) : ∀ (mm : Nat) (f : gb_F) (w : Int64) (v1 : Int32), gb_XK f0 f → gb_iv 0 8 v1 → (8 - v1.toInt).toNat < mm → gb_tm (ms_draws_22 n mm f w v1) Q := by
  intro mm
  induction mm with
  | zero =>
    intro f w v1 hX iv1 hm
    exact absurd hm (Nat.not_lt_zero _)
  | succ mm ih =>
    intro f w v1 hX iv1 hm
    rw [ms_draws_22]
    refine gm_bdP (mt_geese hX.1) (fun r_4 h_2770743 => ?_)
    refine gm_if (fun c_2770744 => ?_) (fun c_2770744 => ?_)
    · refine gm_bdK hX (mt_below hn hX.1 (gb_iw (lo := 1) (hi := 11) (gb_ic (a := 11) (by decide)) (by decide))) (fun f_8 wl_9 r_10 hXf_8 h_2770745 => ?_)
      exact mt_draws_92 hn hFPP hret n _ _ _ _ hXf_8 h_2770745 (gb_iw (lo := 0) (hi := 5) (gb_ic (a := 0) (by decide)) (by decide)) (gb_fuu hn (gb_iw (lo := 0) (hi := 5) (gb_ic (a := 0) (by decide)) (by decide)) (by decide))
    · have j_2770898 : gb_iv 0 7 v1 := (gb_rU (lo := 0) (hi := 7) (gb_dnle c_2770744) iv1 h_2770743 (by decide))
      have j_2770899 : gb_iv 1 8 r_4 := (gb_rL (lo := 1) (hi := 8) (gb_dnle c_2770744) h_2770743 j_2770898 (by decide))
      refine gm_bdP (mt_pathsP hX.1 (gb_PPx hX hFPP)) (fun r_57 h_2770900 => ?_)
      refine gm_bdK hX (mt_below5 hn hX.1 h_2770900.1) (fun f_60 wl_61 r_62 hXf_60 h_2770901 => ?_)
      refine gm_ck h_2770901 (by decide) ?_
      refine gm_lti (lo := (-2147483648)) (hi := 2147483647) (gb_it _) (fun x_66 ex_66 ix_66 => ?_)
      refine gm_ck (gb_iadd (lo := 0) (hi := 39) (gb_imul (lo := 0) (hi := 35) (gb_ic (a := 5) (by decide)) j_2770898 (by decide)) h_2770901 (by decide)) (by decide) ?_
      refine gm_lti (lo := (-2147483648)) (hi := 2147483647) (gb_it _) (fun x_68 ex_68 ix_68 => ?_)
      refine gm_ck h_2770901 (by decide) ?_
      refine gm_ltf (gb_XKu hXf_60 rfl) (fun f_70 ef_70 hXf_70 => ?_)
      refine gm_ck j_2770898 (by decide) ?_
      refine gm_lti (lo := (-2147483648)) (hi := 2147483647) (gb_it _) (fun x_72 ex_72 ix_72 => ?_)
      refine gm_ck (gb_iadd (lo := 0) (hi := 39) (gb_imul (lo := 0) (hi := 35) (gb_ic (a := 5) (by decide)) j_2770898 (by decide)) h_2770901 (by decide)) (by decide) ?_
      refine gm_lti (lo := (-2147483648)) (hi := 2147483647) (gb_it _) (fun x_74 ex_74 ix_74 => ?_)
      refine gm_ck j_2770898 (by decide) ?_
      refine gm_ltf (gb_XKu hXf_70 rfl) (fun f_76 ef_76 hXf_76 => ?_)
      refine gm_lti (lo := 1) (hi := 8) (gb_iadd (lo := 1) (hi := 8) j_2770898 (gb_ic (a := 1) (by decide)) (by decide)) (fun x_77 ex_77 ix_77 => ?_)
      exact ih _ _ _ hXf_76 (gb_iw (lo := 0) (hi := 8) ix_77 (by decide)) (gb_mup ex_77 j_2770898 (by decide) hm)
set_option maxHeartbeats 4000000 in
theorem mt_draws_2 {n : Nat} (hn : gb_N ≤ n) {Q : gb_F → Int64 → Unit → Prop} {f0 : gb_F} (hFPP : gb_PP f0) (hret : ∀ (f : gb_F) (w : Int64) (r : Unit), gb_XK f0 f → True → Q f w r) : ∀ (mm : Nat) (f : gb_F) (w : Int64) (v1 : Int32), gb_XK f0 f → gb_iv 0 5 v1 → (5 - v1.toInt).toNat < mm → gb_tm (ms_draws_2 n mm f w v1) Q := by
  intro mm
  induction mm with
  | zero =>
    intro f w v1 hX iv1 hm
    exact absurd hm (Nat.not_lt_zero _)
  | succ mm ih =>
    intro f w v1 hX iv1 hm
    rw [ms_draws_2]
    refine gm_if (fun c_2768521 => ?_) (fun c_2768521 => ?_)
    · have j_2768522 : gb_iv 5 5 v1 := (gb_rL (lo := 5) (hi := 5) (gb_dle c_2768521) iv1 (gb_ic (a := 5) (by decide)) (by decide))
      exact mt_draws_22 hn hFPP hret n _ _ _ hX (gb_iw (lo := 0) (hi := 8) (gb_ic (a := 0) (by decide)) (by decide)) (gb_fuu hn (gb_iw (lo := 0) (hi := 8) (gb_ic (a := 0) (by decide)) (by decide)) (by decide))
    · have j_2770902 : gb_iv 0 4 v1 := (gb_rU (lo := 0) (hi := 4) (gb_dnle c_2768521) iv1 (gb_ic (a := 5) (by decide)) (by decide))
      refine gm_ck j_2770902 (by decide) ?_
      refine gm_ltf (gb_XKu hX rfl) (fun f_79 ef_79 hXf_79 => ?_)
      refine gm_lti (lo := 1) (hi := 5) (gb_iadd (lo := 1) (hi := 5) j_2770902 (gb_ic (a := 1) (by decide)) (by decide)) (fun x_80 ex_80 ix_80 => ?_)
      exact ih _ _ _ hXf_79 (gb_iw (lo := 0) (hi := 5) ix_80 (by decide)) (gb_mup ex_80 j_2770902 (by decide) hm)
set_option maxHeartbeats 4000000 in
theorem mt_draws {n : Nat} (hn : gb_N ≤ n) {f : gb_F} {w : Int64} (hT : gb_TM f) (hFPP : gb_PP f) : gb_tm (ms_draws n f w) (fun f2 _ _ => gb_XK f f2 ∧ True) := by
  have hX := gb_XKr hT
  unfold ms_draws
  exact mt_draws_2 hn hFPP (fun _ _ _ hX h => ⟨hX, h⟩) n _ _ _ hX (gb_iw (lo := 0) (hi := 5) (gb_ic (a := 0) (by decide)) (by decide)) (gb_fuu hn (gb_iw (lo := 0) (hi := 5) (gb_ic (a := 0) (by decide)) (by decide)) (by decide))
set_option maxHeartbeats 4000000 in
theorem mt_drawn_130 {n : Nat} (hn : gb_N ≤ n) {Q : gb_F → Int64 → Int32 → Prop} {f0 : gb_F} (hFPP : gb_PP f0) (hret : ∀ (f : gb_F) (w : Int64) (r : Int32), gb_XK f0 f → gb_iv (-2147483648) 2147483647 r → Q f w r) : ∀ (mm : Nat) (f : gb_F) (w : Int64) (v3 : Int32) (v4 : Int32) (v5 : Int32), gb_XK f0 f → gb_iv 1 20 v3 → gb_iv 20 27 v4 → gb_iv 0 20 v5 → (20 - v5.toInt).toNat < mm → gb_tm (ms_drawn_130 n mm f w v3 v4 v5) Q := by
  intro mm
  induction mm with
  | zero =>
    intro f w v3 v4 v5 hX iv3 iv4 iv5 hm
    exact absurd hm (Nat.not_lt_zero _)
  | succ mm ih =>
    intro f w v3 v4 v5 hX iv3 iv4 iv5 hm
    rw [ms_drawn_130]
    refine gm_if (fun c_2851829 => ?_) (fun c_2851829 => ?_)
    · have j_2851830 : gb_iv 1 20 v5 := (gb_rL (lo := 1) (hi := 20) (gb_dle c_2851829) iv5 iv3 (by decide))
      refine gm_if (fun c_2851831 => ?_) (fun c_2851831 => ?_)
      · exact (gb_em (gb_rU (lo := 20) (hi := 1) (gb_deq c_2851831) iv4 (gb_ic (a := 1) (by decide)) (by decide)) (by decide)).elim
      · refine gm_if (fun c_2851832 => ?_) (fun c_2851832 => ?_)
        · exact (gb_em (gb_rU (lo := 20) (hi := 2) (gb_deq c_2851832) iv4 (gb_ic (a := 2) (by decide)) (by decide)) (by decide)).elim
        · refine gm_if (fun c_2851833 => ?_) (fun c_2851833 => ?_)
          · exact (gb_em (gb_rU (lo := 20) (hi := 9) (gb_dlt c_2851833) iv4 (gb_ic (a := 10) (by decide)) (by decide)) (by decide)).elim
          · refine gm_if (fun c_2851834 => ?_) (fun c_2851834 => ?_)
            · refine gm_ck (gb_isub (lo := 0) (hi := 7) iv4 (gb_ic (a := 20) (by decide)) (by decide)) (by decide) ?_
              refine gm_lti (lo := (-2147483648)) (hi := 2147483647) (gb_it _) (fun x_46 ex_46 ix_46 => ?_)
              exact gm_some (hret _ _ _ hX (gb_it _))
            · exact (gb_em (gb_rU (lo := 20) (hi := 19) (gb_dnle c_2851834) iv4 (gb_ic (a := 20) (by decide)) (by decide)) (by decide)).elim
    · have j_2851835 : gb_iv 0 19 v5 := (gb_rU (lo := 0) (hi := 19) (gb_dnle c_2851829) iv5 iv3 (by decide))
      refine gm_bdK hX (mt_draws hn hX.1 (gb_PPx hX hFPP)) (fun f_49 wl_50 u_2851836 hXf_49 _ => ?_)
      refine gm_lti (lo := 1) (hi := 20) (gb_iadd (lo := 1) (hi := 20) j_2851835 (gb_ic (a := 1) (by decide)) (by decide)) (fun x_54 ex_54 ix_54 => ?_)
      exact ih _ _ _ _ _ hXf_49 iv3 iv4 (gb_iw (lo := 0) (hi := 20) ix_54 (by decide)) (gb_mup ex_54 j_2851835 (by decide) hm)
set_option maxHeartbeats 4000000 in
theorem mt_drawn_106 {n : Nat} (hn : gb_N ≤ n) {Q : gb_F → Int64 → Int32 → Prop} {f0 : gb_F} (hFPP : gb_PP f0) (hret : ∀ (f : gb_F) (w : Int64) (r : Int32), gb_XK f0 f → gb_iv (-2147483648) 2147483647 r → Q f w r) : ∀ (mm : Nat) (f : gb_F) (w : Int64) (v3 : Int32) (v4 : Int32) (v5 : Int32), gb_XK f0 f → gb_iv 1 20 v3 → gb_iv 20 27 v4 → gb_iv 0 8 v5 → (8 - v5.toInt).toNat < mm → gb_tm (ms_drawn_106 n mm f w v3 v4 v5) Q := by
  intro mm
  induction mm with
  | zero =>
    intro f w v3 v4 v5 hX iv3 iv4 iv5 hm
    exact absurd hm (Nat.not_lt_zero _)
  | succ mm ih =>
    intro f w v3 v4 v5 hX iv3 iv4 iv5 hm
    rw [ms_drawn_106]
    refine gm_if (fun c_2851673 => ?_) (fun c_2851673 => ?_)
    · have j_2851674 : gb_iv 8 8 v5 := (gb_rL (lo := 8) (hi := 8) (gb_dle c_2851673) iv5 (gb_ic (a := 8) (by decide)) (by decide))
      exact mt_drawn_130 hn hFPP hret n _ _ _ _ _ hX iv3 iv4 (gb_iw (lo := 0) (hi := 20) (gb_ic (a := 0) (by decide)) (by decide)) (gb_fuu hn (gb_iw (lo := 0) (hi := 20) (gb_ic (a := 0) (by decide)) (by decide)) (by decide))
    · have j_2851837 : gb_iv 0 7 v5 := (gb_rU (lo := 0) (hi := 7) (gb_dnle c_2851673) iv5 (gb_ic (a := 8) (by decide)) (by decide))
      refine gm_ck j_2851837 (by decide) ?_
      refine gm_ltf (gb_XKu hX rfl) (fun f_56 ef_56 hXf_56 => ?_)
      refine gm_lti (lo := 1) (hi := 8) (gb_iadd (lo := 1) (hi := 8) j_2851837 (gb_ic (a := 1) (by decide)) (by decide)) (fun x_57 ex_57 ix_57 => ?_)
      exact ih _ _ _ _ _ hXf_56 iv3 iv4 (gb_iw (lo := 0) (hi := 8) ix_57 (by decide)) (gb_mup ex_57 j_2851837 (by decide) hm)
set_option maxHeartbeats 4000000 in
theorem mt_drawn_83 {n : Nat} (hn : gb_N ≤ n) {Q : gb_F → Int64 → Int32 → Prop} {f0 : gb_F} (hFPP : gb_PP f0) (hret : ∀ (f : gb_F) (w : Int64) (r : Int32), gb_XK f0 f → gb_iv (-2147483648) 2147483647 r → Q f w r) : ∀ (mm : Nat) (f : gb_F) (w : Int64) (v3 : Int32) (v4 : Int32) (v5 : Int32), gb_XK f0 f → gb_iv 1 20 v3 → gb_iv 20 27 v4 → gb_iv 0 5 v5 → (5 - v5.toInt).toNat < mm → gb_tm (ms_drawn_83 n mm f w v3 v4 v5) Q := by
  intro mm
  induction mm with
  | zero =>
    intro f w v3 v4 v5 hX iv3 iv4 iv5 hm
    exact absurd hm (Nat.not_lt_zero _)
  | succ mm ih =>
    intro f w v3 v4 v5 hX iv3 iv4 iv5 hm
    rw [ms_drawn_83]
    refine gm_if (fun c_2850408 => ?_) (fun c_2850408 => ?_)
    · have j_2850409 : gb_iv 5 5 v5 := (gb_rL (lo := 5) (hi := 5) (gb_dle c_2850408) iv5 (gb_ic (a := 5) (by decide)) (by decide))
      exact mt_drawn_106 hn hFPP hret n _ _ _ _ _ hX iv3 iv4 (gb_iw (lo := 0) (hi := 8) (gb_ic (a := 0) (by decide)) (by decide)) (gb_fuu hn (gb_iw (lo := 0) (hi := 8) (gb_ic (a := 0) (by decide)) (by decide)) (by decide))
    · have j_2851838 : gb_iv 0 4 v5 := (gb_rU (lo := 0) (hi := 4) (gb_dnle c_2850408) iv5 (gb_ic (a := 5) (by decide)) (by decide))
      refine gm_ck j_2851838 (by decide) ?_
      refine gm_ltf (gb_XKu hX rfl) (fun f_59 ef_59 hXf_59 => ?_)
      refine gm_lti (lo := 1) (hi := 5) (gb_iadd (lo := 1) (hi := 5) j_2851838 (gb_ic (a := 1) (by decide)) (by decide)) (fun x_60 ex_60 ix_60 => ?_)
      exact ih _ _ _ _ _ hXf_59 iv3 iv4 (gb_iw (lo := 0) (hi := 5) ix_60 (by decide)) (gb_mup ex_60 j_2851838 (by decide) hm)
set_option maxHeartbeats 4000000 in
theorem mt_drawn_130_i1 {n : Nat} (hn : gb_N ≤ n) {Q : gb_F → Int64 → Int32 → Prop} {f0 : gb_F} (hFPP : gb_PP f0) (hret : ∀ (f : gb_F) (w : Int64) (r : Int32), gb_XK f0 f → gb_iv (-2147483648) 2147483647 r → Q f w r) : ∀ (mm : Nat) (f : gb_F) (w : Int64) (v3 : Int32) (v4 : Int32) (v5 : Int32), gb_XK f0 f → gb_iv 1 20 v3 → gb_iv 10 14 v4 → gb_iv 0 20 v5 → (20 - v5.toInt).toNat < mm → gb_tm (ms_drawn_130 n mm f w v3 v4 v5) Q := by
  intro mm
  induction mm with
  | zero =>
    intro f w v3 v4 v5 hX iv3 iv4 iv5 hm
    exact absurd hm (Nat.not_lt_zero _)
  | succ mm ih =>
    intro f w v3 v4 v5 hX iv3 iv4 iv5 hm
    rw [ms_drawn_130]
    refine gm_if (fun c_2863397 => ?_) (fun c_2863397 => ?_)
    · have j_2863398 : gb_iv 1 20 v5 := (gb_rL (lo := 1) (hi := 20) (gb_dle c_2863397) iv5 iv3 (by decide))
      refine gm_if (fun c_2863399 => ?_) (fun c_2863399 => ?_)
      · exact (gb_em (gb_rU (lo := 10) (hi := 1) (gb_deq c_2863399) iv4 (gb_ic (a := 1) (by decide)) (by decide)) (by decide)).elim
      · refine gm_if (fun c_2863400 => ?_) (fun c_2863400 => ?_)
        · exact (gb_em (gb_rU (lo := 10) (hi := 2) (gb_deq c_2863400) iv4 (gb_ic (a := 2) (by decide)) (by decide)) (by decide)).elim
        · refine gm_if (fun c_2863401 => ?_) (fun c_2863401 => ?_)
          · exact (gb_em (gb_rU (lo := 10) (hi := 9) (gb_dlt c_2863401) iv4 (gb_ic (a := 10) (by decide)) (by decide)) (by decide)).elim
          · refine gm_if (fun c_2863402 => ?_) (fun c_2863402 => ?_)
            · exact (gb_em (gb_rL (lo := 20) (hi := 14) (gb_dle c_2863402) iv4 (gb_ic (a := 20) (by decide)) (by decide)) (by decide)).elim
            · refine gm_ck (gb_isub (lo := 0) (hi := 4) iv4 (gb_ic (a := 10) (by decide)) (by decide)) (by decide) ?_
              refine gm_lti (lo := (-2147483648)) (hi := 2147483647) (gb_it _) (fun x_48 ex_48 ix_48 => ?_)
              exact gm_some (hret _ _ _ hX (gb_it _))
    · have j_2863403 : gb_iv 0 19 v5 := (gb_rU (lo := 0) (hi := 19) (gb_dnle c_2863397) iv5 iv3 (by decide))
      refine gm_bdK hX (mt_draws hn hX.1 (gb_PPx hX hFPP)) (fun f_49 wl_50 u_2863404 hXf_49 _ => ?_)
      refine gm_lti (lo := 1) (hi := 20) (gb_iadd (lo := 1) (hi := 20) j_2863403 (gb_ic (a := 1) (by decide)) (by decide)) (fun x_54 ex_54 ix_54 => ?_)
      exact ih _ _ _ _ _ hXf_49 iv3 iv4 (gb_iw (lo := 0) (hi := 20) ix_54 (by decide)) (gb_mup ex_54 j_2863403 (by decide) hm)
set_option maxHeartbeats 4000000 in
theorem mt_drawn_106_i1 {n : Nat} (hn : gb_N ≤ n) {Q : gb_F → Int64 → Int32 → Prop} {f0 : gb_F} (hFPP : gb_PP f0) (hret : ∀ (f : gb_F) (w : Int64) (r : Int32), gb_XK f0 f → gb_iv (-2147483648) 2147483647 r → Q f w r) : ∀ (mm : Nat) (f : gb_F) (w : Int64) (v3 : Int32) (v4 : Int32) (v5 : Int32), gb_XK f0 f → gb_iv 1 20 v3 → gb_iv 10 14 v4 → gb_iv 0 8 v5 → (8 - v5.toInt).toNat < mm → gb_tm (ms_drawn_106 n mm f w v3 v4 v5) Q := by
  intro mm
  induction mm with
  | zero =>
    intro f w v3 v4 v5 hX iv3 iv4 iv5 hm
    exact absurd hm (Nat.not_lt_zero _)
  | succ mm ih =>
    intro f w v3 v4 v5 hX iv3 iv4 iv5 hm
    rw [ms_drawn_106]
    refine gm_if (fun c_2863241 => ?_) (fun c_2863241 => ?_)
    · have j_2863242 : gb_iv 8 8 v5 := (gb_rL (lo := 8) (hi := 8) (gb_dle c_2863241) iv5 (gb_ic (a := 8) (by decide)) (by decide))
      exact mt_drawn_130_i1 hn hFPP hret n _ _ _ _ _ hX iv3 iv4 (gb_iw (lo := 0) (hi := 20) (gb_ic (a := 0) (by decide)) (by decide)) (gb_fuu hn (gb_iw (lo := 0) (hi := 20) (gb_ic (a := 0) (by decide)) (by decide)) (by decide))
    · have j_2863405 : gb_iv 0 7 v5 := (gb_rU (lo := 0) (hi := 7) (gb_dnle c_2863241) iv5 (gb_ic (a := 8) (by decide)) (by decide))
      refine gm_ck j_2863405 (by decide) ?_
      refine gm_ltf (gb_XKu hX rfl) (fun f_56 ef_56 hXf_56 => ?_)
      refine gm_lti (lo := 1) (hi := 8) (gb_iadd (lo := 1) (hi := 8) j_2863405 (gb_ic (a := 1) (by decide)) (by decide)) (fun x_57 ex_57 ix_57 => ?_)
      exact ih _ _ _ _ _ hXf_56 iv3 iv4 (gb_iw (lo := 0) (hi := 8) ix_57 (by decide)) (gb_mup ex_57 j_2863405 (by decide) hm)
set_option maxHeartbeats 4000000 in
theorem mt_drawn_83_i1 {n : Nat} (hn : gb_N ≤ n) {Q : gb_F → Int64 → Int32 → Prop} {f0 : gb_F} (hFPP : gb_PP f0) (hret : ∀ (f : gb_F) (w : Int64) (r : Int32), gb_XK f0 f → gb_iv (-2147483648) 2147483647 r → Q f w r) : ∀ (mm : Nat) (f : gb_F) (w : Int64) (v3 : Int32) (v4 : Int32) (v5 : Int32), gb_XK f0 f → gb_iv 1 20 v3 → gb_iv 10 14 v4 → gb_iv 0 5 v5 → (5 - v5.toInt).toNat < mm → gb_tm (ms_drawn_83 n mm f w v3 v4 v5) Q := by
  intro mm
  induction mm with
  | zero =>
    intro f w v3 v4 v5 hX iv3 iv4 iv5 hm
    exact absurd hm (Nat.not_lt_zero _)
  | succ mm ih =>
    intro f w v3 v4 v5 hX iv3 iv4 iv5 hm
    rw [ms_drawn_83]
    refine gm_if (fun c_2861976 => ?_) (fun c_2861976 => ?_)
    · have j_2861977 : gb_iv 5 5 v5 := (gb_rL (lo := 5) (hi := 5) (gb_dle c_2861976) iv5 (gb_ic (a := 5) (by decide)) (by decide))
      exact mt_drawn_106_i1 hn hFPP hret n _ _ _ _ _ hX iv3 iv4 (gb_iw (lo := 0) (hi := 8) (gb_ic (a := 0) (by decide)) (by decide)) (gb_fuu hn (gb_iw (lo := 0) (hi := 8) (gb_ic (a := 0) (by decide)) (by decide)) (by decide))
    · have j_2863406 : gb_iv 0 4 v5 := (gb_rU (lo := 0) (hi := 4) (gb_dnle c_2861976) iv5 (gb_ic (a := 5) (by decide)) (by decide))
      refine gm_ck j_2863406 (by decide) ?_
      refine gm_ltf (gb_XKu hX rfl) (fun f_59 ef_59 hXf_59 => ?_)
      refine gm_lti (lo := 1) (hi := 5) (gb_iadd (lo := 1) (hi := 5) j_2863406 (gb_ic (a := 1) (by decide)) (by decide)) (fun x_60 ex_60 ix_60 => ?_)
      exact ih _ _ _ _ _ hXf_59 iv3 iv4 (gb_iw (lo := 0) (hi := 5) ix_60 (by decide)) (gb_mup ex_60 j_2863406 (by decide) hm)
set_option maxHeartbeats 4000000 in
theorem mt_drawn_212 {n : Nat} (hn : gb_N ≤ n) {Q : gb_F → Int64 → Int32 → Prop} {f0 : gb_F} (hFPP : gb_PP f0) (hret : ∀ (f : gb_F) (w : Int64) (r : Int32), gb_XK f0 f → gb_iv (-2147483648) 2147483647 r → Q f w r) : ∀ (mm : Nat) (f : gb_F) (w : Int64) (v5 : Int32) (v6 : Int32), gb_XK f0 f → gb_iv (-2147483648) 2147483647 v5 → gb_iv 0 5 v6 → (5 - v6.toInt).toNat < mm → gb_tm (ms_drawn_212 n mm f w v5 v6) Q := by
  intro mm
  induction mm with
  | zero =>
    intro f w v5 v6 hX iv5 iv6 hm
    exact absurd hm (Nat.not_lt_zero _)
  | succ mm ih =>
    intro f w v5 v6 hX iv5 iv6 hm
    rw [ms_drawn_212]
    refine gm_if (fun c_2919386 => ?_) (fun c_2919386 => ?_)
    · have j_2919387 : gb_iv 5 5 v6 := (gb_rL (lo := 5) (hi := 5) (gb_dle c_2919386) iv6 (gb_ic (a := 5) (by decide)) (by decide))
      exact gm_some (hret _ _ _ hX (gb_it _))
    · have j_2919388 : gb_iv 0 4 v6 := (gb_rU (lo := 0) (hi := 4) (gb_dnle c_2919386) iv6 (gb_ic (a := 5) (by decide)) (by decide))
      refine gm_ck j_2919388 (by decide) ?_
      refine gm_lti (lo := (-2147483648)) (hi := 2147483647) (gb_it _) (fun x_41 ex_41 ix_41 => ?_)
      refine gm_lti (lo := (-2147483648)) (hi := 2147483647) (gb_it _) (fun x_42 ex_42 ix_42 => ?_)
      refine gm_lti (lo := 1) (hi := 5) (gb_iadd (lo := 1) (hi := 5) j_2919388 (gb_ic (a := 1) (by decide)) (by decide)) (fun x_43 ex_43 ix_43 => ?_)
      exact ih _ _ _ _ hX (gb_it _) (gb_iw (lo := 0) (hi := 5) ix_43 (by decide)) (gb_mup ex_43 j_2919388 (by decide) hm)
set_option maxHeartbeats 4000000 in
theorem mt_drawn_130_i2 {n : Nat} (hn : gb_N ≤ n) {Q : gb_F → Int64 → Int32 → Prop} {f0 : gb_F} (hFPP : gb_PP f0) (hret : ∀ (f : gb_F) (w : Int64) (r : Int32), gb_XK f0 f → gb_iv (-2147483648) 2147483647 r → Q f w r) : ∀ (mm : Nat) (f : gb_F) (w : Int64) (v3 : Int32) (v4 : Int32) (v5 : Int32), gb_XK f0 f → gb_iv 1 20 v3 → gb_iv 0 2 v4 → gb_iv 0 20 v5 → (20 - v5.toInt).toNat < mm → gb_tm (ms_drawn_130 n mm f w v3 v4 v5) Q := by
  intro mm
  induction mm with
  | zero =>
    intro f w v3 v4 v5 hX iv3 iv4 iv5 hm
    exact absurd hm (Nat.not_lt_zero _)
  | succ mm ih =>
    intro f w v3 v4 v5 hX iv3 iv4 iv5 hm
    rw [ms_drawn_130]
    refine gm_if (fun c_2919348 => ?_) (fun c_2919348 => ?_)
    · have j_2919349 : gb_iv 1 20 v5 := (gb_rL (lo := 1) (hi := 20) (gb_dle c_2919348) iv5 iv3 (by decide))
      refine gm_if (fun c_2919350 => ?_) (fun c_2919350 => ?_)
      · have j_2919351 : gb_iv 0 1 v4 := (gb_rU (lo := 0) (hi := 1) (gb_deq c_2919350) iv4 (gb_ic (a := 1) (by decide)) (by decide))
        have j_2919352 : gb_iv 1 1 v4 := (gb_rL (lo := 1) (hi := 1) (gb_deq2 c_2919350) j_2919351 (gb_ic (a := 1) (by decide)) (by decide))
        exact gm_some (hret _ _ _ hX (gb_it _))
      · refine gm_if (fun c_2919353 => ?_) (fun c_2919353 => ?_)
        · have j_2919354 : gb_iv 2 2 v4 := (gb_rL (lo := 2) (hi := 2) (gb_deq2 c_2919353) iv4 (gb_ic (a := 2) (by decide)) (by decide))
          exact gm_some (hret _ _ _ hX (gb_it _))
        · have j_2919355 : gb_iv 0 1 v4 := (gb_rN (lo := 0) (hi := 1) (v := 2) c_2919353 iv4 (by decide) (by decide))
          refine gm_if (fun c_2919356 => ?_) (fun c_2919356 => ?_)
          · exact mt_drawn_212 hn hFPP hret n _ _ _ _ hX (gb_iw (lo := (-2147483648)) (hi := 2147483647) (gb_ic (a := 0) (by decide)) (by decide)) (gb_iw (lo := 0) (hi := 5) (gb_ic (a := 0) (by decide)) (by decide)) (gb_fuu hn (gb_iw (lo := 0) (hi := 5) (gb_ic (a := 0) (by decide)) (by decide)) (by decide))
          · exact (gb_em (gb_rL (lo := 10) (hi := 1) (gb_dnlt c_2919356) j_2919355 (gb_ic (a := 10) (by decide)) (by decide)) (by decide)).elim
    · have j_2919389 : gb_iv 0 19 v5 := (gb_rU (lo := 0) (hi := 19) (gb_dnle c_2919348) iv5 iv3 (by decide))
      refine gm_bdK hX (mt_draws hn hX.1 (gb_PPx hX hFPP)) (fun f_49 wl_50 u_2919390 hXf_49 _ => ?_)
      refine gm_lti (lo := 1) (hi := 20) (gb_iadd (lo := 1) (hi := 20) j_2919389 (gb_ic (a := 1) (by decide)) (by decide)) (fun x_54 ex_54 ix_54 => ?_)
      exact ih _ _ _ _ _ hXf_49 iv3 iv4 (gb_iw (lo := 0) (hi := 20) ix_54 (by decide)) (gb_mup ex_54 j_2919389 (by decide) hm)
set_option maxHeartbeats 4000000 in
theorem mt_drawn_106_i2 {n : Nat} (hn : gb_N ≤ n) {Q : gb_F → Int64 → Int32 → Prop} {f0 : gb_F} (hFPP : gb_PP f0) (hret : ∀ (f : gb_F) (w : Int64) (r : Int32), gb_XK f0 f → gb_iv (-2147483648) 2147483647 r → Q f w r) : ∀ (mm : Nat) (f : gb_F) (w : Int64) (v3 : Int32) (v4 : Int32) (v5 : Int32), gb_XK f0 f → gb_iv 1 20 v3 → gb_iv 0 2 v4 → gb_iv 0 8 v5 → (8 - v5.toInt).toNat < mm → gb_tm (ms_drawn_106 n mm f w v3 v4 v5) Q := by
  intro mm
  induction mm with
  | zero =>
    intro f w v3 v4 v5 hX iv3 iv4 iv5 hm
    exact absurd hm (Nat.not_lt_zero _)
  | succ mm ih =>
    intro f w v3 v4 v5 hX iv3 iv4 iv5 hm
    rw [ms_drawn_106]
    refine gm_if (fun c_2918584 => ?_) (fun c_2918584 => ?_)
    · have j_2918585 : gb_iv 8 8 v5 := (gb_rL (lo := 8) (hi := 8) (gb_dle c_2918584) iv5 (gb_ic (a := 8) (by decide)) (by decide))
      exact mt_drawn_130_i2 hn hFPP hret n _ _ _ _ _ hX iv3 iv4 (gb_iw (lo := 0) (hi := 20) (gb_ic (a := 0) (by decide)) (by decide)) (gb_fuu hn (gb_iw (lo := 0) (hi := 20) (gb_ic (a := 0) (by decide)) (by decide)) (by decide))
    · have j_2919391 : gb_iv 0 7 v5 := (gb_rU (lo := 0) (hi := 7) (gb_dnle c_2918584) iv5 (gb_ic (a := 8) (by decide)) (by decide))
      refine gm_ck j_2919391 (by decide) ?_
      refine gm_ltf (gb_XKu hX rfl) (fun f_56 ef_56 hXf_56 => ?_)
      refine gm_lti (lo := 1) (hi := 8) (gb_iadd (lo := 1) (hi := 8) j_2919391 (gb_ic (a := 1) (by decide)) (by decide)) (fun x_57 ex_57 ix_57 => ?_)
      exact ih _ _ _ _ _ hXf_56 iv3 iv4 (gb_iw (lo := 0) (hi := 8) ix_57 (by decide)) (gb_mup ex_57 j_2919391 (by decide) hm)
set_option maxHeartbeats 4000000 in
theorem mt_drawn_83_i2 {n : Nat} (hn : gb_N ≤ n) {Q : gb_F → Int64 → Int32 → Prop} {f0 : gb_F} (hFPP : gb_PP f0) (hret : ∀ (f : gb_F) (w : Int64) (r : Int32), gb_XK f0 f → gb_iv (-2147483648) 2147483647 r → Q f w r) : ∀ (mm : Nat) (f : gb_F) (w : Int64) (v3 : Int32) (v4 : Int32) (v5 : Int32), gb_XK f0 f → gb_iv 1 20 v3 → gb_iv 0 2 v4 → gb_iv 0 5 v5 → (5 - v5.toInt).toNat < mm → gb_tm (ms_drawn_83 n mm f w v3 v4 v5) Q := by
  intro mm
  induction mm with
  | zero =>
    intro f w v3 v4 v5 hX iv3 iv4 iv5 hm
    exact absurd hm (Nat.not_lt_zero _)
  | succ mm ih =>
    intro f w v3 v4 v5 hX iv3 iv4 iv5 hm
    rw [ms_drawn_83]
    refine gm_if (fun c_2912455 => ?_) (fun c_2912455 => ?_)
    · have j_2912456 : gb_iv 5 5 v5 := (gb_rL (lo := 5) (hi := 5) (gb_dle c_2912455) iv5 (gb_ic (a := 5) (by decide)) (by decide))
      exact mt_drawn_106_i2 hn hFPP hret n _ _ _ _ _ hX iv3 iv4 (gb_iw (lo := 0) (hi := 8) (gb_ic (a := 0) (by decide)) (by decide)) (gb_fuu hn (gb_iw (lo := 0) (hi := 8) (gb_ic (a := 0) (by decide)) (by decide)) (by decide))
    · have j_2919392 : gb_iv 0 4 v5 := (gb_rU (lo := 0) (hi := 4) (gb_dnle c_2912455) iv5 (gb_ic (a := 5) (by decide)) (by decide))
      refine gm_ck j_2919392 (by decide) ?_
      refine gm_ltf (gb_XKu hX rfl) (fun f_59 ef_59 hXf_59 => ?_)
      refine gm_lti (lo := 1) (hi := 5) (gb_iadd (lo := 1) (hi := 5) j_2919392 (gb_ic (a := 1) (by decide)) (by decide)) (fun x_60 ex_60 ix_60 => ?_)
      exact ih _ _ _ _ _ hXf_59 iv3 iv4 (gb_iw (lo := 0) (hi := 5) ix_60 (by decide)) (gb_mup ex_60 j_2919392 (by decide) hm)
set_option maxHeartbeats 4000000 in
theorem mt_drawn {n : Nat} (hn : gb_N ≤ n) {f : gb_F} {w : Int64} {p1 : Int32} {p2 : Int32} {p3 : Int32} {p4 : Int32} (hT : gb_TM f) : gb_tm (ms_drawn n f w p1 p2 p3 p4) (fun f2 _ r => gb_TM f2 ∧ gb_iv (-2147483648) 2147483647 r) := by
  have hX := gb_XKr hT
  unfold ms_drawn
  refine gm_bdT (mt_isBorder hX.1) (fun f_1 wl_2 r_3 hXf_1 h_2840248 => ?_)
  refine gm_if (fun c_2840249 => ?_) (fun c_2840249 => ?_)
  · have j_2840250 : gb_iv 0 0 r_3 := (gb_rU (lo := 0) (hi := 0) (gb_deq c_2840249) h_2840248.1 (gb_ic (a := 0) (by decide)) (by decide))
    exact gm_some ⟨hXf_1.1, (gb_iw (lo := (-2147483648)) (hi := 2147483647) (gb_ic (a := (-1)) (by decide)) (by decide))⟩
  · have j_2840251 : gb_iv 1 1 r_3 := (gb_rN (lo := 1) (hi := 1) (v := 0) c_2840249 h_2840248.1 (by decide) (by decide))
    refine gm_bdP (mt_paths hXf_1.1) (fun r_9 h_2840252 => ?_)
    refine gm_if (fun c_2840253 => ?_) (fun c_2840253 => ?_)
    · have j_2840254 : gb_iv 0 0 r_9 := (gb_rU (lo := 0) (hi := 0) (gb_deq c_2840253) h_2840252.1 (gb_ic (a := 0) (by decide)) (by decide))
      exact gm_some ⟨hXf_1.1, (gb_iw (lo := (-2147483648)) (hi := 2147483647) (gb_ic (a := (-1)) (by decide)) (by decide))⟩
    · have j_2840255 : gb_iv 1 5 r_9 := (gb_rN (lo := 1) (hi := 5) (v := 0) c_2840253 h_2840252.1 (by decide) (by decide))
      have hF_2840256 := (gb_PPy hXf_1 (h_2840252.2 j_2840255.1))
      refine gm_bdP mt_isIn (fun r_15 h_2840257 => ?_)
      refine gm_if (fun c_2840258 => ?_) (fun c_2840258 => ?_)
      · have j_2840259 : gb_iv 0 0 r_15 := (gb_rU (lo := 0) (hi := 0) (gb_deq c_2840258) h_2840257.1 (gb_ic (a := 0) (by decide)) (by decide))
        exact gm_some ⟨hXf_1.1, (gb_iw (lo := (-2147483648)) (hi := 2147483647) (gb_ic (a := (-1)) (by decide)) (by decide))⟩
      · have j_2840260 : gb_iv 1 1 r_15 := (gb_rN (lo := 1) (hi := 1) (v := 0) c_2840258 h_2840257.1 (by decide) (by decide))
        have j_2840261 : gb_iv 1 20 p3 := ((fun q_ => gb_iin (a := 0) (b := 0) (h_2840257.2 q_) (gb_ic (a := 1) (by decide)).1 (gb_ic (a := 20) (by decide)).2) c_2840258)
        refine gm_bdP mt_isIn (fun r_21 h_2840262 => ?_)
        refine gm_if (fun c_2840263 => ?_) (fun c_2840263 => ?_)
        · have j_2840264 : gb_iv 0 0 r_21 := (gb_rU (lo := 0) (hi := 0) (gb_deq c_2840263) h_2840262.1 (gb_ic (a := 0) (by decide)) (by decide))
          refine gm_bdP (mt_isPath hXf_1.1) (fun r_63 h_2840265 => ?_)
          refine gm_if (fun c_2840266 => ?_) (fun c_2840266 => ?_)
          · have j_2840267 : gb_iv 0 0 r_63 := (gb_rU (lo := 0) (hi := 0) (gb_deq c_2840266) h_2840265.1 (gb_ic (a := 0) (by decide)) (by decide))
            refine gm_bdP (mt_isGoose hXf_1.1) (fun r_77 h_2840268 => ?_)
            refine gm_if (fun c_2840269 => ?_) (fun c_2840269 => ?_)
            · have j_2840270 : gb_iv 0 0 r_77 := (gb_rU (lo := 0) (hi := 0) (gb_deq c_2840269) h_2840268.1 (gb_ic (a := 0) (by decide)) (by decide))
              exact gm_some ⟨hXf_1.1, (gb_iw (lo := (-2147483648)) (hi := 2147483647) (gb_ic (a := (-1)) (by decide)) (by decide))⟩
            · have j_2840271 : gb_iv 1 1 r_77 := (gb_rN (lo := 1) (hi := 1) (v := 0) c_2840269 h_2840268.1 (by decide) (by decide))
              have j_2840272 : gb_iv 0 7 (p4 - 20) := (h_2840268.2 c_2840269)
              have j_2840273 : gb_iv 20 27 p4 := (gb_vsub (lo := 20) (hi := 27) (v := 20) j_2840272 (by decide) (by decide))
              refine gm_bdK hXf_1 (mt_measures hn hXf_1.1) (fun f_81 wl_82 u_2840274 hXf_81 _ => ?_)
              refine gm_ltf (gb_XKf hXf_81 rfl) (fun f_86 ef_86 hXf_86 => ?_)
              refine gm_ltf (gb_XKf hXf_86 rfl) (fun f_87 ef_87 hXf_87 => ?_)
              refine gm_ltf (gb_XKf hXf_87 rfl) (fun f_88 ef_88 hXf_88 => ?_)
              exact mt_drawn_83 hn hF_2840256 (fun _ _ _ hX h => ⟨hX.1, h⟩) n _ _ _ _ _ hXf_88 j_2840261 j_2840273 (gb_iw (lo := 0) (hi := 5) (gb_ic (a := 0) (by decide)) (by decide)) (gb_fuu hn (gb_iw (lo := 0) (hi := 5) (gb_ic (a := 0) (by decide)) (by decide)) (by decide))
          · have j_2851839 : gb_iv 1 1 r_63 := (gb_rN (lo := 1) (hi := 1) (v := 0) c_2840266 h_2840265.1 (by decide) (by decide))
            have j_2851840 : gb_iv 0 4 (p4 - 10) := (h_2840265.2 c_2840266)
            have j_2851841 : gb_iv 10 14 p4 := (gb_vsub (lo := 10) (hi := 14) (v := 10) j_2851840 (by decide) (by decide))
            refine gm_bdK hXf_1 (mt_measures hn hXf_1.1) (fun f_67 wl_68 u_2851842 hXf_67 _ => ?_)
            refine gm_ltf (gb_XKf hXf_67 rfl) (fun f_72 ef_72 hXf_72 => ?_)
            refine gm_ltf (gb_XKf hXf_72 rfl) (fun f_73 ef_73 hXf_73 => ?_)
            refine gm_ltf (gb_XKf hXf_73 rfl) (fun f_74 ef_74 hXf_74 => ?_)
            exact mt_drawn_83_i1 hn hF_2840256 (fun _ _ _ hX h => ⟨hX.1, h⟩) n _ _ _ _ _ hXf_74 j_2840261 j_2851841 (gb_iw (lo := 0) (hi := 5) (gb_ic (a := 0) (by decide)) (by decide)) (gb_fuu hn (gb_iw (lo := 0) (hi := 5) (gb_ic (a := 0) (by decide)) (by decide)) (by decide))
        · have j_2863407 : gb_iv 1 1 r_21 := (gb_rN (lo := 1) (hi := 1) (v := 0) c_2840263 h_2840262.1 (by decide) (by decide))
          have j_2863408 : gb_iv 0 2 p4 := ((fun q_ => gb_iin (a := 0) (b := 0) (h_2840262.2 q_) (gb_ic (a := 0) (by decide)).1 (gb_ic (a := 2) (by decide)).2) c_2840263)
          refine gm_bdK hXf_1 (mt_measures hn hXf_1.1) (fun f_25 wl_26 u_2863409 hXf_25 _ => ?_)
          refine gm_ltf (gb_XKf hXf_25 rfl) (fun f_30 ef_30 hXf_30 => ?_)
          refine gm_ltf (gb_XKf hXf_30 rfl) (fun f_31 ef_31 hXf_31 => ?_)
          refine gm_ltf (gb_XKf hXf_31 rfl) (fun f_32 ef_32 hXf_32 => ?_)
          exact mt_drawn_83_i2 hn hF_2840256 (fun _ _ _ hX h => ⟨hX.1, h⟩) n _ _ _ _ _ hXf_32 j_2840261 j_2863408 (gb_iw (lo := 0) (hi := 5) (gb_ic (a := 0) (by decide)) (by decide)) (gb_fuu hn (gb_iw (lo := 0) (hi := 5) (gb_ic (a := 0) (by decide)) (by decide)) (by decide))
set_option maxHeartbeats 4000000 in
theorem mt_alike_37 {n : Nat} (hn : gb_N ≤ n) {Q : gb_F → Int64 → Int32 → Prop} {f0 : gb_F} (hret : ∀ (f : gb_F) (w : Int64) (r : Int32), gb_XK f0 f → gb_iv (-1) 255 r → Q f w r) : ∀ (mm : Nat) (f : gb_F) (w : Int64) (v2 : Int32) (v3 : Int32) (v4 : Int32) (v5 : Int32), gb_XK f0 f → gb_iv 0 7 v2 → gb_iv 0 7 v3 → gb_iv 0 255 v4 → gb_iv 0 5 v5 → (5 - v5.toInt).toNat < mm → gb_tm (ms_alike_37 n mm f w v2 v3 v4 v5) Q := by
  intro mm
  induction mm with
  | zero =>
    intro f w v2 v3 v4 v5 hX iv2 iv3 iv4 iv5 hm
    exact absurd hm (Nat.not_lt_zero _)
  | succ mm ih =>
    intro f w v2 v3 v4 v5 hX iv2 iv3 iv4 iv5 hm
    rw [ms_alike_37]
    refine gm_bdP (mt_paths hX.1) (fun r_22 h_2919631 => ?_)
    refine gm_if (fun c_2919632 => ?_) (fun c_2919632 => ?_)
    · exact gm_some (hret _ _ _ hX (gb_iw (lo := (-1)) (hi := 255) iv4 (by decide)))
    · have j_2919633 : gb_iv 0 4 v5 := (gb_rU (lo := 0) (hi := 4) (gb_dnle c_2919632) iv5 h_2919631.1 (by decide))
      have j_2919634 : gb_iv 1 5 r_22 := (gb_rL (lo := 1) (hi := 5) (gb_dnle c_2919632) h_2919631.1 j_2919633 (by decide))
      have hF_2919635 := (gb_PPy hX (h_2919631.2 j_2919634.1))
      refine gm_bdP (mt_firstMarks hn hX.1 iv2 (gb_iw (lo := 0) (hi := 100) j_2919633 (by decide))) (fun r_28 h_2919636 => ?_)
      refine gm_bdP (mt_firstMarks hn hX.1 iv3 (gb_iw (lo := 0) (hi := 100) j_2919633 (by decide))) (fun r_33 h_2919637 => ?_)
      refine gm_if (fun c_2919638 => ?_) (fun c_2919638 => ?_)
      · refine gm_lti (lo := 0) (hi := 255) (gb_ior iv4 (gb_iw (lo := 0) (hi := 255) (gb_ishl (lo := 1) (hi := 16) j_2919633 (by decide)) (by decide))) (fun x_39 ex_39 ix_39 => ?_)
        refine gm_lti (lo := 1) (hi := 5) (gb_iadd (lo := 1) (hi := 5) j_2919633 (gb_ic (a := 1) (by decide)) (by decide)) (fun x_40 ex_40 ix_40 => ?_)
        exact ih _ _ _ _ _ _ hX iv2 iv3 ix_39 (gb_iw (lo := 0) (hi := 5) ix_40 (by decide)) (gb_mup ex_40 j_2919633 (by decide) hm)
      · refine gm_lti (lo := 0) (hi := 255) (gb_ior iv4 (gb_iw (lo := 0) (hi := 255) (gb_ic (a := 0) (by decide)) (by decide))) (fun x_37 ex_37 ix_37 => ?_)
        refine gm_lti (lo := 1) (hi := 5) (gb_iadd (lo := 1) (hi := 5) j_2919633 (gb_ic (a := 1) (by decide)) (by decide)) (fun x_38 ex_38 ix_38 => ?_)
        exact ih _ _ _ _ _ _ hX iv2 iv3 ix_37 (gb_iw (lo := 0) (hi := 5) ix_38 (by decide)) (gb_mup ex_38 j_2919633 (by decide) hm)
set_option maxHeartbeats 4000000 in
theorem mt_alike {n : Nat} (hn : gb_N ≤ n) {f : gb_F} {w : Int64} {p1 : Int32} {p2 : Int32} {p3 : Int32} (hT : gb_TM f) : gb_tm (ms_alike n f w p1 p2 p3) (fun f2 _ r => gb_TM f2 ∧ gb_iv (-1) 255 r) := by
  have hX := gb_XKr hT
  unfold ms_alike
  refine gm_bdT (mt_isBorder hX.1) (fun f_1 wl_2 r_3 hXf_1 h_2919512 => ?_)
  refine gm_if (fun c_2919513 => ?_) (fun c_2919513 => ?_)
  · have j_2919514 : gb_iv 0 0 r_3 := (gb_rU (lo := 0) (hi := 0) (gb_deq c_2919513) h_2919512.1 (gb_ic (a := 0) (by decide)) (by decide))
    exact gm_some ⟨hXf_1.1, (gb_iw (lo := (-1)) (hi := 255) (gb_ic (a := (-1)) (by decide)) (by decide))⟩
  · have j_2919515 : gb_iv 1 1 r_3 := (gb_rN (lo := 1) (hi := 1) (v := 0) c_2919513 h_2919512.1 (by decide) (by decide))
    refine gm_bdP (mt_isGoose hXf_1.1) (fun r_9 h_2919516 => ?_)
    refine gm_if (fun c_2919517 => ?_) (fun c_2919517 => ?_)
    · have j_2919518 : gb_iv 0 0 r_9 := (gb_rU (lo := 0) (hi := 0) (gb_deq c_2919517) h_2919516.1 (gb_ic (a := 0) (by decide)) (by decide))
      exact gm_some ⟨hXf_1.1, (gb_iw (lo := (-1)) (hi := 255) (gb_ic (a := (-1)) (by decide)) (by decide))⟩
    · have j_2919519 : gb_iv 1 1 r_9 := (gb_rN (lo := 1) (hi := 1) (v := 0) c_2919517 h_2919516.1 (by decide) (by decide))
      have j_2919520 : gb_iv 0 7 p2 := (h_2919516.2 c_2919517)
      refine gm_bdP (mt_isGoose hXf_1.1) (fun r_15 h_2919521 => ?_)
      refine gm_if (fun c_2919522 => ?_) (fun c_2919522 => ?_)
      · have j_2919523 : gb_iv 0 0 r_15 := (gb_rU (lo := 0) (hi := 0) (gb_deq c_2919522) h_2919521.1 (gb_ic (a := 0) (by decide)) (by decide))
        exact gm_some ⟨hXf_1.1, (gb_iw (lo := (-1)) (hi := 255) (gb_ic (a := (-1)) (by decide)) (by decide))⟩
      · have j_2919524 : gb_iv 1 1 r_15 := (gb_rN (lo := 1) (hi := 1) (v := 0) c_2919522 h_2919521.1 (by decide) (by decide))
        have j_2919525 : gb_iv 0 7 p3 := (h_2919521.2 c_2919522)
        refine gm_if (fun c_2919526 => ?_) (fun c_2919526 => ?_)
        · exact gm_some ⟨hXf_1.1, (gb_iw (lo := (-1)) (hi := 255) (gb_ic (a := (-1)) (by decide)) (by decide))⟩
        · exact mt_alike_37 hn (fun _ _ _ hX h => ⟨hX.1, h⟩) n _ _ _ _ _ _ hXf_1 j_2919520 j_2919525 (gb_iw (lo := 0) (hi := 255) (gb_ic (a := 0) (by decide)) (by decide)) (gb_iw (lo := 0) (hi := 5) (gb_ic (a := 0) (by decide)) (by decide)) (gb_fuu hn (gb_iw (lo := 0) (hi := 5) (gb_ic (a := 0) (by decide)) (by decide)) (by decide))
set_option maxHeartbeats 4000000 in
theorem mt_span_56 {n : Nat} (hn : gb_N ≤ n) {Q : gb_F → Int64 → Int32 → Prop} {f0 : gb_F} {k36 : gb_F → Int64 → Int32 → Int32 → Int32 → Int32 → Int32 → gb_MR Int32} {M36 : Nat} (hk36 : ∀ (f : gb_F) (w : Int64) (v2 : Int32) (v3 : Int32) (v4 : Int32) (v5 : Int32) (v6 : Int32), gb_XK f0 f → gb_iv 0 4 v2 → gb_iv 0 8 v3 → gb_iv (-2147483648) 2147483647 v4 → gb_iv (-2147483648) 2147483647 v5 → gb_iv 0 256 v6 → (256 - v6.toInt).toNat < M36 → gb_tm (k36 f w v2 v3 v4 v5 v6) Q) (hret : ∀ (f : gb_F) (w : Int64) (r : Int32), gb_XK f0 f → gb_iv (-2147483648) 2147483647 r → Q f w r) : ∀ (mm : Nat) (f : gb_F) (w : Int64) (v2 : Int32) (v3 : Int32) (v4 : Int32) (v5 : Int32) (v6 : Int32) (v7 : Int32) (v8 : Int32) (v9 : Int32), gb_XK f0 f → gb_iv 0 4 v2 → gb_iv 0 8 v3 → gb_iv (-2147483648) 2147483647 v4 → gb_iv (-2147483648) 2147483647 v5 → gb_iv 0 255 v6 → gb_iv (-2147483648) 2147483647 v7 → gb_iv (-2147483648) 2147483647 v8 → gb_iv 0 8 v9 → (256 - v6.toInt).toNat < M36 + 1 → (8 - v9.toInt).toNat < mm → gb_tm (ms_span_56 n k36 mm f w v2 v3 v4 v5 v6 v7 v8 v9) Q := by
  intro mm
  induction mm with
  | zero =>
    intro f w v2 v3 v4 v5 v6 v7 v8 v9 hX iv2 iv3 iv4 iv5 iv6 iv7 iv8 iv9 hm36 hm
    exact absurd hm (Nat.not_lt_zero _)
  | succ mm ih =>
    intro f w v2 v3 v4 v5 v6 v7 v8 v9 hX iv2 iv3 iv4 iv5 iv6 iv7 iv8 iv9 hm36 hm
    rw [ms_span_56]
    refine gm_bdP (mt_geese hX.1) (fun r_32 h_2969340 => ?_)
    refine gm_if (fun c_2969341 => ?_) (fun c_2969341 => ?_)
    · refine gm_if (fun c_2969342 => ?_) (fun c_2969342 => ?_)
      · have j_2969343 : gb_iv (-2147483648) 8 v7 := (gb_rU (lo := (-2147483648)) (hi := 8) (gb_deq c_2969342) (gb_it _) iv3 (by decide))
        have j_2969344 : gb_iv 0 8 v7 := (gb_rL (lo := 0) (hi := 8) (gb_deq2 c_2969342) j_2969343 iv3 (by decide))
        refine gm_if (fun c_2969345 => ?_) (fun c_2969345 => ?_)
        · have j_2969346 : gb_iv (-2147483648) (-1) v5 := (gb_rU (lo := (-2147483648)) (hi := (-1)) (gb_dlt c_2969345) (gb_it _) (gb_ic (a := 0) (by decide)) (by decide))
          refine gm_lti (lo := 1) (hi := 256) (gb_iadd (lo := 1) (hi := 256) iv6 (gb_ic (a := 1) (by decide)) (by decide)) (fun x_39 ex_39 ix_39 => ?_)
          exact hk36 _ _ _ _ _ _ _ hX iv2 iv3 (gb_it _) (gb_it _) (gb_iw (lo := 0) (hi := 256) ix_39 (by decide)) (gb_mup ex_39 iv6 (by decide) hm36)
        · have j_2969347 : gb_iv 0 2147483647 v5 := (gb_rL (lo := 0) (hi := 2147483647) (gb_dnlt c_2969345) (gb_it _) (gb_ic (a := 0) (by decide)) (by decide))
          refine gm_if (fun c_2969348 => ?_) (fun c_2969348 => ?_)
          · have j_2969349 : gb_iv (-2147483648) 0 v4 := (gb_rU (lo := (-2147483648)) (hi := 0) (gb_deq c_2969348) (gb_it _) (gb_ic (a := 0) (by decide)) (by decide))
            have j_2969350 : gb_iv 0 0 v4 := (gb_rL (lo := 0) (hi := 0) (gb_deq2 c_2969348) j_2969349 (gb_ic (a := 0) (by decide)) (by decide))
            refine gm_if (fun c_2969351 => ?_) (fun c_2969351 => ?_)
            · have j_2969352 : gb_iv 0 2147483647 v8 := (gb_rL (lo := 0) (hi := 2147483647) (gb_dle c_2969351) (gb_it _) j_2969347 (by decide))
              refine gm_lti (lo := 1) (hi := 256) (gb_iadd (lo := 1) (hi := 256) iv6 (gb_ic (a := 1) (by decide)) (by decide)) (fun x_42 ex_42 ix_42 => ?_)
              exact hk36 _ _ _ _ _ _ _ hX iv2 iv3 (gb_iw (lo := (-2147483648)) (hi := 2147483647) j_2969350 (by decide)) (gb_iw (lo := (-2147483648)) (hi := 2147483647) j_2969347 (by decide)) (gb_iw (lo := 0) (hi := 256) ix_42 (by decide)) (gb_mup ex_42 iv6 (by decide) hm36)
            · have j_2969353 : gb_iv (-2147483648) 2147483646 v8 := (gb_rU (lo := (-2147483648)) (hi := 2147483646) (gb_dnle c_2969351) (gb_it _) j_2969347 (by decide))
              refine gm_lti (lo := 1) (hi := 256) (gb_iadd (lo := 1) (hi := 256) iv6 (gb_ic (a := 1) (by decide)) (by decide)) (fun x_43 ex_43 ix_43 => ?_)
              exact hk36 _ _ _ _ _ _ _ hX iv2 iv3 (gb_iw (lo := (-2147483648)) (hi := 2147483647) j_2969350 (by decide)) (gb_iw (lo := (-2147483648)) (hi := 2147483647) j_2969353 (by decide)) (gb_iw (lo := 0) (hi := 256) ix_43 (by decide)) (gb_mup ex_43 iv6 (by decide) hm36)
          · refine gm_if (fun c_2969354 => ?_) (fun c_2969354 => ?_)
            · refine gm_lti (lo := 1) (hi := 256) (gb_iadd (lo := 1) (hi := 256) iv6 (gb_ic (a := 1) (by decide)) (by decide)) (fun x_45 ex_45 ix_45 => ?_)
              exact hk36 _ _ _ _ _ _ _ hX iv2 iv3 (gb_it _) (gb_iw (lo := (-2147483648)) (hi := 2147483647) j_2969347 (by decide)) (gb_iw (lo := 0) (hi := 256) ix_45 (by decide)) (gb_mup ex_45 iv6 (by decide) hm36)
            · have j_2969355 : gb_iv 0 2147483646 v5 := (gb_rU (lo := 0) (hi := 2147483646) (gb_dnle c_2969354) j_2969347 (gb_it _) (by decide))
              have j_2969356 : gb_iv 1 2147483647 v8 := (gb_rL (lo := 1) (hi := 2147483647) (gb_dnle c_2969354) (gb_it _) j_2969355 (by decide))
              refine gm_lti (lo := 1) (hi := 256) (gb_iadd (lo := 1) (hi := 256) iv6 (gb_ic (a := 1) (by decide)) (by decide)) (fun x_46 ex_46 ix_46 => ?_)
              exact hk36 _ _ _ _ _ _ _ hX iv2 iv3 (gb_it _) (gb_iw (lo := (-2147483648)) (hi := 2147483647) j_2969356 (by decide)) (gb_iw (lo := 0) (hi := 256) ix_46 (by decide)) (gb_mup ex_46 iv6 (by decide) hm36)
      · refine gm_lti (lo := 1) (hi := 256) (gb_iadd (lo := 1) (hi := 256) iv6 (gb_ic (a := 1) (by decide)) (by decide)) (fun x_37 ex_37 ix_37 => ?_)
        exact hk36 _ _ _ _ _ _ _ hX iv2 iv3 (gb_it _) (gb_it _) (gb_iw (lo := 0) (hi := 256) ix_37 (by decide)) (gb_mup ex_37 iv6 (by decide) hm36)
    · have j_2969357 : gb_iv 0 7 v9 := (gb_rU (lo := 0) (hi := 7) (gb_dnle c_2969341) iv9 h_2969340 (by decide))
      have j_2969358 : gb_iv 1 8 r_32 := (gb_rL (lo := 1) (hi := 8) (gb_dnle c_2969341) h_2969340 j_2969357 (by decide))
      refine gm_lti (lo := (-2147483648)) (hi := 2147483647) (gb_it _) (fun x_47 ex_47 ix_47 => ?_)
      refine gm_if (fun c_2969359 => ?_) (fun c_2969359 => ?_)
      · have j_2969360 : gb_iv 1 1 ((v6 >>> (v9 &&& 31)) &&& 1) := (gb_rL (lo := 1) (hi := 1) (gb_deq2 c_2969359) (gb_iandr (lo := 0) (hi := 1) (gb_iw (lo := 0) (hi := 1) (gb_ic (a := 1) (by decide)) (by decide)) (by decide)) (gb_ic (a := 1) (by decide)) (by decide))
        refine gm_bdP (mt_firstMarks hn hX.1 j_2969357 (gb_iw (lo := 0) (hi := 100) iv2 (by decide))) (fun r_53 h_2969361 => ?_)
        refine gm_lti (lo := (-2147483648)) (hi := 2147483647) (gb_it _) (fun x_56 ex_56 ix_56 => ?_)
        refine gm_lti (lo := 1) (hi := 8) (gb_iadd (lo := 1) (hi := 8) j_2969357 (gb_ic (a := 1) (by decide)) (by decide)) (fun x_57 ex_57 ix_57 => ?_)
        exact ih _ _ _ _ _ _ _ _ _ _ hX iv2 iv3 (gb_it _) (gb_it _) iv6 (gb_it _) (gb_it _) (gb_iw (lo := 0) (hi := 8) ix_57 (by decide)) hm36 (gb_mup ex_57 j_2969357 (by decide) hm)
      · have j_2969362 : gb_iv 0 0 ((v6 >>> (v9 &&& 31)) &&& 1) := (gb_rN (lo := 0) (hi := 0) (v := 1) c_2969359 (gb_iandr (lo := 0) (hi := 1) (gb_iw (lo := 0) (hi := 1) (gb_ic (a := 1) (by decide)) (by decide)) (by decide)) (by decide) (by decide))
        refine gm_lti (lo := (-2147483648)) (hi := 2147483647) (gb_iadd (lo := (-2147483648)) (hi := 2147483647) (gb_it _) (gb_ic (a := 0) (by decide)) (by decide)) (fun x_49 ex_49 ix_49 => ?_)
        refine gm_lti (lo := 1) (hi := 8) (gb_iadd (lo := 1) (hi := 8) j_2969357 (gb_ic (a := 1) (by decide)) (by decide)) (fun x_50 ex_50 ix_50 => ?_)
        exact ih _ _ _ _ _ _ _ _ _ _ hX iv2 iv3 (gb_it _) (gb_it _) iv6 (gb_it _) (gb_it _) (gb_iw (lo := 0) (hi := 8) ix_50 (by decide)) hm36 (gb_mup ex_50 j_2969357 (by decide) hm)
set_option maxHeartbeats 4000000 in
theorem mt_span_36 {n : Nat} (hn : gb_N ≤ n) {Q : gb_F → Int64 → Int32 → Prop} {f0 : gb_F} (hret : ∀ (f : gb_F) (w : Int64) (r : Int32), gb_XK f0 f → gb_iv (-2147483648) 2147483647 r → Q f w r) : ∀ (mm : Nat) (f : gb_F) (w : Int64) (v2 : Int32) (v3 : Int32) (v4 : Int32) (v5 : Int32) (v6 : Int32), gb_XK f0 f → gb_iv 0 4 v2 → gb_iv 0 8 v3 → gb_iv (-2147483648) 2147483647 v4 → gb_iv (-2147483648) 2147483647 v5 → gb_iv 0 256 v6 → (256 - v6.toInt).toNat < mm → gb_tm (ms_span_36 n mm f w v2 v3 v4 v5 v6) Q := by
  intro mm
  induction mm with
  | zero =>
    intro f w v2 v3 v4 v5 v6 hX iv2 iv3 iv4 iv5 iv6 hm
    exact absurd hm (Nat.not_lt_zero _)
  | succ mm ih =>
    intro f w v2 v3 v4 v5 v6 hX iv2 iv3 iv4 iv5 iv6 hm
    rw [ms_span_36]
    refine gm_bdP (mt_geese hX.1) (fun r_26 h_2968539 => ?_)
    refine gm_if (fun c_2968540 => ?_) (fun c_2968540 => ?_)
    · have j_2968541 : gb_iv 1 256 v6 := (gb_rL (lo := 1) (hi := 256) (gb_dle c_2968540) iv6 (gb_ishl (lo := 1) (hi := 256) h_2968539 (by decide)) (by decide))
      exact gm_some (hret _ _ _ hX (gb_it _))
    · have j_2968542 : gb_iv 0 255 v6 := (gb_rU (lo := 0) (hi := 255) (gb_dnle c_2968540) iv6 (gb_ishl (lo := 1) (hi := 256) h_2968539 (by decide)) (by decide))
      exact mt_span_56 hn ih hret n _ _ _ _ _ _ _ _ _ _ hX iv2 iv3 (gb_it _) (gb_it _) j_2968542 (gb_iw (lo := (-2147483648)) (hi := 2147483647) (gb_ic (a := 0) (by decide)) (by decide)) (gb_iw (lo := (-2147483648)) (hi := 2147483647) (gb_ic (a := 0) (by decide)) (by decide)) (gb_iw (lo := 0) (hi := 8) (gb_ic (a := 0) (by decide)) (by decide)) hm (gb_fuu hn (gb_iw (lo := 0) (hi := 8) (gb_ic (a := 0) (by decide)) (by decide)) (by decide))
set_option maxHeartbeats 4000000 in
theorem mt_span {n : Nat} (hn : gb_N ≤ n) {f : gb_F} {w : Int64} {p1 : Int32} {p2 : Int32} {p3 : Int32} {p4 : Int32} (hT : gb_TM f) : gb_tm (ms_span n f w p1 p2 p3 p4) (fun f2 _ r => gb_TM f2 ∧ gb_iv (-2147483648) 2147483647 r) := by
  have hX := gb_XKr hT
  unfold ms_span
  refine gm_bdT (mt_isBorder hX.1) (fun f_1 wl_2 r_3 hXf_1 h_2944089 => ?_)
  refine gm_if (fun c_2944090 => ?_) (fun c_2944090 => ?_)
  · have j_2944091 : gb_iv 0 0 r_3 := (gb_rU (lo := 0) (hi := 0) (gb_deq c_2944090) h_2944089.1 (gb_ic (a := 0) (by decide)) (by decide))
    exact gm_some ⟨hXf_1.1, (gb_iw (lo := (-2147483648)) (hi := 2147483647) (gb_ic (a := (-1)) (by decide)) (by decide))⟩
  · have j_2944092 : gb_iv 1 1 r_3 := (gb_rN (lo := 1) (hi := 1) (v := 0) c_2944090 h_2944089.1 (by decide) (by decide))
    refine gm_bdP (mt_isPath hXf_1.1) (fun r_9 h_2944093 => ?_)
    refine gm_if (fun c_2944094 => ?_) (fun c_2944094 => ?_)
    · have j_2944095 : gb_iv 0 0 r_9 := (gb_rU (lo := 0) (hi := 0) (gb_deq c_2944094) h_2944093.1 (gb_ic (a := 0) (by decide)) (by decide))
      exact gm_some ⟨hXf_1.1, (gb_iw (lo := (-2147483648)) (hi := 2147483647) (gb_ic (a := (-1)) (by decide)) (by decide))⟩
    · have j_2944096 : gb_iv 1 1 r_9 := (gb_rN (lo := 1) (hi := 1) (v := 0) c_2944094 h_2944093.1 (by decide) (by decide))
      have j_2944097 : gb_iv 0 4 p2 := (h_2944093.2 c_2944094)
      refine gm_bdP (mt_geese hXf_1.1) (fun r_15 h_2944098 => ?_)
      refine gm_bdP mt_isIn (fun r_20 h_2944099 => ?_)
      refine gm_if (fun c_2944100 => ?_) (fun c_2944100 => ?_)
      · have j_2944101 : gb_iv 0 0 r_20 := (gb_rU (lo := 0) (hi := 0) (gb_deq c_2944100) h_2944099.1 (gb_ic (a := 0) (by decide)) (by decide))
        exact gm_some ⟨hXf_1.1, (gb_iw (lo := (-2147483648)) (hi := 2147483647) (gb_ic (a := (-1)) (by decide)) (by decide))⟩
      · have j_2944102 : gb_iv 1 1 r_20 := (gb_rN (lo := 1) (hi := 1) (v := 0) c_2944100 h_2944099.1 (by decide) (by decide))
        have j_2944103 : gb_iv 0 8 p3 := ((fun q_ => gb_iin (a := 0) (b := 0) (h_2944099.2 q_) (gb_ic (a := 0) (by decide)).1 h_2944098.2) c_2944100)
        exact mt_span_36 hn (fun _ _ _ hX h => ⟨hX.1, h⟩) n _ _ _ _ _ _ _ hXf_1 j_2944097 j_2944103 (gb_it _) (gb_iw (lo := (-2147483648)) (hi := 2147483647) (gb_ic (a := (-1)) (by decide)) (by decide)) (gb_iw (lo := 0) (hi := 256) (gb_ic (a := 0) (by decide)) (by decide)) (gb_fuu hn (gb_iw (lo := 0) (hi := 256) (gb_ic (a := 0) (by decide)) (by decide)) (by decide))
set_option maxHeartbeats 4000000 in
theorem mt_split_57 {n : Nat} (hn : gb_N ≤ n) {Q : gb_F → Int64 → Int32 → Prop} {f0 : gb_F} {k40 : gb_F → Int64 → Int32 → Int32 → Int32 → Int32 → Int32 → Int32 → gb_MR Int32} {M40 : Nat} (hk40 : ∀ (f : gb_F) (w : Int64) (v2 : Int32) (v3 : Int32) (v4 : Int32) (v5 : Int32) (v6 : Int32) (v7 : Int32), gb_XK f0 f → gb_iv 0 4 v2 → gb_iv 0 4 v3 → gb_iv (-2147483648) 2147483647 v4 → gb_iv (-1) 255 v5 → gb_iv (-2147483648) 2147483647 v6 → gb_iv 0 256 v7 → (256 - v7.toInt).toNat < M40 → gb_tm (k40 f w v2 v3 v4 v5 v6 v7) Q) (hret : ∀ (f : gb_F) (w : Int64) (r : Int32), gb_XK f0 f → gb_iv (-2147483648) 2147483647 r → Q f w r) : ∀ (mm : Nat) (f : gb_F) (w : Int64) (v2 : Int32) (v3 : Int32) (v4 : Int32) (v5 : Int32) (v6 : Int32) (v7 : Int32) (v8 : Int32) (v9 : Int32), gb_XK f0 f → gb_iv 0 4 v2 → gb_iv 0 4 v3 → gb_iv (-2147483648) 2147483647 v4 → gb_iv (-1) 255 v5 → gb_iv (-2147483648) 2147483647 v6 → gb_iv 0 255 v7 → gb_iv (-2147483648) 2147483647 v8 → gb_iv 0 8 v9 → (256 - v7.toInt).toNat < M40 + 1 → (8 - v9.toInt).toNat < mm → gb_tm (ms_split_57 n k40 mm f w v2 v3 v4 v5 v6 v7 v8 v9) Q := by
  intro mm
  induction mm with
  | zero =>
    intro f w v2 v3 v4 v5 v6 v7 v8 v9 hX iv2 iv3 iv4 iv5 iv6 iv7 iv8 iv9 hm40 hm
    exact absurd hm (Nat.not_lt_zero _)
  | succ mm ih =>
    intro f w v2 v3 v4 v5 v6 v7 v8 v9 hX iv2 iv3 iv4 iv5 iv6 iv7 iv8 iv9 hm40 hm
    rw [ms_split_57]
    refine gm_bdP (mt_geese hX.1) (fun r_29 h_2991710 => ?_)
    refine gm_if (fun c_2991711 => ?_) (fun c_2991711 => ?_)
    · refine gm_if (fun c_2991712 => ?_) (fun c_2991712 => ?_)
      · have j_2991713 : gb_iv 0 2147483647 v8 := (gb_rL (lo := 0) (hi := 2147483647) (gb_dle c_2991712) (gb_it _) (gb_ic (a := 0) (by decide)) (by decide))
        refine gm_if (fun c_2991714 => ?_) (fun c_2991714 => ?_)
        · have j_2991715 : gb_iv (-1) (-1) v5 := (gb_rU (lo := (-1)) (hi := (-1)) (gb_dlt c_2991714) iv5 (gb_ic (a := 0) (by decide)) (by decide))
          refine gm_lti (lo := 1) (hi := 256) (gb_iadd (lo := 1) (hi := 256) iv7 (gb_ic (a := 1) (by decide)) (by decide)) (fun x_35 ex_35 ix_35 => ?_)
          exact hk40 _ _ _ _ _ _ _ _ hX iv2 iv3 (gb_it _) (gb_iw (lo := (-1)) (hi := 255) iv7 (by decide)) (gb_iw (lo := (-2147483648)) (hi := 2147483647) j_2991713 (by decide)) (gb_iw (lo := 0) (hi := 256) ix_35 (by decide)) (gb_mup ex_35 iv7 (by decide) hm40)
        · have j_2991716 : gb_iv 0 255 v5 := (gb_rL (lo := 0) (hi := 255) (gb_dnlt c_2991714) iv5 (gb_ic (a := 0) (by decide)) (by decide))
          refine gm_if (fun c_2991717 => ?_) (fun c_2991717 => ?_)
          · have j_2991718 : gb_iv 0 2147483646 v8 := (gb_rU (lo := 0) (hi := 2147483646) (gb_dlt c_2991717) j_2991713 (gb_it _) (by decide))
            have j_2991719 : gb_iv 1 2147483647 v6 := (gb_rL (lo := 1) (hi := 2147483647) (gb_dlt c_2991717) (gb_it _) j_2991718 (by decide))
            refine gm_lti (lo := 1) (hi := 256) (gb_iadd (lo := 1) (hi := 256) iv7 (gb_ic (a := 1) (by decide)) (by decide)) (fun x_37 ex_37 ix_37 => ?_)
            exact hk40 _ _ _ _ _ _ _ _ hX iv2 iv3 (gb_it _) (gb_iw (lo := (-1)) (hi := 255) iv7 (by decide)) (gb_iw (lo := (-2147483648)) (hi := 2147483647) j_2991718 (by decide)) (gb_iw (lo := 0) (hi := 256) ix_37 (by decide)) (gb_mup ex_37 iv7 (by decide) hm40)
          · refine gm_lti (lo := 1) (hi := 256) (gb_iadd (lo := 1) (hi := 256) iv7 (gb_ic (a := 1) (by decide)) (by decide)) (fun x_38 ex_38 ix_38 => ?_)
            exact hk40 _ _ _ _ _ _ _ _ hX iv2 iv3 (gb_it _) (gb_iw (lo := (-1)) (hi := 255) j_2991716 (by decide)) (gb_it _) (gb_iw (lo := 0) (hi := 256) ix_38 (by decide)) (gb_mup ex_38 iv7 (by decide) hm40)
      · have j_2991720 : gb_iv (-2147483648) (-1) v8 := (gb_rU (lo := (-2147483648)) (hi := (-1)) (gb_dnle c_2991712) (gb_it _) (gb_ic (a := 0) (by decide)) (by decide))
        refine gm_lti (lo := (-2147483648)) (hi := 2147483647) (gb_it _) (fun x_39 ex_39 ix_39 => ?_)
        refine gm_if (fun c_2991721 => ?_) (fun c_2991721 => ?_)
        · have j_2991722 : gb_iv (-1) (-1) v5 := (gb_rU (lo := (-1)) (hi := (-1)) (gb_dlt c_2991721) iv5 (gb_ic (a := 0) (by decide)) (by decide))
          refine gm_lti (lo := 1) (hi := 256) (gb_iadd (lo := 1) (hi := 256) iv7 (gb_ic (a := 1) (by decide)) (by decide)) (fun x_41 ex_41 ix_41 => ?_)
          exact hk40 _ _ _ _ _ _ _ _ hX iv2 iv3 (gb_it _) (gb_iw (lo := (-1)) (hi := 255) iv7 (by decide)) (gb_it _) (gb_iw (lo := 0) (hi := 256) ix_41 (by decide)) (gb_mup ex_41 iv7 (by decide) hm40)
        · have j_2991723 : gb_iv 0 255 v5 := (gb_rL (lo := 0) (hi := 255) (gb_dnlt c_2991721) iv5 (gb_ic (a := 0) (by decide)) (by decide))
          refine gm_if (fun c_2991724 => ?_) (fun c_2991724 => ?_)
          · have j_2991725 : gb_iv (-2147483648) 2147483646 x_39 := (gb_rU (lo := (-2147483648)) (hi := 2147483646) (gb_dlt c_2991724) (gb_it _) (gb_it _) (by decide))
            have j_2991726 : gb_iv (-2147483647) 2147483647 v6 := (gb_rL (lo := (-2147483647)) (hi := 2147483647) (gb_dlt c_2991724) (gb_it _) j_2991725 (by decide))
            refine gm_lti (lo := 1) (hi := 256) (gb_iadd (lo := 1) (hi := 256) iv7 (gb_ic (a := 1) (by decide)) (by decide)) (fun x_43 ex_43 ix_43 => ?_)
            exact hk40 _ _ _ _ _ _ _ _ hX iv2 iv3 (gb_it _) (gb_iw (lo := (-1)) (hi := 255) iv7 (by decide)) (gb_iw (lo := (-2147483648)) (hi := 2147483647) j_2991725 (by decide)) (gb_iw (lo := 0) (hi := 256) ix_43 (by decide)) (gb_mup ex_43 iv7 (by decide) hm40)
          · refine gm_lti (lo := 1) (hi := 256) (gb_iadd (lo := 1) (hi := 256) iv7 (gb_ic (a := 1) (by decide)) (by decide)) (fun x_44 ex_44 ix_44 => ?_)
            exact hk40 _ _ _ _ _ _ _ _ hX iv2 iv3 (gb_it _) (gb_iw (lo := (-1)) (hi := 255) j_2991723 (by decide)) (gb_it _) (gb_iw (lo := 0) (hi := 256) ix_44 (by decide)) (gb_mup ex_44 iv7 (by decide) hm40)
    · have j_2991727 : gb_iv 0 7 v9 := (gb_rU (lo := 0) (hi := 7) (gb_dnle c_2991711) iv9 h_2991710 (by decide))
      have j_2991728 : gb_iv 1 8 r_29 := (gb_rL (lo := 1) (hi := 8) (gb_dnle c_2991711) h_2991710 j_2991727 (by decide))
      refine gm_if (fun c_2991729 => ?_) (fun c_2991729 => ?_)
      · have j_2991730 : gb_iv 1 1 ((v7 >>> (v9 &&& 31)) &&& 1) := (gb_rL (lo := 1) (hi := 1) (gb_deq2 c_2991729) (gb_iandr (lo := 0) (hi := 1) (gb_iw (lo := 0) (hi := 1) (gb_ic (a := 1) (by decide)) (by decide)) (by decide)) (gb_ic (a := 1) (by decide)) (by decide))
        refine gm_bdP (mt_firstMarks hn hX.1 j_2991727 (gb_iw (lo := 0) (hi := 100) iv2 (by decide))) (fun r_55 h_2991731 => ?_)
        refine gm_lti (lo := (-2147483648)) (hi := 2147483647) (gb_it _) (fun x_58 ex_58 ix_58 => ?_)
        refine gm_lti (lo := 1) (hi := 8) (gb_iadd (lo := 1) (hi := 8) j_2991727 (gb_ic (a := 1) (by decide)) (by decide)) (fun x_59 ex_59 ix_59 => ?_)
        exact ih _ _ _ _ _ _ _ _ _ _ hX iv2 iv3 (gb_it _) iv5 (gb_it _) iv7 (gb_it _) (gb_iw (lo := 0) (hi := 8) ix_59 (by decide)) hm40 (gb_mup ex_59 j_2991727 (by decide) hm)
      · have j_2991732 : gb_iv 0 0 ((v7 >>> (v9 &&& 31)) &&& 1) := (gb_rN (lo := 0) (hi := 0) (v := 1) c_2991729 (gb_iandr (lo := 0) (hi := 1) (gb_iw (lo := 0) (hi := 1) (gb_ic (a := 1) (by decide)) (by decide)) (by decide)) (by decide) (by decide))
        refine gm_bdP (mt_firstMarks hn hX.1 j_2991727 (gb_iw (lo := 0) (hi := 100) iv3 (by decide))) (fun r_48 h_2991733 => ?_)
        refine gm_lti (lo := (-2147483648)) (hi := 2147483647) (gb_it _) (fun x_51 ex_51 ix_51 => ?_)
        refine gm_lti (lo := 1) (hi := 8) (gb_iadd (lo := 1) (hi := 8) j_2991727 (gb_ic (a := 1) (by decide)) (by decide)) (fun x_52 ex_52 ix_52 => ?_)
        exact ih _ _ _ _ _ _ _ _ _ _ hX iv2 iv3 (gb_it _) iv5 (gb_it _) iv7 (gb_it _) (gb_iw (lo := 0) (hi := 8) ix_52 (by decide)) hm40 (gb_mup ex_52 j_2991727 (by decide) hm)
set_option maxHeartbeats 4000000 in
theorem mt_split_40 {n : Nat} (hn : gb_N ≤ n) {Q : gb_F → Int64 → Int32 → Prop} {f0 : gb_F} (hret : ∀ (f : gb_F) (w : Int64) (r : Int32), gb_XK f0 f → gb_iv (-2147483648) 2147483647 r → Q f w r) : ∀ (mm : Nat) (f : gb_F) (w : Int64) (v2 : Int32) (v3 : Int32) (v4 : Int32) (v5 : Int32) (v6 : Int32) (v7 : Int32), gb_XK f0 f → gb_iv 0 4 v2 → gb_iv 0 4 v3 → gb_iv (-2147483648) 2147483647 v4 → gb_iv (-1) 255 v5 → gb_iv (-2147483648) 2147483647 v6 → gb_iv 0 256 v7 → (256 - v7.toInt).toNat < mm → gb_tm (ms_split_40 n mm f w v2 v3 v4 v5 v6 v7) Q := by
  intro mm
  induction mm with
  | zero =>
    intro f w v2 v3 v4 v5 v6 v7 hX iv2 iv3 iv4 iv5 iv6 iv7 hm
    exact absurd hm (Nat.not_lt_zero _)
  | succ mm ih =>
    intro f w v2 v3 v4 v5 v6 v7 hX iv2 iv3 iv4 iv5 iv6 iv7 hm
    rw [ms_split_40]
    refine gm_bdP (mt_geese hX.1) (fun r_22 h_2991351 => ?_)
    refine gm_if (fun c_2991352 => ?_) (fun c_2991352 => ?_)
    · have j_2991353 : gb_iv 1 256 v7 := (gb_rL (lo := 1) (hi := 256) (gb_dle c_2991352) iv7 (gb_ishl (lo := 1) (hi := 256) h_2991351 (by decide)) (by decide))
      refine gm_if (fun c_2991354 => ?_) (fun c_2991354 => ?_)
      · have j_2991355 : gb_iv (-2147483648) 0 v4 := (gb_rU (lo := (-2147483648)) (hi := 0) (gb_deq c_2991354) (gb_it _) (gb_ic (a := 0) (by decide)) (by decide))
        have j_2991356 : gb_iv 0 0 v4 := (gb_rL (lo := 0) (hi := 0) (gb_deq2 c_2991354) j_2991355 (gb_ic (a := 0) (by decide)) (by decide))
        exact gm_some (hret _ _ _ hX (gb_iw (lo := (-2147483648)) (hi := 2147483647) iv5 (by decide)))
      · exact gm_some (hret _ _ _ hX (gb_it _))
    · have j_2991357 : gb_iv 0 255 v7 := (gb_rU (lo := 0) (hi := 255) (gb_dnle c_2991352) iv7 (gb_ishl (lo := 1) (hi := 256) h_2991351 (by decide)) (by decide))
      exact mt_split_57 hn ih hret n _ _ _ _ _ _ _ _ _ _ hX iv2 iv3 (gb_it _) iv5 (gb_it _) j_2991357 (gb_iw (lo := (-2147483648)) (hi := 2147483647) (gb_ic (a := 0) (by decide)) (by decide)) (gb_iw (lo := 0) (hi := 8) (gb_ic (a := 0) (by decide)) (by decide)) hm (gb_fuu hn (gb_iw (lo := 0) (hi := 8) (gb_ic (a := 0) (by decide)) (by decide)) (by decide))
set_option maxHeartbeats 4000000 in
theorem mt_split {n : Nat} (hn : gb_N ≤ n) {f : gb_F} {w : Int64} {p1 : Int32} {p2 : Int32} {p3 : Int32} {p4 : Int32} (hT : gb_TM f) : gb_tm (ms_split n f w p1 p2 p3 p4) (fun f2 _ r => gb_TM f2 ∧ gb_iv (-2147483648) 2147483647 r) := by
  have hX := gb_XKr hT
  unfold ms_split
  refine gm_bdT (mt_isBorder hX.1) (fun f_1 wl_2 r_3 hXf_1 h_2980357 => ?_)
  refine gm_if (fun c_2980358 => ?_) (fun c_2980358 => ?_)
  · have j_2980359 : gb_iv 0 0 r_3 := (gb_rU (lo := 0) (hi := 0) (gb_deq c_2980358) h_2980357.1 (gb_ic (a := 0) (by decide)) (by decide))
    exact gm_some ⟨hXf_1.1, (gb_iw (lo := (-2147483648)) (hi := 2147483647) (gb_ic (a := (-1)) (by decide)) (by decide))⟩
  · have j_2980360 : gb_iv 1 1 r_3 := (gb_rN (lo := 1) (hi := 1) (v := 0) c_2980358 h_2980357.1 (by decide) (by decide))
    refine gm_bdP (mt_isPath hXf_1.1) (fun r_9 h_2980361 => ?_)
    refine gm_if (fun c_2980362 => ?_) (fun c_2980362 => ?_)
    · have j_2980363 : gb_iv 0 0 r_9 := (gb_rU (lo := 0) (hi := 0) (gb_deq c_2980362) h_2980361.1 (gb_ic (a := 0) (by decide)) (by decide))
      exact gm_some ⟨hXf_1.1, (gb_iw (lo := (-2147483648)) (hi := 2147483647) (gb_ic (a := (-1)) (by decide)) (by decide))⟩
    · have j_2980364 : gb_iv 1 1 r_9 := (gb_rN (lo := 1) (hi := 1) (v := 0) c_2980362 h_2980361.1 (by decide) (by decide))
      have j_2980365 : gb_iv 0 4 p2 := (h_2980361.2 c_2980362)
      refine gm_bdP (mt_isPath hXf_1.1) (fun r_15 h_2980366 => ?_)
      refine gm_if (fun c_2980367 => ?_) (fun c_2980367 => ?_)
      · have j_2980368 : gb_iv 0 0 r_15 := (gb_rU (lo := 0) (hi := 0) (gb_deq c_2980367) h_2980366.1 (gb_ic (a := 0) (by decide)) (by decide))
        exact gm_some ⟨hXf_1.1, (gb_iw (lo := (-2147483648)) (hi := 2147483647) (gb_ic (a := (-1)) (by decide)) (by decide))⟩
      · have j_2980369 : gb_iv 1 1 r_15 := (gb_rN (lo := 1) (hi := 1) (v := 0) c_2980367 h_2980366.1 (by decide) (by decide))
        have j_2980370 : gb_iv 0 4 p3 := (h_2980366.2 c_2980367)
        refine gm_if (fun c_2980371 => ?_) (fun c_2980371 => ?_)
        · exact gm_some ⟨hXf_1.1, (gb_iw (lo := (-2147483648)) (hi := 2147483647) (gb_ic (a := (-1)) (by decide)) (by decide))⟩
        · exact mt_split_40 hn (fun _ _ _ hX h => ⟨hX.1, h⟩) n _ _ _ _ _ _ _ _ hXf_1 j_2980365 j_2980370 (gb_it _) (gb_iw (lo := (-1)) (hi := 255) (gb_ic (a := (-1)) (by decide)) (by decide)) (gb_iw (lo := (-2147483648)) (hi := 2147483647) (gb_ic (a := 0) (by decide)) (by decide)) (gb_iw (lo := 0) (hi := 256) (gb_ic (a := 0) (by decide)) (by decide)) (gb_fuu hn (gb_iw (lo := 0) (hi := 256) (gb_ic (a := 0) (by decide)) (by decide)) (by decide))
set_option maxHeartbeats 4000000 in
theorem mt_bits_4 {n : Nat} (hn : gb_N ≤ n) {Q : gb_F → Int64 → Int32 → Prop} {f : gb_F} {w : Int64} (hX : gb_XK f f) (hret : ∀ (r : Int32), gb_iv (-2147483648) 2147483647 r → Q f w r) : ∀ (mm : Nat) (v0 : Int32) (v1 : Int32) (v2 : Int32), gb_iv (-2147483648) 2147483647 v0 → gb_iv (-2147483648) 2147483647 v1 → gb_iv 0 31 v2 → (31 - v2.toInt).toNat < mm → gb_tm (ms_bits_4 n mm f w v0 v1 v2) Q := by
  intro mm
  induction mm with
  | zero =>
    intro v0 v1 v2 iv0 iv1 iv2 hm
    exact absurd hm (Nat.not_lt_zero _)
  | succ mm ih =>
    intro v0 v1 v2 iv0 iv1 iv2 hm
    rw [ms_bits_4]
    refine gm_if (fun c_2991890 => ?_) (fun c_2991890 => ?_)
    · have j_2991891 : gb_iv 31 31 v2 := (gb_rL (lo := 31) (hi := 31) (gb_dle c_2991890) iv2 (gb_ic (a := 31) (by decide)) (by decide))
      exact gm_some (hret _ (gb_it _))
    · have j_2991892 : gb_iv 0 30 v2 := (gb_rU (lo := 0) (hi := 30) (gb_dnle c_2991890) iv2 (gb_ic (a := 31) (by decide)) (by decide))
      refine gm_lti (lo := (-2147483648)) (hi := 2147483647) (gb_it _) (fun x_2 ex_2 ix_2 => ?_)
      refine gm_lti (lo := 1) (hi := 31) (gb_iadd (lo := 1) (hi := 31) j_2991892 (gb_ic (a := 1) (by decide)) (by decide)) (fun x_3 ex_3 ix_3 => ?_)
      exact ih _ _ _ (gb_it _) (gb_it _) (gb_iw (lo := 0) (hi := 31) ix_3 (by decide)) (gb_mup ex_3 j_2991892 (by decide) hm)
set_option maxHeartbeats 4000000 in
theorem mt_bits {n : Nat} (hn : gb_N ≤ n) {f : gb_F} {w : Int64} {p1 : Int32} (hT : gb_TM f) : gb_tm (ms_bits n f w p1) (fun f2 w2 r => f2 = f ∧ w2 = w ∧ gb_iv (-2147483648) 2147483647 r) := by
  have hX := gb_XKr hT
  unfold ms_bits
  exact mt_bits_4 hn hX (fun _ h => ⟨rfl, rfl, h⟩) n _ _ _ (gb_it _) (gb_iw (lo := (-2147483648)) (hi := 2147483647) (gb_ic (a := 0) (by decide)) (by decide)) (gb_iw (lo := 0) (hi := 31) (gb_ic (a := 0) (by decide)) (by decide)) (gb_fuu hn (gb_iw (lo := 0) (hi := 31) (gb_ic (a := 0) (by decide)) (by decide)) (by decide))
set_option maxHeartbeats 4000000 in
theorem mt_codes_4 {n : Nat} (hn : gb_N ≤ n) {Q : gb_F → Int64 → Int32 → Prop} {f : gb_F} {w : Int64} (hX : gb_XK f f) (hret : ∀ (r : Int32), gb_iv (-2147483648) 2147483647 r → Q f w r) : ∀ (mm : Nat) (v1 : Int32) (v2 : Int32), gb_iv (-2147483648) 2147483647 v1 → gb_iv 0 8 v2 → (8 - v2.toInt).toNat < mm → gb_tm (ms_codes_4 n mm f w v1 v2) Q := by
  intro mm
  induction mm with
  | zero =>
    intro v1 v2 iv1 iv2 hm
    exact absurd hm (Nat.not_lt_zero _)
  | succ mm ih =>
    intro v1 v2 iv1 iv2 hm
    rw [ms_codes_4]
    refine gm_bdP (mt_geese hX.1) (fun r_3 h_2992043 => ?_)
    refine gm_if (fun c_2992044 => ?_) (fun c_2992044 => ?_)
    · exact gm_some (hret _ (gb_it _))
    · have j_2992045 : gb_iv 0 7 v2 := (gb_rU (lo := 0) (hi := 7) (gb_dnle c_2992044) iv2 h_2992043 (by decide))
      have j_2992046 : gb_iv 1 8 r_3 := (gb_rL (lo := 1) (hi := 8) (gb_dnle c_2992044) h_2992043 j_2992045 (by decide))
      refine gm_bdP (mt_paths hX.1) (fun r_9 h_2992047 => ?_)
      refine gm_lti (lo := (-2147483648)) (hi := 2147483647) (gb_it _) (fun x_12 ex_12 ix_12 => ?_)
      refine gm_lti (lo := 1) (hi := 8) (gb_iadd (lo := 1) (hi := 8) j_2992045 (gb_ic (a := 1) (by decide)) (by decide)) (fun x_13 ex_13 ix_13 => ?_)
      exact ih _ _ (gb_it _) (gb_iw (lo := 0) (hi := 8) ix_13 (by decide)) (gb_mup ex_13 j_2992045 (by decide) hm)
set_option maxHeartbeats 4000000 in
theorem mt_codes {n : Nat} (hn : gb_N ≤ n) {f : gb_F} {w : Int64} (hT : gb_TM f) : gb_tm (ms_codes n f w) (fun f2 w2 r => f2 = f ∧ w2 = w ∧ gb_iv (-2147483648) 2147483647 r) := by
  have hX := gb_XKr hT
  unfold ms_codes
  exact mt_codes_4 hn hX (fun _ h => ⟨rfl, rfl, h⟩) n _ _ (gb_iw (lo := (-2147483648)) (hi := 2147483647) (gb_ic (a := 1) (by decide)) (by decide)) (gb_iw (lo := 0) (hi := 8) (gb_ic (a := 0) (by decide)) (by decide)) (gb_fuu hn (gb_iw (lo := 0) (hi := 8) (gb_ic (a := 0) (by decide)) (by decide)) (by decide))
set_option maxHeartbeats 4000000 in
theorem mt_backs_52 {n : Nat} (hn : gb_N ≤ n) {Q : gb_F → Int64 → Int32 → Prop} {f0 : gb_F} {k35 : gb_F → Int64 → Int32 → Int32 → Int32 → Int32 → Int32 → gb_MR Int32} {M35 : Nat} (hk35 : ∀ (f : gb_F) (w : Int64) (v2 : Int32) (v3 : Int32) (v4 : Int32) (v5 : Int32) (v6 : Int32), gb_XK f0 f → gb_iv 0 4 v2 → gb_iv 0 9999 v3 → gb_iv (-2147483648) 2147483647 v4 → gb_iv (-1) 255 v5 → gb_iv 0 256 v6 → (256 - v6.toInt).toNat < M35 → gb_tm (k35 f w v2 v3 v4 v5 v6) Q) (hret : ∀ (f : gb_F) (w : Int64) (r : Int32), gb_XK f0 f → gb_iv (-2147483648) 2147483647 r → Q f w r) : ∀ (mm : Nat) (f : gb_F) (w : Int64) (v2 : Int32) (v3 : Int32) (v4 : Int32) (v5 : Int32) (v6 : Int32) (v7 : Int32) (v8 : Int32), gb_XK f0 f → gb_iv 0 4 v2 → gb_iv 0 9999 v3 → gb_iv (-2147483648) 2147483647 v4 → gb_iv (-1) 255 v5 → gb_iv 0 255 v6 → gb_iv (-2147483648) 2147483647 v7 → gb_iv 0 8 v8 → (256 - v6.toInt).toNat < M35 + 1 → (8 - v8.toInt).toNat < mm → gb_tm (ms_backs_52 n k35 mm f w v2 v3 v4 v5 v6 v7 v8) Q := by
  intro mm
  induction mm with
  | zero =>
    intro f w v2 v3 v4 v5 v6 v7 v8 hX iv2 iv3 iv4 iv5 iv6 iv7 iv8 hm35 hm
    exact absurd hm (Nat.not_lt_zero _)
  | succ mm ih =>
    intro f w v2 v3 v4 v5 v6 v7 v8 hX iv2 iv3 iv4 iv5 iv6 iv7 iv8 hm35 hm
    rw [ms_backs_52]
    refine gm_bdP (mt_geese hX.1) (fun r_33 h_3011132 => ?_)
    refine gm_if (fun c_3011133 => ?_) (fun c_3011133 => ?_)
    · refine gm_if (fun c_3011134 => ?_) (fun c_3011134 => ?_)
      · have j_3011135 : gb_iv 1 2147483647 v7 := (gb_rL (lo := 1) (hi := 2147483647) (gb_dlt c_3011134) (gb_it _) iv3 (by decide))
        refine gm_lti (lo := 1) (hi := 256) (gb_iadd (lo := 1) (hi := 256) iv6 (gb_ic (a := 1) (by decide)) (by decide)) (fun x_38 ex_38 ix_38 => ?_)
        exact hk35 _ _ _ _ _ _ _ hX iv2 iv3 (gb_it _) iv5 (gb_iw (lo := 0) (hi := 256) ix_38 (by decide)) (gb_mup ex_38 iv6 (by decide) hm35)
      · have j_3011136 : gb_iv (-2147483648) 9999 v7 := (gb_rU (lo := (-2147483648)) (hi := 9999) (gb_dnlt c_3011134) (gb_it _) iv3 (by decide))
        refine gm_if (fun c_3011137 => ?_) (fun c_3011137 => ?_)
        · have j_3011138 : gb_iv (-1) (-1) v5 := (gb_rU (lo := (-1)) (hi := (-1)) (gb_dlt c_3011137) iv5 (gb_ic (a := 0) (by decide)) (by decide))
          refine gm_lti (lo := 1) (hi := 256) (gb_iadd (lo := 1) (hi := 256) iv6 (gb_ic (a := 1) (by decide)) (by decide)) (fun x_40 ex_40 ix_40 => ?_)
          exact hk35 _ _ _ _ _ _ _ hX iv2 iv3 (gb_it _) (gb_iw (lo := (-1)) (hi := 255) iv6 (by decide)) (gb_iw (lo := 0) (hi := 256) ix_40 (by decide)) (gb_mup ex_40 iv6 (by decide) hm35)
        · have j_3011139 : gb_iv 0 255 v5 := (gb_rL (lo := 0) (hi := 255) (gb_dnlt c_3011137) iv5 (gb_ic (a := 0) (by decide)) (by decide))
          refine gm_bdP (mt_bits hn hX.1) (fun r_43 h_3011140 => ?_)
          refine gm_bdP (mt_bits hn hX.1) (fun r_48 h_3011141 => ?_)
          refine gm_if (fun c_3011142 => ?_) (fun c_3011142 => ?_)
          · refine gm_lti (lo := 1) (hi := 256) (gb_iadd (lo := 1) (hi := 256) iv6 (gb_ic (a := 1) (by decide)) (by decide)) (fun x_52 ex_52 ix_52 => ?_)
            exact hk35 _ _ _ _ _ _ _ hX iv2 iv3 (gb_it _) (gb_iw (lo := (-1)) (hi := 255) j_3011139 (by decide)) (gb_iw (lo := 0) (hi := 256) ix_52 (by decide)) (gb_mup ex_52 iv6 (by decide) hm35)
          · have j_3011143 : gb_iv (-2147483648) 2147483646 r_43 := (gb_rU (lo := (-2147483648)) (hi := 2147483646) (gb_dnle c_3011142) (gb_it _) (gb_it _) (by decide))
            have j_3011144 : gb_iv (-2147483647) 2147483647 r_48 := (gb_rL (lo := (-2147483647)) (hi := 2147483647) (gb_dnle c_3011142) (gb_it _) j_3011143 (by decide))
            refine gm_lti (lo := 1) (hi := 256) (gb_iadd (lo := 1) (hi := 256) iv6 (gb_ic (a := 1) (by decide)) (by decide)) (fun x_53 ex_53 ix_53 => ?_)
            exact hk35 _ _ _ _ _ _ _ hX iv2 iv3 (gb_it _) (gb_iw (lo := (-1)) (hi := 255) iv6 (by decide)) (gb_iw (lo := 0) (hi := 256) ix_53 (by decide)) (gb_mup ex_53 iv6 (by decide) hm35)
    · have j_3011145 : gb_iv 0 7 v8 := (gb_rU (lo := 0) (hi := 7) (gb_dnle c_3011133) iv8 h_3011132 (by decide))
      have j_3011146 : gb_iv 1 8 r_33 := (gb_rL (lo := 1) (hi := 8) (gb_dnle c_3011133) h_3011132 j_3011145 (by decide))
      refine gm_if (fun c_3011147 => ?_) (fun c_3011147 => ?_)
      · have j_3011148 : gb_iv 1 1 ((v6 >>> (v8 &&& 31)) &&& 1) := (gb_rL (lo := 1) (hi := 1) (gb_deq2 c_3011147) (gb_iandr (lo := 0) (hi := 1) (gb_iw (lo := 0) (hi := 1) (gb_ic (a := 1) (by decide)) (by decide)) (by decide)) (gb_ic (a := 1) (by decide)) (by decide))
        refine gm_bdP (mt_firstMarks hn hX.1 j_3011145 (gb_iw (lo := 0) (hi := 100) iv2 (by decide))) (fun r_64 h_3011149 => ?_)
        refine gm_lti (lo := (-2147483648)) (hi := 2147483647) (gb_it _) (fun x_67 ex_67 ix_67 => ?_)
        refine gm_lti (lo := 1) (hi := 8) (gb_iadd (lo := 1) (hi := 8) j_3011145 (gb_ic (a := 1) (by decide)) (by decide)) (fun x_68 ex_68 ix_68 => ?_)
        exact ih _ _ _ _ _ _ _ _ _ hX iv2 iv3 (gb_it _) iv5 iv6 (gb_it _) (gb_iw (lo := 0) (hi := 8) ix_68 (by decide)) hm35 (gb_mup ex_68 j_3011145 (by decide) hm)
      · have j_3011150 : gb_iv 0 0 ((v6 >>> (v8 &&& 31)) &&& 1) := (gb_rN (lo := 0) (hi := 0) (v := 1) c_3011147 (gb_iandr (lo := 0) (hi := 1) (gb_iw (lo := 0) (hi := 1) (gb_ic (a := 1) (by decide)) (by decide)) (by decide)) (by decide) (by decide))
        refine gm_bdP (mt_firstMarks hn hX.1 j_3011145 (gb_iw (lo := 0) (hi := 100) iv2 (by decide))) (fun r_57 h_3011151 => ?_)
        refine gm_lti (lo := (-2147483648)) (hi := 2147483647) (gb_it _) (fun x_60 ex_60 ix_60 => ?_)
        refine gm_lti (lo := 1) (hi := 8) (gb_iadd (lo := 1) (hi := 8) j_3011145 (gb_ic (a := 1) (by decide)) (by decide)) (fun x_61 ex_61 ix_61 => ?_)
        exact ih _ _ _ _ _ _ _ _ _ hX iv2 iv3 (gb_it _) iv5 iv6 (gb_it _) (gb_iw (lo := 0) (hi := 8) ix_61 (by decide)) hm35 (gb_mup ex_61 j_3011145 (by decide) hm)
set_option maxHeartbeats 4000000 in
theorem mt_backs_35 {n : Nat} (hn : gb_N ≤ n) {Q : gb_F → Int64 → Int32 → Prop} {f0 : gb_F} (hret : ∀ (f : gb_F) (w : Int64) (r : Int32), gb_XK f0 f → gb_iv (-2147483648) 2147483647 r → Q f w r) : ∀ (mm : Nat) (f : gb_F) (w : Int64) (v2 : Int32) (v3 : Int32) (v4 : Int32) (v5 : Int32) (v6 : Int32), gb_XK f0 f → gb_iv 0 4 v2 → gb_iv 0 9999 v3 → gb_iv (-2147483648) 2147483647 v4 → gb_iv (-1) 255 v5 → gb_iv 0 256 v6 → (256 - v6.toInt).toNat < mm → gb_tm (ms_backs_35 n mm f w v2 v3 v4 v5 v6) Q := by
  intro mm
  induction mm with
  | zero =>
    intro f w v2 v3 v4 v5 v6 hX iv2 iv3 iv4 iv5 iv6 hm
    exact absurd hm (Nat.not_lt_zero _)
  | succ mm ih =>
    intro f w v2 v3 v4 v5 v6 hX iv2 iv3 iv4 iv5 iv6 hm
    rw [ms_backs_35]
    refine gm_bdP (mt_geese hX.1) (fun r_21 h_3010826 => ?_)
    refine gm_if (fun c_3010827 => ?_) (fun c_3010827 => ?_)
    · have j_3010828 : gb_iv 1 256 v6 := (gb_rL (lo := 1) (hi := 256) (gb_dle c_3010827) iv6 (gb_ishl (lo := 1) (hi := 256) h_3010826 (by decide)) (by decide))
      refine gm_if (fun c_3010829 => ?_) (fun c_3010829 => ?_)
      · have j_3010830 : gb_iv (-2147483648) 0 v4 := (gb_rU (lo := (-2147483648)) (hi := 0) (gb_deq c_3010829) (gb_it _) (gb_ic (a := 0) (by decide)) (by decide))
        have j_3010831 : gb_iv 0 0 v4 := (gb_rL (lo := 0) (hi := 0) (gb_deq2 c_3010829) j_3010830 (gb_ic (a := 0) (by decide)) (by decide))
        exact gm_some (hret _ _ _ hX (gb_iw (lo := (-2147483648)) (hi := 2147483647) iv5 (by decide)))
      · refine gm_bdP (mt_bits hn hX.1) (fun r_28 h_3010832 => ?_)
        exact gm_some (hret _ _ _ hX (gb_it _))
    · have j_3010833 : gb_iv 0 255 v6 := (gb_rU (lo := 0) (hi := 255) (gb_dnle c_3010827) iv6 (gb_ishl (lo := 1) (hi := 256) h_3010826 (by decide)) (by decide))
      exact mt_backs_52 hn ih hret n _ _ _ _ _ _ _ _ _ hX iv2 iv3 (gb_it _) iv5 j_3010833 (gb_iw (lo := (-2147483648)) (hi := 2147483647) (gb_ic (a := 0) (by decide)) (by decide)) (gb_iw (lo := 0) (hi := 8) (gb_ic (a := 0) (by decide)) (by decide)) hm (gb_fuu hn (gb_iw (lo := 0) (hi := 8) (gb_ic (a := 0) (by decide)) (by decide)) (by decide))
set_option maxHeartbeats 4000000 in
theorem mt_backs {n : Nat} (hn : gb_N ≤ n) {f : gb_F} {w : Int64} {p1 : Int32} {p2 : Int32} {p3 : Int32} {p4 : Int32} (hT : gb_TM f) : gb_tm (ms_backs n f w p1 p2 p3 p4) (fun f2 _ r => gb_TM f2 ∧ gb_iv (-2147483648) 2147483647 r) := by
  have hX := gb_XKr hT
  unfold ms_backs
  refine gm_bdT (mt_isBorder hX.1) (fun f_1 wl_2 r_3 hXf_1 h_3001437 => ?_)
  refine gm_if (fun c_3001438 => ?_) (fun c_3001438 => ?_)
  · have j_3001439 : gb_iv 0 0 r_3 := (gb_rU (lo := 0) (hi := 0) (gb_deq c_3001438) h_3001437.1 (gb_ic (a := 0) (by decide)) (by decide))
    exact gm_some ⟨hXf_1.1, (gb_iw (lo := (-2147483648)) (hi := 2147483647) (gb_ic (a := (-1)) (by decide)) (by decide))⟩
  · have j_3001440 : gb_iv 1 1 r_3 := (gb_rN (lo := 1) (hi := 1) (v := 0) c_3001438 h_3001437.1 (by decide) (by decide))
    refine gm_bdP (mt_isPath hXf_1.1) (fun r_9 h_3001441 => ?_)
    refine gm_if (fun c_3001442 => ?_) (fun c_3001442 => ?_)
    · have j_3001443 : gb_iv 0 0 r_9 := (gb_rU (lo := 0) (hi := 0) (gb_deq c_3001442) h_3001441.1 (gb_ic (a := 0) (by decide)) (by decide))
      exact gm_some ⟨hXf_1.1, (gb_iw (lo := (-2147483648)) (hi := 2147483647) (gb_ic (a := (-1)) (by decide)) (by decide))⟩
    · have j_3001444 : gb_iv 1 1 r_9 := (gb_rN (lo := 1) (hi := 1) (v := 0) c_3001442 h_3001441.1 (by decide) (by decide))
      have j_3001445 : gb_iv 0 4 p2 := (h_3001441.2 c_3001442)
      refine gm_bdP mt_isIn (fun r_15 h_3001446 => ?_)
      refine gm_if (fun c_3001447 => ?_) (fun c_3001447 => ?_)
      · have j_3001448 : gb_iv 0 0 r_15 := (gb_rU (lo := 0) (hi := 0) (gb_deq c_3001447) h_3001446.1 (gb_ic (a := 0) (by decide)) (by decide))
        exact gm_some ⟨hXf_1.1, (gb_iw (lo := (-2147483648)) (hi := 2147483647) (gb_ic (a := (-1)) (by decide)) (by decide))⟩
      · have j_3001449 : gb_iv 1 1 r_15 := (gb_rN (lo := 1) (hi := 1) (v := 0) c_3001447 h_3001446.1 (by decide) (by decide))
        have j_3001450 : gb_iv 0 9999 p3 := ((fun q_ => gb_iin (a := 0) (b := 0) (h_3001446.2 q_) (gb_ic (a := 0) (by decide)).1 (gb_ic (a := 9999) (by decide)).2) c_3001447)
        exact mt_backs_35 hn (fun _ _ _ hX h => ⟨hX.1, h⟩) n _ _ _ _ _ _ _ hXf_1 j_3001445 j_3001450 (gb_it _) (gb_iw (lo := (-1)) (hi := 255) (gb_ic (a := (-1)) (by decide)) (by decide)) (gb_iw (lo := 0) (hi := 256) (gb_ic (a := 0) (by decide)) (by decide)) (gb_fuu hn (gb_iw (lo := 0) (hi := 256) (gb_ic (a := 0) (by decide)) (by decide)) (by decide))
set_option maxHeartbeats 4000000 in
theorem mt_apartWithout_112 {n : Nat} (hn : gb_N ≤ n) {Q : gb_F → Int64 → Int32 → Prop} {f0 : gb_F} (hFPP : gb_PP f0) {k4 : gb_F → Int64 → Int32 → Int32 → Int32 → gb_MR Int32} {M4 : Nat} (hk4 : ∀ (f : gb_F) (w : Int64) (v1 : Int32) (v2 : Int32) (v3 : Int32), gb_XK f0 f → gb_iv (-2147483648) 2147483647 v1 → gb_iv (-2147483648) 2147483647 v2 → gb_iv 0 2147483647 v3 → (2147483647 - v3.toInt).toNat < M4 → gb_tm (k4 f w v1 v2 v3) Q) (hret : ∀ (f : gb_F) (w : Int64) (r : Int32), gb_XK f0 f → gb_iv (-2147483648) 2147483647 r → Q f w r) : ∀ (mm : Nat) (f : gb_F) (w : Int64) (v1 : Int32) (v2 : Int32) (v3 : Int32) (v4 : Int32) (v5 : Int32) (v6 : Int32) (v7 : Int32) (v8 : Int32), gb_XK f0 f → gb_iv (-2147483648) 2147483647 v1 → gb_iv (-2147483648) 2147483647 v2 → gb_iv 0 2147483646 v3 → gb_iv (-2147483648) 2147483647 v4 → gb_iv (-2147483648) 2147483647 v5 → gb_iv 0 2147483646 v6 → gb_iv 0 1 v7 → gb_iv 0 8 v8 → (2147483647 - v3.toInt).toNat < M4 + 1 → (8 - v8.toInt).toNat < mm → gb_tm (ms_apartWithout_112 n k4 mm f w v1 v2 v3 v4 v5 v6 v7 v8) Q := by
  intro mm
  induction mm with
  | zero =>
    intro f w v1 v2 v3 v4 v5 v6 v7 v8 hX iv1 iv2 iv3 iv4 iv5 iv6 iv7 iv8 hm4 hm
    exact absurd hm (Nat.not_lt_zero _)
  | succ mm ih =>
    intro f w v1 v2 v3 v4 v5 v6 v7 v8 hX iv1 iv2 iv3 iv4 iv5 iv6 iv7 iv8 hm4 hm
    rw [ms_apartWithout_112]
    refine gm_bdP (mt_geese hX.1) (fun r_20 h_3326994 => ?_)
    refine gm_if (fun c_3326995 => ?_) (fun c_3326995 => ?_)
    · refine gm_if (fun c_3326996 => ?_) (fun c_3326996 => ?_)
      · have j_3326997 : gb_iv 0 0 v7 := (gb_rU (lo := 0) (hi := 0) (gb_deq c_3326996) iv7 (gb_ic (a := 0) (by decide)) (by decide))
        refine gm_lti (lo := 1) (hi := 2147483647) (gb_iadd (lo := 1) (hi := 2147483647) iv3 (gb_ic (a := 1) (by decide)) (by decide)) (fun x_25 ex_25 ix_25 => ?_)
        exact hk4 _ _ _ _ _ hX (gb_it _) (gb_it _) (gb_iw (lo := 0) (hi := 2147483647) ix_25 (by decide)) (gb_mup ex_25 iv3 (by decide) hm4)
      · have j_3326998 : gb_iv 1 1 v7 := (gb_rN (lo := 1) (hi := 1) (v := 0) c_3326996 iv7 (by decide) (by decide))
        refine gm_if (fun c_3326999 => ?_) (fun c_3326999 => ?_)
        · have j_3327000 : gb_iv (-2147483648) (-1) v2 := (gb_rU (lo := (-2147483648)) (hi := (-1)) (gb_dlt c_3326999) (gb_it _) (gb_ic (a := 0) (by decide)) (by decide))
          refine gm_lti (lo := (-2147483648)) (hi := 2147483647) (gb_it _) (fun x_27 ex_27 ix_27 => ?_)
          refine gm_lti (lo := 1) (hi := 2147483647) (gb_iadd (lo := 1) (hi := 2147483647) iv3 (gb_ic (a := 1) (by decide)) (by decide)) (fun x_28 ex_28 ix_28 => ?_)
          exact hk4 _ _ _ _ _ hX (gb_it _) (gb_it _) (gb_iw (lo := 0) (hi := 2147483647) ix_28 (by decide)) (gb_mup ex_28 iv3 (by decide) hm4)
        · have j_3327001 : gb_iv 0 2147483647 v2 := (gb_rL (lo := 0) (hi := 2147483647) (gb_dnlt c_3326999) (gb_it _) (gb_ic (a := 0) (by decide)) (by decide))
          refine gm_if (fun c_3327002 => ?_) (fun c_3327002 => ?_)
          · have j_3327003 : gb_iv 0 2147483647 (v5 - v4) := (gb_rL (lo := 0) (hi := 2147483647) (gb_dle c_3327002) (gb_it _) j_3327001 (by decide))
            refine gm_lti (lo := 1) (hi := 2147483647) (gb_iadd (lo := 1) (hi := 2147483647) iv3 (gb_ic (a := 1) (by decide)) (by decide)) (fun x_30 ex_30 ix_30 => ?_)
            exact hk4 _ _ _ _ _ hX (gb_it _) (gb_iw (lo := (-2147483648)) (hi := 2147483647) j_3327001 (by decide)) (gb_iw (lo := 0) (hi := 2147483647) ix_30 (by decide)) (gb_mup ex_30 iv3 (by decide) hm4)
          · have j_3327004 : gb_iv (-2147483648) 2147483646 (v5 - v4) := (gb_rU (lo := (-2147483648)) (hi := 2147483646) (gb_dnle c_3327002) (gb_it _) j_3327001 (by decide))
            refine gm_lti (lo := (-2147483648)) (hi := 2147483646) j_3327004 (fun x_31 ex_31 ix_31 => ?_)
            refine gm_lti (lo := 1) (hi := 2147483647) (gb_iadd (lo := 1) (hi := 2147483647) iv3 (gb_ic (a := 1) (by decide)) (by decide)) (fun x_32 ex_32 ix_32 => ?_)
            exact hk4 _ _ _ _ _ hX (gb_it _) (gb_iw (lo := (-2147483648)) (hi := 2147483647) ix_31 (by decide)) (gb_iw (lo := 0) (hi := 2147483647) ix_32 (by decide)) (gb_mup ex_32 iv3 (by decide) hm4)
    · have j_3327005 : gb_iv 0 7 v8 := (gb_rU (lo := 0) (hi := 7) (gb_dnle c_3326995) iv8 h_3326994 (by decide))
      have j_3327006 : gb_iv 1 8 r_20 := (gb_rL (lo := 1) (hi := 8) (gb_dnle c_3326995) h_3326994 j_3327005 (by decide))
      refine gm_if (fun c_3327007 => ?_) (fun c_3327007 => ?_)
      · have j_3327008 : gb_iv 0 0 v7 := (gb_rU (lo := 0) (hi := 0) (gb_deq c_3327007) iv7 (gb_ic (a := 0) (by decide)) (by decide))
        refine gm_bdP (mt_pathsP hX.1 (gb_PPx hX hFPP)) (fun r_36 h_3327009 => ?_)
        refine gm_nz h_3327009.1 (by decide) ?_
        refine gm_lti (lo := 0) (hi := 2147483646) (gb_idiv (lo := 0) (hi := 2147483646) iv6 h_3327009.1 (by decide)) (fun x_40 ex_40 ix_40 => ?_)
        refine gm_lti (lo := 1) (hi := 8) (gb_iadd (lo := 1) (hi := 8) j_3327005 (gb_ic (a := 1) (by decide)) (by decide)) (fun x_41 ex_41 ix_41 => ?_)
        exact ih _ _ _ _ _ _ _ _ _ _ hX (gb_it _) (gb_it _) iv3 (gb_it _) (gb_it _) ix_40 (gb_iw (lo := 0) (hi := 1) (gb_ic (a := 0) (by decide)) (by decide)) (gb_iw (lo := 0) (hi := 8) ix_41 (by decide)) hm4 (gb_mup ex_41 j_3327005 (by decide) hm)
      · have j_3327010 : gb_iv 1 1 v7 := (gb_rN (lo := 1) (hi := 1) (v := 0) c_3327007 iv7 (by decide) (by decide))
        refine gm_bdP (mt_pathsP hX.1 (gb_PPx hX hFPP)) (fun r_44 h_3327011 => ?_)
        refine gm_nz h_3327011.1 (by decide) ?_
        refine gm_lti (lo := 0) (hi := 4) (gb_irem (lo := 0) (hi := 4) iv6 h_3327011.1 (by decide)) (fun x_48 ex_48 ix_48 => ?_)
        refine gm_if (fun c_3327012 => ?_) (fun c_3327012 => ?_)
        · have j_3327013 : gb_iv 0 2147483647 v1 := (gb_rL (lo := 0) (hi := 2147483647) (gb_deq c_3327012) (gb_it _) ix_48 (by decide))
          have j_3327014 : gb_iv 0 4 v1 := (gb_rU (lo := 0) (hi := 4) (gb_deq2 c_3327012) j_3327013 ix_48 (by decide))
          refine gm_bdP (mt_pathsP hX.1 (gb_PPx hX hFPP)) (fun r_52 h_3327015 => ?_)
          refine gm_nz h_3327015.1 (by decide) ?_
          refine gm_lti (lo := 0) (hi := 2147483646) (gb_idiv (lo := 0) (hi := 2147483646) iv6 h_3327015.1 (by decide)) (fun x_56 ex_56 ix_56 => ?_)
          refine gm_lti (lo := 1) (hi := 8) (gb_iadd (lo := 1) (hi := 8) j_3327005 (gb_ic (a := 1) (by decide)) (by decide)) (fun x_57 ex_57 ix_57 => ?_)
          exact ih _ _ _ _ _ _ _ _ _ _ hX (gb_iw (lo := (-2147483648)) (hi := 2147483647) j_3327014 (by decide)) (gb_it _) iv3 (gb_it _) (gb_it _) ix_56 (gb_iw (lo := 0) (hi := 1) (gb_ic (a := 0) (by decide)) (by decide)) (gb_iw (lo := 0) (hi := 8) ix_57 (by decide)) hm4 (gb_mup ex_57 j_3327005 (by decide) hm)
        · refine gm_bdP (mt_pathsP hX.1 (gb_PPx hX hFPP)) (fun r_60 h_3327016 => ?_)
          refine gm_nz h_3327016.1 (by decide) ?_
          refine gm_lti (lo := 0) (hi := 2147483646) (gb_idiv (lo := 0) (hi := 2147483646) iv6 h_3327016.1 (by decide)) (fun x_64 ex_64 ix_64 => ?_)
          refine gm_lti (lo := 1) (hi := 8) (gb_iadd (lo := 1) (hi := 8) j_3327005 (gb_ic (a := 1) (by decide)) (by decide)) (fun x_65 ex_65 ix_65 => ?_)
          exact ih _ _ _ _ _ _ _ _ _ _ hX (gb_it _) (gb_it _) iv3 (gb_it _) (gb_it _) ix_64 (gb_iw (lo := 0) (hi := 1) (gb_ic (a := 1) (by decide)) (by decide)) (gb_iw (lo := 0) (hi := 8) ix_65 (by decide)) hm4 (gb_mup ex_65 j_3327005 (by decide) hm)
set_option maxHeartbeats 4000000 in
theorem mt_apartWithout_71 {n : Nat} (hn : gb_N ≤ n) {Q : gb_F → Int64 → Int32 → Prop} {f0 : gb_F} (hFPP : gb_PP f0) {k4 : gb_F → Int64 → Int32 → Int32 → Int32 → gb_MR Int32} {M4 : Nat} (hk4 : ∀ (f : gb_F) (w : Int64) (v1 : Int32) (v2 : Int32) (v3 : Int32), gb_XK f0 f → gb_iv (-2147483648) 2147483647 v1 → gb_iv (-2147483648) 2147483647 v2 → gb_iv 0 2147483647 v3 → (2147483647 - v3.toInt).toNat < M4 → gb_tm (k4 f w v1 v2 v3) Q) {k26 : gb_F → Int64 → Int32 → Int32 → Int32 → Int32 → Int32 → Int32 → gb_MR Int32} {M26 : Nat} (hk26 : ∀ (f : gb_F) (w : Int64) (v1 : Int32) (v2 : Int32) (v3 : Int32) (v4 : Int32) (v5 : Int32) (v6 : Int32), gb_XK f0 f → gb_iv (-2147483648) 2147483647 v1 → gb_iv (-2147483648) 2147483647 v2 → gb_iv 0 2147483646 v3 → gb_iv (-2147483648) 2147483647 v4 → gb_iv (-2147483648) 2147483647 v5 → gb_iv 0 5 v6 → (2147483647 - v3.toInt).toNat < M4 + 1 → (5 - v6.toInt).toNat < M26 → gb_tm (k26 f w v1 v2 v3 v4 v5 v6) Q) (hret : ∀ (f : gb_F) (w : Int64) (r : Int32), gb_XK f0 f → gb_iv (-2147483648) 2147483647 r → Q f w r) : ∀ (f : gb_F) (w : Int64) (v1 : Int32) (v2 : Int32) (v3 : Int32) (v5 : Int32) (v6 : Int32) (t0 : Int32), gb_XK f0 f → gb_iv (-2147483648) 2147483647 v1 → gb_iv (-2147483648) 2147483647 v2 → gb_iv 0 2147483646 v3 → gb_iv (-2147483648) 2147483647 v5 → gb_iv 0 4 v6 → gb_iv (-2147483648) 2147483647 t0 → (2147483647 - v3.toInt).toNat < M4 + 1 → (5 - v6.toInt).toNat < M26 + 1 → gb_tm (ms_apartWithout_71 n k4 k26 f w v1 v2 v3 v5 v6 t0) Q := by
  intro f w v1 v2 v3 v5 v6 t0 hX iv1 iv2 iv3 iv5 iv6 it0 hm4 hm26
  unfold ms_apartWithout_71
  refine gm_bdP (mt_payOf hn hX.1 iv6) (fun r_75 h_3327024 => ?_)
  refine gm_if (fun c_3327025 => ?_) (fun c_3327025 => ?_)
  · refine gm_lti (lo := 1) (hi := 5) (gb_iadd (lo := 1) (hi := 5) iv6 (gb_ic (a := 1) (by decide)) (by decide)) (fun x_79 ex_79 ix_79 => ?_)
    exact hk26 _ _ _ _ _ _ _ _ hX (gb_it _) (gb_it _) iv3 (gb_it _) (gb_it _) (gb_iw (lo := 0) (hi := 5) ix_79 (by decide)) hm4 (gb_mup ex_79 iv6 (by decide) hm26)
  · have j_3327026 : gb_iv (-2147483648) 2147483646 v5 := (gb_rU (lo := (-2147483648)) (hi := 2147483646) (gb_dnle c_3327025) (gb_it _) (gb_it _) (by decide))
    have j_3327027 : gb_iv (-2147483647) 2147483647 r_75 := (gb_rL (lo := (-2147483647)) (hi := 2147483647) (gb_dnle c_3327025) (gb_it _) j_3327026 (by decide))
    refine gm_bdP (mt_payOf hn hX.1 iv6) (fun r_82 h_3327028 => ?_)
    refine gm_lti (lo := 1) (hi := 5) (gb_iadd (lo := 1) (hi := 5) iv6 (gb_ic (a := 1) (by decide)) (by decide)) (fun x_85 ex_85 ix_85 => ?_)
    exact hk26 _ _ _ _ _ _ _ _ hX (gb_it _) (gb_it _) iv3 (gb_it _) (gb_it _) (gb_iw (lo := 0) (hi := 5) ix_85 (by decide)) hm4 (gb_mup ex_85 iv6 (by decide) hm26)
set_option maxHeartbeats 4000000 in
theorem mt_apartWithout_60 {n : Nat} (hn : gb_N ≤ n) {Q : gb_F → Int64 → Int32 → Prop} {f0 : gb_F} (hFPP : gb_PP f0) {k4 : gb_F → Int64 → Int32 → Int32 → Int32 → gb_MR Int32} {M4 : Nat} (hk4 : ∀ (f : gb_F) (w : Int64) (v1 : Int32) (v2 : Int32) (v3 : Int32), gb_XK f0 f → gb_iv (-2147483648) 2147483647 v1 → gb_iv (-2147483648) 2147483647 v2 → gb_iv 0 2147483647 v3 → (2147483647 - v3.toInt).toNat < M4 → gb_tm (k4 f w v1 v2 v3) Q) {k26 : gb_F → Int64 → Int32 → Int32 → Int32 → Int32 → Int32 → Int32 → gb_MR Int32} {M26 : Nat} (hk26 : ∀ (f : gb_F) (w : Int64) (v1 : Int32) (v2 : Int32) (v3 : Int32) (v4 : Int32) (v5 : Int32) (v6 : Int32), gb_XK f0 f → gb_iv (-2147483648) 2147483647 v1 → gb_iv (-2147483648) 2147483647 v2 → gb_iv 0 2147483646 v3 → gb_iv (-2147483648) 2147483647 v4 → gb_iv (-2147483648) 2147483647 v5 → gb_iv 0 5 v6 → (2147483647 - v3.toInt).toNat < M4 + 1 → (5 - v6.toInt).toNat < M26 → gb_tm (k26 f w v1 v2 v3 v4 v5 v6) Q) (hret : ∀ (f : gb_F) (w : Int64) (r : Int32), gb_XK f0 f → gb_iv (-2147483648) 2147483647 r → Q f w r) : ∀ (f : gb_F) (w : Int64) (v1 : Int32) (v2 : Int32) (v3 : Int32) (v5 : Int32) (v6 : Int32), gb_XK f0 f → gb_iv (-2147483648) 2147483647 v1 → gb_iv (-2147483648) 2147483647 v2 → gb_iv 0 2147483646 v3 → gb_iv (-2147483648) 2147483647 v5 → gb_iv 0 4 v6 → (2147483647 - v3.toInt).toNat < M4 + 1 → (5 - v6.toInt).toNat < M26 + 1 → gb_tm (ms_apartWithout_60 n k4 k26 f w v1 v2 v3 v5 v6) Q := by
  intro f w v1 v2 v3 v5 v6 hX iv1 iv2 iv3 iv5 iv6 hm4 hm26
  unfold ms_apartWithout_60
  refine gm_bdP (mt_payOf hn hX.1 iv6) (fun r_70 h_3327023 => ?_)
  exact mt_apartWithout_71 hn hFPP hk4 hk26 hret _ _ _ _ _ _ _ _ hX (gb_it _) (gb_it _) iv3 (gb_it _) iv6 (gb_it _) hm4 hm26
set_option maxHeartbeats 4000000 in
theorem mt_apartWithout_71_i1 {n : Nat} (hn : gb_N ≤ n) {Q : gb_F → Int64 → Int32 → Prop} {f0 : gb_F} (hFPP : gb_PP f0) {k4 : gb_F → Int64 → Int32 → Int32 → Int32 → gb_MR Int32} {M4 : Nat} (hk4 : ∀ (f : gb_F) (w : Int64) (v1 : Int32) (v2 : Int32) (v3 : Int32), gb_XK f0 f → gb_iv (-2147483648) 2147483647 v1 → gb_iv (-2147483648) 2147483647 v2 → gb_iv 0 2147483647 v3 → (2147483647 - v3.toInt).toNat < M4 → gb_tm (k4 f w v1 v2 v3) Q) {k26 : gb_F → Int64 → Int32 → Int32 → Int32 → Int32 → Int32 → Int32 → gb_MR Int32} {M26 : Nat} (hk26 : ∀ (f : gb_F) (w : Int64) (v1 : Int32) (v2 : Int32) (v3 : Int32) (v4 : Int32) (v5 : Int32) (v6 : Int32), gb_XK f0 f → gb_iv (-2147483648) 2147483647 v1 → gb_iv (-2147483648) 2147483647 v2 → gb_iv 0 2147483646 v3 → gb_iv (-2147483648) 2147483647 v4 → gb_iv (-2147483648) 2147483647 v5 → gb_iv 0 5 v6 → (2147483647 - v3.toInt).toNat < M4 + 1 → (5 - v6.toInt).toNat < M26 → gb_tm (k26 f w v1 v2 v3 v4 v5 v6) Q) (hret : ∀ (f : gb_F) (w : Int64) (r : Int32), gb_XK f0 f → gb_iv (-2147483648) 2147483647 r → Q f w r) : ∀ (f : gb_F) (w : Int64) (v1 : Int32) (v2 : Int32) (v3 : Int32) (v5 : Int32) (v6 : Int32) (t0 : Int32), gb_XK f0 f → gb_iv (-2147483648) 2147483647 v1 → gb_iv (-2147483648) 2147483647 v2 → gb_iv 0 2147483646 v3 → gb_iv (-2147483648) 2147483647 v5 → gb_iv 0 4 v6 → gb_iv 0 2147483647 t0 → (2147483647 - v3.toInt).toNat < M4 + 1 → (5 - v6.toInt).toNat < M26 + 1 → gb_tm (ms_apartWithout_71 n k4 k26 f w v1 v2 v3 v5 v6 t0) Q := by
  intro f w v1 v2 v3 v5 v6 t0 hX iv1 iv2 iv3 iv5 iv6 it0 hm4 hm26
  unfold ms_apartWithout_71
  refine gm_bdP (mt_payOf hn hX.1 iv6) (fun r_75 h_3327033 => ?_)
  refine gm_if (fun c_3327034 => ?_) (fun c_3327034 => ?_)
  · refine gm_lti (lo := 1) (hi := 5) (gb_iadd (lo := 1) (hi := 5) iv6 (gb_ic (a := 1) (by decide)) (by decide)) (fun x_79 ex_79 ix_79 => ?_)
    exact hk26 _ _ _ _ _ _ _ _ hX (gb_it _) (gb_it _) iv3 (gb_iw (lo := (-2147483648)) (hi := 2147483647) it0 (by decide)) (gb_it _) (gb_iw (lo := 0) (hi := 5) ix_79 (by decide)) hm4 (gb_mup ex_79 iv6 (by decide) hm26)
  · have j_3327035 : gb_iv (-2147483648) 2147483646 v5 := (gb_rU (lo := (-2147483648)) (hi := 2147483646) (gb_dnle c_3327034) (gb_it _) (gb_it _) (by decide))
    have j_3327036 : gb_iv (-2147483647) 2147483647 r_75 := (gb_rL (lo := (-2147483647)) (hi := 2147483647) (gb_dnle c_3327034) (gb_it _) j_3327035 (by decide))
    refine gm_bdP (mt_payOf hn hX.1 iv6) (fun r_82 h_3327037 => ?_)
    refine gm_lti (lo := 1) (hi := 5) (gb_iadd (lo := 1) (hi := 5) iv6 (gb_ic (a := 1) (by decide)) (by decide)) (fun x_85 ex_85 ix_85 => ?_)
    exact hk26 _ _ _ _ _ _ _ _ hX (gb_it _) (gb_it _) iv3 (gb_iw (lo := (-2147483648)) (hi := 2147483647) it0 (by decide)) (gb_it _) (gb_iw (lo := 0) (hi := 5) ix_85 (by decide)) hm4 (gb_mup ex_85 iv6 (by decide) hm26)
set_option maxHeartbeats 4000000 in
theorem mt_apartWithout_26 {n : Nat} (hn : gb_N ≤ n) {Q : gb_F → Int64 → Int32 → Prop} {f0 : gb_F} (hFPP : gb_PP f0) {k4 : gb_F → Int64 → Int32 → Int32 → Int32 → gb_MR Int32} {M4 : Nat} (hk4 : ∀ (f : gb_F) (w : Int64) (v1 : Int32) (v2 : Int32) (v3 : Int32), gb_XK f0 f → gb_iv (-2147483648) 2147483647 v1 → gb_iv (-2147483648) 2147483647 v2 → gb_iv 0 2147483647 v3 → (2147483647 - v3.toInt).toNat < M4 → gb_tm (k4 f w v1 v2 v3) Q) (hret : ∀ (f : gb_F) (w : Int64) (r : Int32), gb_XK f0 f → gb_iv (-2147483648) 2147483647 r → Q f w r) : ∀ (mm : Nat) (f : gb_F) (w : Int64) (v1 : Int32) (v2 : Int32) (v3 : Int32) (v4 : Int32) (v5 : Int32) (v6 : Int32), gb_XK f0 f → gb_iv (-2147483648) 2147483647 v1 → gb_iv (-2147483648) 2147483647 v2 → gb_iv 0 2147483646 v3 → gb_iv (-2147483648) 2147483647 v4 → gb_iv (-2147483648) 2147483647 v5 → gb_iv 0 5 v6 → (2147483647 - v3.toInt).toNat < M4 + 1 → (5 - v6.toInt).toNat < mm → gb_tm (ms_apartWithout_26 n k4 mm f w v1 v2 v3 v4 v5 v6) Q := by
  intro mm
  induction mm with
  | zero =>
    intro f w v1 v2 v3 v4 v5 v6 hX iv1 iv2 iv3 iv4 iv5 iv6 hm4 hm
    exact absurd hm (Nat.not_lt_zero _)
  | succ mm ih =>
    intro f w v1 v2 v3 v4 v5 v6 hX iv1 iv2 iv3 iv4 iv5 iv6 hm4 hm
    rw [ms_apartWithout_26]
    refine gm_bdP (mt_pathsP hX.1 (gb_PPx hX hFPP)) (fun r_14 h_3326651 => ?_)
    refine gm_if (fun c_3326652 => ?_) (fun c_3326652 => ?_)
    · have j_3326653 : gb_iv 1 5 v6 := (gb_rL (lo := 1) (hi := 5) (gb_dle c_3326652) iv6 h_3326651.1 (by decide))
      exact mt_apartWithout_112 hn hFPP hk4 hret n _ _ _ _ _ _ _ _ _ _ hX (gb_it _) (gb_it _) iv3 (gb_it _) (gb_it _) iv3 (gb_iw (lo := 0) (hi := 1) (gb_ic (a := 1) (by decide)) (by decide)) (gb_iw (lo := 0) (hi := 8) (gb_ic (a := 0) (by decide)) (by decide)) hm4 (gb_fuu hn (gb_iw (lo := 0) (hi := 8) (gb_ic (a := 0) (by decide)) (by decide)) (by decide))
    · have j_3327017 : gb_iv 0 4 v6 := (gb_rU (lo := 0) (hi := 4) (gb_dnle c_3326652) iv6 h_3326651.1 (by decide))
      refine gm_if (fun c_3327018 => ?_) (fun c_3327018 => ?_)
      · have j_3327019 : gb_iv 0 2147483647 v1 := (gb_rL (lo := 0) (hi := 2147483647) (gb_deq c_3327018) (gb_it _) j_3327017 (by decide))
        have j_3327020 : gb_iv 0 4 v1 := (gb_rU (lo := 0) (hi := 4) (gb_deq2 c_3327018) j_3327019 j_3327017 (by decide))
        refine gm_lti (lo := 1) (hi := 5) (gb_iadd (lo := 1) (hi := 5) j_3327017 (gb_ic (a := 1) (by decide)) (by decide)) (fun x_92 ex_92 ix_92 => ?_)
        exact ih _ _ _ _ _ _ _ _ hX (gb_iw (lo := (-2147483648)) (hi := 2147483647) j_3327020 (by decide)) (gb_it _) iv3 (gb_it _) (gb_it _) (gb_iw (lo := 0) (hi := 5) ix_92 (by decide)) hm4 (gb_mup ex_92 j_3327017 (by decide) hm)
      · refine gm_if (fun c_3327021 => ?_) (fun c_3327021 => ?_)
        · have j_3327022 : gb_iv (-2147483648) (-1) v4 := (gb_rU (lo := (-2147483648)) (hi := (-1)) (gb_dlt c_3327021) (gb_it _) (gb_ic (a := 0) (by decide)) (by decide))
          exact mt_apartWithout_60 hn hFPP hk4 ih hret _ _ _ _ _ _ _ hX (gb_it _) (gb_it _) iv3 (gb_it _) j_3327017 hm4 hm
        · have j_3327029 : gb_iv 0 2147483647 v4 := (gb_rL (lo := 0) (hi := 2147483647) (gb_dnlt c_3327021) (gb_it _) (gb_ic (a := 0) (by decide)) (by decide))
          refine gm_bdP (mt_payOf hn hX.1 j_3327017) (fun r_88 h_3327030 => ?_)
          refine gm_if (fun c_3327031 => ?_) (fun c_3327031 => ?_)
          · have j_3327032 : gb_iv 0 2147483647 r_88 := (gb_rL (lo := 0) (hi := 2147483647) (gb_dle c_3327031) (gb_it _) j_3327029 (by decide))
            exact mt_apartWithout_71_i1 hn hFPP hk4 ih hret _ _ _ _ _ _ _ _ hX (gb_it _) (gb_it _) iv3 (gb_it _) j_3327017 j_3327029 hm4 hm
          · have j_3327038 : gb_iv (-2147483648) 2147483646 r_88 := (gb_rU (lo := (-2147483648)) (hi := 2147483646) (gb_dnle c_3327031) (gb_it _) j_3327029 (by decide))
            exact mt_apartWithout_60 hn hFPP hk4 ih hret _ _ _ _ _ _ _ hX (gb_it _) (gb_it _) iv3 (gb_it _) j_3327017 hm4 hm
set_option maxHeartbeats 4000000 in
theorem mt_apartWithout_4 {n : Nat} (hn : gb_N ≤ n) {Q : gb_F → Int64 → Int32 → Prop} {f0 : gb_F} (hFPP : gb_PP f0) (hret : ∀ (f : gb_F) (w : Int64) (r : Int32), gb_XK f0 f → gb_iv (-2147483648) 2147483647 r → Q f w r) : ∀ (mm : Nat) (f : gb_F) (w : Int64) (v1 : Int32) (v2 : Int32) (v3 : Int32), gb_XK f0 f → gb_iv (-2147483648) 2147483647 v1 → gb_iv (-2147483648) 2147483647 v2 → gb_iv 0 2147483647 v3 → (2147483647 - v3.toInt).toNat < mm → gb_tm (ms_apartWithout_4 n mm f w v1 v2 v3) Q := by
  intro mm
  induction mm with
  | zero =>
    intro f w v1 v2 v3 hX iv1 iv2 iv3 hm
    exact absurd hm (Nat.not_lt_zero _)
  | succ mm ih =>
    intro f w v1 v2 v3 hX iv1 iv2 iv3 hm
    rw [ms_apartWithout_4]
    refine gm_bdP (mt_codes hn hX.1) (fun r_3 h_3322182 => ?_)
    refine gm_if (fun c_3322183 => ?_) (fun c_3322183 => ?_)
    · exact gm_some (hret _ _ _ hX (gb_it _))
    · have j_3322184 : gb_iv 0 2147483646 v3 := (gb_rU (lo := 0) (hi := 2147483646) (gb_dnle c_3322183) iv3 (gb_it _) (by decide))
      have j_3322185 : gb_iv 1 2147483647 r_3 := (gb_rL (lo := 1) (hi := 2147483647) (gb_dnle c_3322183) (gb_it _) j_3322184 (by decide))
      refine gm_bdK hX (mt_sums hn hX.1 (gb_PPx hX hFPP) (gb_iw (lo := 0) (hi := 2147483647) j_3322184 (by decide))) (fun f_7 wl_8 u_3322186 hXf_7 _ => ?_)
      exact mt_apartWithout_26 hn hFPP ih hret n _ _ _ _ _ _ _ _ hXf_7 (gb_it _) (gb_it _) j_3322184 (gb_iw (lo := (-2147483648)) (hi := 2147483647) (gb_ic (a := (-1)) (by decide)) (by decide)) (gb_iw (lo := (-2147483648)) (hi := 2147483647) (gb_ic (a := 0) (by decide)) (by decide)) (gb_iw (lo := 0) (hi := 5) (gb_ic (a := 0) (by decide)) (by decide)) hm (gb_fuu hn (gb_iw (lo := 0) (hi := 5) (gb_ic (a := 0) (by decide)) (by decide)) (by decide))
set_option maxHeartbeats 4000000 in
theorem mt_apartWithout {n : Nat} (hn : gb_N ≤ n) {f : gb_F} {w : Int64} {p1 : Int32} (hT : gb_TM f) (hFPP : gb_PP f) : gb_tm (ms_apartWithout n f w p1) (fun f2 _ r => gb_XK f f2 ∧ gb_iv (-2147483648) 2147483647 r) := by
  have hX := gb_XKr hT
  unfold ms_apartWithout
  exact mt_apartWithout_4 hn hFPP (fun _ _ _ hX h => ⟨hX, h⟩) n _ _ _ _ _ hX (gb_it _) (gb_iw (lo := (-2147483648)) (hi := 2147483647) (gb_ic (a := (-1)) (by decide)) (by decide)) (gb_iw (lo := 0) (hi := 2147483647) (gb_ic (a := 0) (by decide)) (by decide)) (gb_fuu hn (gb_iw (lo := 0) (hi := 2147483647) (gb_ic (a := 0) (by decide)) (by decide)) (by decide))
set_option maxHeartbeats 4000000 in
theorem mt_close_30 {n : Nat} (hn : gb_N ≤ n) {Q : gb_F → Int64 → Int32 → Prop} {f0 : gb_F} (hFPP : gb_PP f0) (hret : ∀ (f : gb_F) (w : Int64) (r : Int32), gb_XK f0 f → gb_iv (-2147483648) 2147483647 r → Q f w r) : ∀ (mm : Nat) (f : gb_F) (w : Int64) (v2 : Int32) (v3 : Int32) (v4 : Int32) (v5 : Int32), gb_XK f0 f → gb_iv (-2147483648) 2147483647 v2 → gb_iv (-1) 4 v3 → gb_iv (-2147483648) 2147483647 v4 → gb_iv 0 5 v5 → (5 - v5.toInt).toNat < mm → gb_tm (ms_close_30 n mm f w v2 v3 v4 v5) Q := by
  intro mm
  induction mm with
  | zero =>
    intro f w v2 v3 v4 v5 hX iv2 iv3 iv4 iv5 hm
    exact absurd hm (Nat.not_lt_zero _)
  | succ mm ih =>
    intro f w v2 v3 v4 v5 hX iv2 iv3 iv4 iv5 hm
    rw [ms_close_30]
    refine gm_bdP (mt_pathsP hX.1 (gb_PPx hX hFPP)) (fun r_20 h_3327402 => ?_)
    refine gm_if (fun c_3327403 => ?_) (fun c_3327403 => ?_)
    · have j_3327404 : gb_iv 1 5 v5 := (gb_rL (lo := 1) (hi := 5) (gb_dle c_3327403) iv5 h_3327402.1 (by decide))
      refine gm_if (fun c_3327405 => ?_) (fun c_3327405 => ?_)
      · have j_3327406 : gb_iv (-2147483648) 0 v2 := (gb_rU (lo := (-2147483648)) (hi := 0) (gb_deq c_3327405) (gb_it _) (gb_ic (a := 0) (by decide)) (by decide))
        have j_3327407 : gb_iv 0 0 v2 := (gb_rL (lo := 0) (hi := 0) (gb_deq2 c_3327405) j_3327406 (gb_ic (a := 0) (by decide)) (by decide))
        exact gm_some (hret _ _ _ hX (gb_iw (lo := (-2147483648)) (hi := 2147483647) iv3 (by decide)))
      · exact gm_some (hret _ _ _ hX (gb_it _))
    · have j_3327408 : gb_iv 0 4 v5 := (gb_rU (lo := 0) (hi := 4) (gb_dnle c_3327403) iv5 h_3327402.1 (by decide))
      refine gm_bdK hX (mt_apartWithout hn hX.1 (gb_PPx hX hFPP)) (fun f_25 wl_26 r_27 hXf_25 h_3327409 => ?_)
      refine gm_if (fun c_3327410 => ?_) (fun c_3327410 => ?_)
      · have j_3327411 : gb_iv (-1) (-1) v3 := (gb_rU (lo := (-1)) (hi := (-1)) (gb_dlt c_3327410) iv3 (gb_ic (a := 0) (by decide)) (by decide))
        refine gm_lti (lo := 1) (hi := 5) (gb_iadd (lo := 1) (hi := 5) j_3327408 (gb_ic (a := 1) (by decide)) (by decide)) (fun x_31 ex_31 ix_31 => ?_)
        exact ih _ _ _ _ _ _ hXf_25 (gb_it _) (gb_iw (lo := (-1)) (hi := 4) j_3327408 (by decide)) (gb_it _) (gb_iw (lo := 0) (hi := 5) ix_31 (by decide)) (gb_mup ex_31 j_3327408 (by decide) hm)
      · have j_3327412 : gb_iv 0 4 v3 := (gb_rL (lo := 0) (hi := 4) (gb_dnlt c_3327410) iv3 (gb_ic (a := 0) (by decide)) (by decide))
        refine gm_if (fun c_3327413 => ?_) (fun c_3327413 => ?_)
        · have j_3327414 : gb_iv (-2147483648) 2147483646 r_27 := (gb_rU (lo := (-2147483648)) (hi := 2147483646) (gb_dlt c_3327413) (gb_it _) (gb_it _) (by decide))
          have j_3327415 : gb_iv (-2147483647) 2147483647 v4 := (gb_rL (lo := (-2147483647)) (hi := 2147483647) (gb_dlt c_3327413) (gb_it _) j_3327414 (by decide))
          refine gm_lti (lo := 1) (hi := 5) (gb_iadd (lo := 1) (hi := 5) j_3327408 (gb_ic (a := 1) (by decide)) (by decide)) (fun x_33 ex_33 ix_33 => ?_)
          exact ih _ _ _ _ _ _ hXf_25 (gb_it _) (gb_iw (lo := (-1)) (hi := 4) j_3327408 (by decide)) (gb_iw (lo := (-2147483648)) (hi := 2147483647) j_3327414 (by decide)) (gb_iw (lo := 0) (hi := 5) ix_33 (by decide)) (gb_mup ex_33 j_3327408 (by decide) hm)
        · refine gm_lti (lo := 1) (hi := 5) (gb_iadd (lo := 1) (hi := 5) j_3327408 (gb_ic (a := 1) (by decide)) (by decide)) (fun x_34 ex_34 ix_34 => ?_)
          exact ih _ _ _ _ _ _ hXf_25 (gb_it _) (gb_iw (lo := (-1)) (hi := 4) j_3327412 (by decide)) (gb_it _) (gb_iw (lo := 0) (hi := 5) ix_34 (by decide)) (gb_mup ex_34 j_3327408 (by decide) hm)
set_option maxHeartbeats 4000000 in
theorem mt_close {n : Nat} (hn : gb_N ≤ n) {f : gb_F} {w : Int64} {p1 : Int32} {p2 : Int32} (hT : gb_TM f) : gb_tm (ms_close n f w p1 p2) (fun f2 _ r => gb_TM f2 ∧ gb_iv (-2147483648) 2147483647 r) := by
  have hX := gb_XKr hT
  unfold ms_close
  refine gm_bdT (mt_canMarch hX.1) (fun f_1 wl_2 r_3 hXf_1 h_3327221 => ?_)
  refine gm_if (fun c_3327222 => ?_) (fun c_3327222 => ?_)
  · have j_3327223 : gb_iv 0 0 r_3 := (gb_rU (lo := 0) (hi := 0) (gb_deq c_3327222) h_3327221.1 (gb_ic (a := 0) (by decide)) (by decide))
    exact gm_some ⟨hXf_1.1, (gb_iw (lo := (-2147483648)) (hi := 2147483647) (gb_ic (a := (-1)) (by decide)) (by decide))⟩
  · have j_3327224 : gb_iv 1 1 r_3 := (gb_rN (lo := 1) (hi := 1) (v := 0) c_3327222 h_3327221.1 (by decide) (by decide))
    have hF_3327225 := (h_3327221.2 c_3327222)
    refine gm_bdP (mt_pathsP hXf_1.1 (gb_PPx hXf_1 hF_3327225)) (fun r_9 h_3327226 => ?_)
    refine gm_if (fun c_3327227 => ?_) (fun c_3327227 => ?_)
    · have j_3327228 : gb_iv 2 5 r_9 := (gb_rL (lo := 2) (hi := 5) (gb_dle c_3327227) h_3327226.1 (gb_ic (a := 2) (by decide)) (by decide))
      refine gm_bdK hXf_1 (mt_measures hn hXf_1.1) (fun f_13 wl_14 u_3327229 hXf_13 _ => ?_)
      exact mt_close_30 hn hF_3327225 (fun _ _ _ hX h => ⟨hX.1, h⟩) n _ _ _ _ _ _ hXf_13 (gb_it _) (gb_iw (lo := (-1)) (hi := 4) (gb_ic (a := (-1)) (by decide)) (by decide)) (gb_iw (lo := (-2147483648)) (hi := 2147483647) (gb_ic (a := 0) (by decide)) (by decide)) (gb_iw (lo := 0) (hi := 5) (gb_ic (a := 0) (by decide)) (by decide)) (gb_fuu hn (gb_iw (lo := 0) (hi := 5) (gb_ic (a := 0) (by decide)) (by decide)) (by decide))
    · have j_3327416 : gb_iv 1 1 r_9 := (gb_rU (lo := 1) (hi := 1) (gb_dnle c_3327227) h_3327226.1 (gb_ic (a := 2) (by decide)) (by decide))
      exact gm_some ⟨hXf_1.1, (gb_iw (lo := (-2147483648)) (hi := 2147483647) (gb_ic (a := (-1)) (by decide)) (by decide))⟩
set_option maxHeartbeats 4000000 in
theorem mt_near_75 {n : Nat} (hn : gb_N ≤ n) {Q : gb_F → Int64 → Int32 → Prop} {f0 : gb_F} {k52 : gb_F → Int64 → Int32 → Int32 → Int32 → Int32 → gb_MR Int32} {M52 : Nat} (hk52 : ∀ (f : gb_F) (w : Int64) (v3 : Int32) (v4 : Int32) (v5 : Int32) (v6 : Int32), gb_XK f0 f → gb_iv 0 4 v3 → gb_iv (-1) 255 v4 → gb_iv (-2147483648) 2147483647 v5 → gb_iv 0 256 v6 → (256 - v6.toInt).toNat < M52 → gb_tm (k52 f w v3 v4 v5 v6) Q) (hret : ∀ (f : gb_F) (w : Int64) (r : Int32), gb_XK f0 f → gb_iv (-1) 255 r → Q f w r) : ∀ (mm : Nat) (f : gb_F) (w : Int64) (v3 : Int32) (v4 : Int32) (v5 : Int32) (v6 : Int32) (v7 : Int32) (v8 : Int32), gb_XK f0 f → gb_iv 0 4 v3 → gb_iv (-1) 255 v4 → gb_iv (-2147483648) 2147483647 v5 → gb_iv 0 255 v6 → gb_iv (-2147483648) 2147483647 v7 → gb_iv 0 8 v8 → (256 - v6.toInt).toNat < M52 + 1 → (8 - v8.toInt).toNat < mm → gb_tm (ms_near_75 n k52 mm f w v3 v4 v5 v6 v7 v8) Q := by
  intro mm
  induction mm with
  | zero =>
    intro f w v3 v4 v5 v6 v7 v8 hX iv3 iv4 iv5 iv6 iv7 iv8 hm52 hm
    exact absurd hm (Nat.not_lt_zero _)
  | succ mm ih =>
    intro f w v3 v4 v5 v6 v7 v8 hX iv3 iv4 iv5 iv6 iv7 iv8 hm52 hm
    rw [ms_near_75]
    refine gm_bdP (mt_geese hX.1) (fun r_40 h_3350136 => ?_)
    refine gm_if (fun c_3350137 => ?_) (fun c_3350137 => ?_)
    · refine gm_if (fun c_3350138 => ?_) (fun c_3350138 => ?_)
      · have j_3350139 : gb_iv 0 2147483647 v7 := (gb_rL (lo := 0) (hi := 2147483647) (gb_dle c_3350138) (gb_it _) (gb_ic (a := 0) (by decide)) (by decide))
        refine gm_if (fun c_3350140 => ?_) (fun c_3350140 => ?_)
        · have j_3350141 : gb_iv (-1) (-1) v4 := (gb_rU (lo := (-1)) (hi := (-1)) (gb_dlt c_3350140) iv4 (gb_ic (a := 0) (by decide)) (by decide))
          refine gm_lti (lo := 1) (hi := 256) (gb_iadd (lo := 1) (hi := 256) iv6 (gb_ic (a := 1) (by decide)) (by decide)) (fun x_46 ex_46 ix_46 => ?_)
          exact hk52 _ _ _ _ _ _ hX iv3 (gb_iw (lo := (-1)) (hi := 255) iv6 (by decide)) (gb_iw (lo := (-2147483648)) (hi := 2147483647) j_3350139 (by decide)) (gb_iw (lo := 0) (hi := 256) ix_46 (by decide)) (gb_mup ex_46 iv6 (by decide) hm52)
        · have j_3350142 : gb_iv 0 255 v4 := (gb_rL (lo := 0) (hi := 255) (gb_dnlt c_3350140) iv4 (gb_ic (a := 0) (by decide)) (by decide))
          refine gm_if (fun c_3350143 => ?_) (fun c_3350143 => ?_)
          · have j_3350144 : gb_iv 0 2147483646 v7 := (gb_rU (lo := 0) (hi := 2147483646) (gb_dlt c_3350143) j_3350139 (gb_it _) (by decide))
            have j_3350145 : gb_iv 1 2147483647 v5 := (gb_rL (lo := 1) (hi := 2147483647) (gb_dlt c_3350143) (gb_it _) j_3350144 (by decide))
            refine gm_lti (lo := 1) (hi := 256) (gb_iadd (lo := 1) (hi := 256) iv6 (gb_ic (a := 1) (by decide)) (by decide)) (fun x_48 ex_48 ix_48 => ?_)
            exact hk52 _ _ _ _ _ _ hX iv3 (gb_iw (lo := (-1)) (hi := 255) iv6 (by decide)) (gb_iw (lo := (-2147483648)) (hi := 2147483647) j_3350144 (by decide)) (gb_iw (lo := 0) (hi := 256) ix_48 (by decide)) (gb_mup ex_48 iv6 (by decide) hm52)
          · refine gm_lti (lo := 1) (hi := 256) (gb_iadd (lo := 1) (hi := 256) iv6 (gb_ic (a := 1) (by decide)) (by decide)) (fun x_49 ex_49 ix_49 => ?_)
            exact hk52 _ _ _ _ _ _ hX iv3 (gb_iw (lo := (-1)) (hi := 255) j_3350142 (by decide)) (gb_it _) (gb_iw (lo := 0) (hi := 256) ix_49 (by decide)) (gb_mup ex_49 iv6 (by decide) hm52)
      · have j_3350146 : gb_iv (-2147483648) (-1) v7 := (gb_rU (lo := (-2147483648)) (hi := (-1)) (gb_dnle c_3350138) (gb_it _) (gb_ic (a := 0) (by decide)) (by decide))
        refine gm_lti (lo := (-2147483648)) (hi := 2147483647) (gb_it _) (fun x_50 ex_50 ix_50 => ?_)
        refine gm_if (fun c_3350147 => ?_) (fun c_3350147 => ?_)
        · have j_3350148 : gb_iv (-1) (-1) v4 := (gb_rU (lo := (-1)) (hi := (-1)) (gb_dlt c_3350147) iv4 (gb_ic (a := 0) (by decide)) (by decide))
          refine gm_lti (lo := 1) (hi := 256) (gb_iadd (lo := 1) (hi := 256) iv6 (gb_ic (a := 1) (by decide)) (by decide)) (fun x_52 ex_52 ix_52 => ?_)
          exact hk52 _ _ _ _ _ _ hX iv3 (gb_iw (lo := (-1)) (hi := 255) iv6 (by decide)) (gb_it _) (gb_iw (lo := 0) (hi := 256) ix_52 (by decide)) (gb_mup ex_52 iv6 (by decide) hm52)
        · have j_3350149 : gb_iv 0 255 v4 := (gb_rL (lo := 0) (hi := 255) (gb_dnlt c_3350147) iv4 (gb_ic (a := 0) (by decide)) (by decide))
          refine gm_if (fun c_3350150 => ?_) (fun c_3350150 => ?_)
          · have j_3350151 : gb_iv (-2147483648) 2147483646 x_50 := (gb_rU (lo := (-2147483648)) (hi := 2147483646) (gb_dlt c_3350150) (gb_it _) (gb_it _) (by decide))
            have j_3350152 : gb_iv (-2147483647) 2147483647 v5 := (gb_rL (lo := (-2147483647)) (hi := 2147483647) (gb_dlt c_3350150) (gb_it _) j_3350151 (by decide))
            refine gm_lti (lo := 1) (hi := 256) (gb_iadd (lo := 1) (hi := 256) iv6 (gb_ic (a := 1) (by decide)) (by decide)) (fun x_54 ex_54 ix_54 => ?_)
            exact hk52 _ _ _ _ _ _ hX iv3 (gb_iw (lo := (-1)) (hi := 255) iv6 (by decide)) (gb_iw (lo := (-2147483648)) (hi := 2147483647) j_3350151 (by decide)) (gb_iw (lo := 0) (hi := 256) ix_54 (by decide)) (gb_mup ex_54 iv6 (by decide) hm52)
          · refine gm_lti (lo := 1) (hi := 256) (gb_iadd (lo := 1) (hi := 256) iv6 (gb_ic (a := 1) (by decide)) (by decide)) (fun x_55 ex_55 ix_55 => ?_)
            exact hk52 _ _ _ _ _ _ hX iv3 (gb_iw (lo := (-1)) (hi := 255) j_3350149 (by decide)) (gb_it _) (gb_iw (lo := 0) (hi := 256) ix_55 (by decide)) (gb_mup ex_55 iv6 (by decide) hm52)
    · have j_3350153 : gb_iv 0 7 v8 := (gb_rU (lo := 0) (hi := 7) (gb_dnle c_3350137) iv8 h_3350136 (by decide))
      have j_3350154 : gb_iv 1 8 r_40 := (gb_rL (lo := 1) (hi := 8) (gb_dnle c_3350137) h_3350136 j_3350153 (by decide))
      refine gm_if (fun c_3350155 => ?_) (fun c_3350155 => ?_)
      · have j_3350156 : gb_iv 1 1 ((v6 >>> (v8 &&& 31)) &&& 1) := (gb_rL (lo := 1) (hi := 1) (gb_deq2 c_3350155) (gb_iandr (lo := 0) (hi := 1) (gb_iw (lo := 0) (hi := 1) (gb_ic (a := 1) (by decide)) (by decide)) (by decide)) (gb_ic (a := 1) (by decide)) (by decide))
        refine gm_bdP (mt_seenOf0 hX.1 iv3) (fun r_61 h_3350157 => ?_)
        refine gm_bdP (mt_firstMarks hn hX.1 j_3350153 (gb_iw (lo := 0) (hi := 100) h_3350157 (by decide))) (fun r_66 h_3350158 => ?_)
        refine gm_lti (lo := (-2147483648)) (hi := 2147483647) (gb_it _) (fun x_69 ex_69 ix_69 => ?_)
        refine gm_lti (lo := 1) (hi := 8) (gb_iadd (lo := 1) (hi := 8) j_3350153 (gb_ic (a := 1) (by decide)) (by decide)) (fun x_70 ex_70 ix_70 => ?_)
        exact ih _ _ _ _ _ _ _ _ hX iv3 iv4 (gb_it _) iv6 (gb_it _) (gb_iw (lo := 0) (hi := 8) ix_70 (by decide)) hm52 (gb_mup ex_70 j_3350153 (by decide) hm)
      · have j_3350159 : gb_iv 0 0 ((v6 >>> (v8 &&& 31)) &&& 1) := (gb_rN (lo := 0) (hi := 0) (v := 1) c_3350155 (gb_iandr (lo := 0) (hi := 1) (gb_iw (lo := 0) (hi := 1) (gb_ic (a := 1) (by decide)) (by decide)) (by decide)) (by decide) (by decide))
        refine gm_lti (lo := (-2147483648)) (hi := 2147483647) (gb_iadd (lo := (-2147483648)) (hi := 2147483647) (gb_it _) (gb_ic (a := 0) (by decide)) (by decide)) (fun x_57 ex_57 ix_57 => ?_)
        refine gm_lti (lo := 1) (hi := 8) (gb_iadd (lo := 1) (hi := 8) j_3350153 (gb_ic (a := 1) (by decide)) (by decide)) (fun x_58 ex_58 ix_58 => ?_)
        exact ih _ _ _ _ _ _ _ _ hX iv3 iv4 (gb_it _) iv6 (gb_it _) (gb_iw (lo := 0) (hi := 8) ix_58 (by decide)) hm52 (gb_mup ex_58 j_3350153 (by decide) hm)
set_option maxHeartbeats 4000000 in
theorem mt_near_52 {n : Nat} (hn : gb_N ≤ n) {Q : gb_F → Int64 → Int32 → Prop} {f0 : gb_F} (hret : ∀ (f : gb_F) (w : Int64) (r : Int32), gb_XK f0 f → gb_iv (-1) 255 r → Q f w r) : ∀ (mm : Nat) (f : gb_F) (w : Int64) (v3 : Int32) (v4 : Int32) (v5 : Int32) (v6 : Int32), gb_XK f0 f → gb_iv 0 4 v3 → gb_iv (-1) 255 v4 → gb_iv (-2147483648) 2147483647 v5 → gb_iv 0 256 v6 → (256 - v6.toInt).toNat < mm → gb_tm (ms_near_52 n mm f w v3 v4 v5 v6) Q := by
  intro mm
  induction mm with
  | zero =>
    intro f w v3 v4 v5 v6 hX iv3 iv4 iv5 iv6 hm
    exact absurd hm (Nat.not_lt_zero _)
  | succ mm ih =>
    intro f w v3 v4 v5 v6 hX iv3 iv4 iv5 iv6 hm
    rw [ms_near_52]
    refine gm_bdP (mt_geese hX.1) (fun r_28 h_3349771 => ?_)
    refine gm_if (fun c_3349772 => ?_) (fun c_3349772 => ?_)
    · have j_3349773 : gb_iv 1 256 v6 := (gb_rL (lo := 1) (hi := 256) (gb_dle c_3349772) iv6 (gb_ishl (lo := 1) (hi := 256) h_3349771 (by decide)) (by decide))
      exact gm_some (hret _ _ _ hX iv4)
    · have j_3349774 : gb_iv 0 255 v6 := (gb_rU (lo := 0) (hi := 255) (gb_dnle c_3349772) iv6 (gb_ishl (lo := 1) (hi := 256) h_3349771 (by decide)) (by decide))
      refine gm_bdP (mt_seenOf hn hX.1 (gb_iw (lo := 0) (hi := 5) iv3 (by decide)) (gb_iw (lo := 0) (hi := 1) (gb_ic (a := 1) (by decide)) (by decide))) (fun r_34 h_3349775 => ?_)
      refine gm_lti (lo := (-2147483648)) (hi := 2147483647) (gb_it _) (fun x_37 ex_37 ix_37 => ?_)
      exact mt_near_75 hn ih hret n _ _ _ _ _ _ _ _ hX iv3 iv4 (gb_it _) j_3349774 (gb_it _) (gb_iw (lo := 0) (hi := 8) (gb_ic (a := 0) (by decide)) (by decide)) hm (gb_fuu hn (gb_iw (lo := 0) (hi := 8) (gb_ic (a := 0) (by decide)) (by decide)) (by decide))
set_option maxHeartbeats 4000000 in
theorem mt_near {n : Nat} (hn : gb_N ≤ n) {f : gb_F} {w : Int64} {p1 : Int32} {p2 : Int32} {p3 : Int32} (hT : gb_TM f) : gb_tm (ms_near n f w p1 p2 p3) (fun f2 _ r => gb_TM f2 ∧ gb_iv (-1) 255 r) := by
  have hX := gb_XKr hT
  unfold ms_near
  refine gm_bdT (mt_areSeen hX.1) (fun f_1 wl_2 r_3 hXf_1 h_3338594 => ?_)
  refine gm_if (fun c_3338595 => ?_) (fun c_3338595 => ?_)
  · have j_3338596 : gb_iv 0 0 r_3 := (gb_rU (lo := 0) (hi := 0) (gb_deq c_3338595) h_3338594.1 (gb_ic (a := 0) (by decide)) (by decide))
    exact gm_some ⟨hXf_1.1, (gb_iw (lo := (-1)) (hi := 255) (gb_ic (a := (-1)) (by decide)) (by decide))⟩
  · have j_3338597 : gb_iv 1 1 r_3 := (gb_rN (lo := 1) (hi := 1) (v := 0) c_3338595 h_3338594.1 (by decide) (by decide))
    refine gm_ck (gb_i29 hXf_1.1) (by decide) ?_
    refine gm_lti (lo := 0) (hi := 5) (gb_r29 hXf_1.1) (fun x_8 ex_8 ix_8 => ?_)
    refine gm_bdP mt_isIn (fun r_11 h_3338598 => ?_)
    refine gm_if (fun c_3338599 => ?_) (fun c_3338599 => ?_)
    · have j_3338600 : gb_iv 0 0 r_11 := (gb_rU (lo := 0) (hi := 0) (gb_deq c_3338599) h_3338598.1 (gb_ic (a := 0) (by decide)) (by decide))
      exact gm_some ⟨hXf_1.1, (gb_iw (lo := (-1)) (hi := 255) (gb_ic (a := (-1)) (by decide)) (by decide))⟩
    · have j_3338601 : gb_iv 1 1 r_11 := (gb_rN (lo := 1) (hi := 1) (v := 0) c_3338599 h_3338598.1 (by decide) (by decide))
      have j_3338602 : gb_iv 0 4 p3 := ((fun q_ => gb_iin (a := 0) (b := 0) (h_3338598.2 q_) (gb_ic (a := 0) (by decide)).1 (gb_isub (lo := (-1)) (hi := 4) ix_8 (gb_ic (a := 1) (by decide)) (by decide)).2) c_3338599)
      refine gm_bdP (mt_seenOf0 hXf_1.1 j_3338602) (fun r_17 h_3338603 => ?_)
      refine gm_bdP (mt_isPath hXf_1.1) (fun r_22 h_3338604 => ?_)
      refine gm_if (fun c_3338605 => ?_) (fun c_3338605 => ?_)
      · have j_3338606 : gb_iv 0 0 r_22 := (gb_rU (lo := 0) (hi := 0) (gb_deq c_3338605) h_3338604.1 (gb_ic (a := 0) (by decide)) (by decide))
        exact gm_some ⟨hXf_1.1, (gb_iw (lo := (-1)) (hi := 255) (gb_ic (a := (-1)) (by decide)) (by decide))⟩
      · have j_3338607 : gb_iv 1 1 r_22 := (gb_rN (lo := 1) (hi := 1) (v := 0) c_3338605 h_3338604.1 (by decide) (by decide))
        exact mt_near_52 hn (fun _ _ _ hX h => ⟨hX.1, h⟩) n _ _ _ _ _ _ hXf_1 j_3338602 (gb_iw (lo := (-1)) (hi := 255) (gb_ic (a := (-1)) (by decide)) (by decide)) (gb_iw (lo := (-2147483648)) (hi := 2147483647) (gb_ic (a := 0) (by decide)) (by decide)) (gb_iw (lo := 0) (hi := 256) (gb_ic (a := 0) (by decide)) (by decide)) (gb_fuu hn (gb_iw (lo := 0) (hi := 256) (gb_ic (a := 0) (by decide)) (by decide)) (by decide))
set_option maxHeartbeats 4000000 in
theorem mt_isPut_20 {n : Nat} (hn : gb_N ≤ n) {Q : gb_F → Int64 → Int32 → Prop} {f : gb_F} {w : Int64} (hX : gb_XK f f) (hret : ∀ (r : Int32), gb_iv 0 1 r → Q f w r) : ∀ (mm : Nat) (v1 : Int32) (v2 : Int32) (v3 : Int32) (v4 : Int32), gb_iv 0 255 v1 → gb_iv 0 2147483647 v2 → gb_iv 0 1 v3 → gb_iv 0 8 v4 → (8 - v4.toInt).toNat < mm → gb_tm (ms_isPut_20 n mm f w v1 v2 v3 v4) Q := by
  intro mm
  induction mm with
  | zero =>
    intro v1 v2 v3 v4 iv1 iv2 iv3 iv4 hm
    exact absurd hm (Nat.not_lt_zero _)
  | succ mm ih =>
    intro v1 v2 v3 v4 iv1 iv2 iv3 iv4 hm
    rw [ms_isPut_20]
    refine gm_bdP (mt_geese hX.1) (fun r_10 h_3350928 => ?_)
    refine gm_if (fun c_3350929 => ?_) (fun c_3350929 => ?_)
    · refine gm_cb iv3 ?_
      exact gm_some (hret _ iv3)
    · have j_3350930 : gb_iv 0 7 v4 := (gb_rU (lo := 0) (hi := 7) (gb_dnle c_3350929) iv4 h_3350928 (by decide))
      have j_3350931 : gb_iv 1 8 r_10 := (gb_rL (lo := 1) (hi := 8) (gb_dnle c_3350929) h_3350928 j_3350930 (by decide))
      refine gm_if (fun c_3350932 => ?_) (fun c_3350932 => ?_)
      · have j_3350933 : gb_iv 0 0 v3 := (gb_rU (lo := 0) (hi := 0) (gb_deq c_3350932) iv3 (gb_ic (a := 0) (by decide)) (by decide))
        refine gm_if (fun c_3350934 => ?_) (fun c_3350934 => ?_)
        · have j_3350935 : gb_iv 1 1 ((v1 >>> (v4 &&& 31)) &&& 1) := (gb_rL (lo := 1) (hi := 1) (gb_deq2 c_3350934) (gb_iandr (lo := 0) (hi := 1) (gb_iw (lo := 0) (hi := 1) (gb_ic (a := 1) (by decide)) (by decide)) (by decide)) (gb_ic (a := 1) (by decide)) (by decide))
          refine gm_bdP (mt_paths hX.1) (fun r_21 h_3350936 => ?_)
          refine gm_if (fun c_3350937 => ?_) (fun c_3350937 => ?_)
          · refine gm_lti (lo := 1) (hi := 8) (gb_iadd (lo := 1) (hi := 8) j_3350930 (gb_ic (a := 1) (by decide)) (by decide)) (fun x_25 ex_25 ix_25 => ?_)
            exact ih _ _ _ _ iv1 iv2 (gb_iw (lo := 0) (hi := 1) (gb_ic (a := 0) (by decide)) (by decide)) (gb_iw (lo := 0) (hi := 8) ix_25 (by decide)) (gb_mup ex_25 j_3350930 (by decide) hm)
          · have j_3350938 : gb_iv 0 4 v2 := (gb_rU (lo := 0) (hi := 4) (gb_dnle c_3350937) iv2 h_3350936.1 (by decide))
            have j_3350939 : gb_iv 1 5 r_21 := (gb_rL (lo := 1) (hi := 5) (gb_dnle c_3350937) h_3350936.1 j_3350938 (by decide))
            have hF_3350940 := (gb_PPy hX (h_3350936.2 j_3350939.1))
            refine gm_ck (gb_iand (lo := 0) (hi := 255) iv1 (by decide)) (by decide) ?_
            refine gm_lti (lo := (-2147483648)) (hi := 2147483647) (gb_it _) (fun x_27 ex_27 ix_27 => ?_)
            refine gm_if (fun c_3350941 => ?_) (fun c_3350941 => ?_)
            · have j_3350942 : gb_iv (-2147483648) 0 x_27 := (gb_rU (lo := (-2147483648)) (hi := 0) (gb_deq c_3350941) (gb_it _) (gb_ic (a := 0) (by decide)) (by decide))
              have j_3350943 : gb_iv 0 0 x_27 := (gb_rL (lo := 0) (hi := 0) (gb_deq2 c_3350941) j_3350942 (gb_ic (a := 0) (by decide)) (by decide))
              refine gm_lti (lo := 1) (hi := 8) (gb_iadd (lo := 1) (hi := 8) j_3350930 (gb_ic (a := 1) (by decide)) (by decide)) (fun x_29 ex_29 ix_29 => ?_)
              exact ih _ _ _ _ iv1 (gb_iw (lo := 0) (hi := 2147483647) j_3350938 (by decide)) (gb_iw (lo := 0) (hi := 1) (gb_ic (a := 0) (by decide)) (by decide)) (gb_iw (lo := 0) (hi := 8) ix_29 (by decide)) (gb_mup ex_29 j_3350930 (by decide) hm)
            · refine gm_bdP (mt_ofPath hn hX.1 (gb_iw (lo := 0) (hi := 100) j_3350938 (by decide)) (gb_iw (lo := 0) (hi := 2) (gb_ic (a := 1) (by decide)) (by decide))) (fun r_32 h_3350944 => ?_)
              refine gm_bdP (mt_firstMarks hn hX.1 j_3350930 (gb_iw (lo := 0) (hi := 100) j_3350938 (by decide))) (fun r_37 h_3350945 => ?_)
              refine gm_if (fun c_3350946 => ?_) (fun c_3350946 => ?_)
              · have j_3350947 : gb_iv (-2147483648) 0 (r_32 * r_37) := (gb_rU (lo := (-2147483648)) (hi := 0) (gb_dle c_3350946) (gb_it _) (gb_ic (a := 0) (by decide)) (by decide))
                refine gm_lti (lo := 1) (hi := 8) (gb_iadd (lo := 1) (hi := 8) j_3350930 (gb_ic (a := 1) (by decide)) (by decide)) (fun x_41 ex_41 ix_41 => ?_)
                exact ih _ _ _ _ iv1 (gb_iw (lo := 0) (hi := 2147483647) j_3350938 (by decide)) (gb_iw (lo := 0) (hi := 1) (gb_ic (a := 0) (by decide)) (by decide)) (gb_iw (lo := 0) (hi := 8) ix_41 (by decide)) (gb_mup ex_41 j_3350930 (by decide) hm)
              · have j_3350948 : gb_iv 1 2147483647 (r_32 * r_37) := (gb_rL (lo := 1) (hi := 2147483647) (gb_dnle c_3350946) (gb_it _) (gb_ic (a := 0) (by decide)) (by decide))
                refine gm_lti (lo := 1) (hi := 8) (gb_iadd (lo := 1) (hi := 8) j_3350930 (gb_ic (a := 1) (by decide)) (by decide)) (fun x_42 ex_42 ix_42 => ?_)
                exact ih _ _ _ _ iv1 (gb_iw (lo := 0) (hi := 2147483647) j_3350938 (by decide)) (gb_iw (lo := 0) (hi := 1) (gb_ic (a := 1) (by decide)) (by decide)) (gb_iw (lo := 0) (hi := 8) ix_42 (by decide)) (gb_mup ex_42 j_3350930 (by decide) hm)
        · have j_3350949 : gb_iv 0 0 ((v1 >>> (v4 &&& 31)) &&& 1) := (gb_rN (lo := 0) (hi := 0) (v := 1) c_3350934 (gb_iandr (lo := 0) (hi := 1) (gb_iw (lo := 0) (hi := 1) (gb_ic (a := 1) (by decide)) (by decide)) (by decide)) (by decide) (by decide))
          refine gm_lti (lo := 1) (hi := 8) (gb_iadd (lo := 1) (hi := 8) j_3350930 (gb_ic (a := 1) (by decide)) (by decide)) (fun x_18 ex_18 ix_18 => ?_)
          exact ih _ _ _ _ iv1 iv2 (gb_iw (lo := 0) (hi := 1) (gb_ic (a := 0) (by decide)) (by decide)) (gb_iw (lo := 0) (hi := 8) ix_18 (by decide)) (gb_mup ex_18 j_3350930 (by decide) hm)
      · have j_3350950 : gb_iv 1 1 v3 := (gb_rN (lo := 1) (hi := 1) (v := 0) c_3350932 iv3 (by decide) (by decide))
        refine gm_lti (lo := 1) (hi := 8) (gb_iadd (lo := 1) (hi := 8) j_3350930 (gb_ic (a := 1) (by decide)) (by decide)) (fun x_16 ex_16 ix_16 => ?_)
        exact ih _ _ _ _ iv1 iv2 (gb_iw (lo := 0) (hi := 1) (gb_ic (a := 1) (by decide)) (by decide)) (gb_iw (lo := 0) (hi := 8) ix_16 (by decide)) (gb_mup ex_16 j_3350930 (by decide) hm)
set_option maxHeartbeats 4000000 in
theorem mt_isPut_20_i1 {n : Nat} (hn : gb_N ≤ n) {Q : gb_F → Int64 → Int32 → Prop} {f : gb_F} {w : Int64} (hX : gb_XK f f) (hret : ∀ (r : Int32), gb_iv 0 1 r → Q f w r) : ∀ (mm : Nat) (v1 : Int32) (v2 : Int32) (v3 : Int32) (v4 : Int32), gb_iv 0 255 v1 → gb_iv (-2147483648) (-1) v2 → gb_iv 1 1 v3 → gb_iv 0 8 v4 → (8 - v4.toInt).toNat < mm → gb_tm (ms_isPut_20 n mm f w v1 v2 v3 v4) Q := by
  intro mm
  induction mm with
  | zero =>
    intro v1 v2 v3 v4 iv1 iv2 iv3 iv4 hm
    exact absurd hm (Nat.not_lt_zero _)
  | succ mm ih =>
    intro v1 v2 v3 v4 iv1 iv2 iv3 iv4 hm
    rw [ms_isPut_20]
    refine gm_bdP (mt_geese hX.1) (fun r_10 h_3351027 => ?_)
    refine gm_if (fun c_3351028 => ?_) (fun c_3351028 => ?_)
    · refine gm_cb (gb_iw (lo := 0) (hi := 1) iv3 (by decide)) ?_
      exact gm_some (hret _ (gb_iw (lo := 0) (hi := 1) iv3 (by decide)))
    · have j_3351029 : gb_iv 0 7 v4 := (gb_rU (lo := 0) (hi := 7) (gb_dnle c_3351028) iv4 h_3351027 (by decide))
      have j_3351030 : gb_iv 1 8 r_10 := (gb_rL (lo := 1) (hi := 8) (gb_dnle c_3351028) h_3351027 j_3351029 (by decide))
      refine gm_if (fun c_3351031 => ?_) (fun c_3351031 => ?_)
      · exact (gb_em (gb_rU (lo := 1) (hi := 0) (gb_deq c_3351031) iv3 (gb_ic (a := 0) (by decide)) (by decide)) (by decide)).elim
      · refine gm_lti (lo := 1) (hi := 8) (gb_iadd (lo := 1) (hi := 8) j_3351029 (gb_ic (a := 1) (by decide)) (by decide)) (fun x_16 ex_16 ix_16 => ?_)
        exact ih _ _ _ _ iv1 iv2 (gb_ic (a := 1) (by decide)) (gb_iw (lo := 0) (hi := 8) ix_16 (by decide)) (gb_mup ex_16 j_3351029 (by decide) hm)
set_option maxHeartbeats 4000000 in
theorem mt_isPut {n : Nat} (hn : gb_N ≤ n) {f : gb_F} {w : Int64} {p1 : Int32} (hT : gb_TM f) (ip1 : gb_iv 0 255 p1) : gb_tm (ms_isPut n f w p1) (fun f2 w2 r => f2 = f ∧ w2 = w ∧ gb_iv 0 1 r) := by
  have hX := gb_XKr hT
  unfold ms_isPut
  refine gm_bdP (mt_bits hn hX.1) (fun r_3 h_3350582 => ?_)
  refine gm_lti (lo := (-2147483648)) (hi := 2147483647) (gb_it _) (fun x_6 ex_6 ix_6 => ?_)
  refine gm_if (fun c_3350583 => ?_) (fun c_3350583 => ?_)
  · have j_3350584 : gb_iv 0 2147483647 x_6 := (gb_rL (lo := 0) (hi := 2147483647) (gb_dle c_3350583) (gb_it _) (gb_ic (a := 0) (by decide)) (by decide))
    exact mt_isPut_20 hn hX (fun _ h => ⟨rfl, rfl, h⟩) n _ _ _ _ ip1 j_3350584 (gb_iw (lo := 0) (hi := 1) (gb_ic (a := 0) (by decide)) (by decide)) (gb_iw (lo := 0) (hi := 8) (gb_ic (a := 0) (by decide)) (by decide)) (gb_fuu hn (gb_iw (lo := 0) (hi := 8) (gb_ic (a := 0) (by decide)) (by decide)) (by decide))
  · have j_3350951 : gb_iv (-2147483648) (-1) x_6 := (gb_rU (lo := (-2147483648)) (hi := (-1)) (gb_dnle c_3350583) (gb_it _) (gb_ic (a := 0) (by decide)) (by decide))
    exact mt_isPut_20_i1 hn hX (fun _ h => ⟨rfl, rfl, h⟩) n _ _ _ _ ip1 j_3350951 (gb_ic (a := 1) (by decide)) (gb_iw (lo := 0) (hi := 8) (gb_ic (a := 0) (by decide)) (by decide)) (gb_fuu hn (gb_iw (lo := 0) (hi := 8) (gb_ic (a := 0) (by decide)) (by decide)) (by decide))
set_option maxHeartbeats 4000000 in
theorem mt_thrift_12 {n : Nat} (hn : gb_N ≤ n) {Q : gb_F → Int64 → Int32 → Prop} {f0 : gb_F} (hret : ∀ (f : gb_F) (w : Int64) (r : Int32), gb_XK f0 f → gb_iv (-1) 255 r → Q f w r) : ∀ (mm : Nat) (f : gb_F) (w : Int64) (v2 : Int32), gb_XK f0 f → gb_iv 0 256 v2 → (256 - v2.toInt).toNat < mm → gb_tm (ms_thrift_12 n mm f w v2) Q := by
  intro mm
  induction mm with
  | zero =>
    intro f w v2 hX iv2 hm
    exact absurd hm (Nat.not_lt_zero _)
  | succ mm ih =>
    intro f w v2 hX iv2 hm
    rw [ms_thrift_12]
    refine gm_bdP (mt_geese hX.1) (fun r_9 h_3351842 => ?_)
    refine gm_if (fun c_3351843 => ?_) (fun c_3351843 => ?_)
    · have j_3351844 : gb_iv 1 256 v2 := (gb_rL (lo := 1) (hi := 256) (gb_dle c_3351843) iv2 (gb_ishl (lo := 1) (hi := 256) h_3351842 (by decide)) (by decide))
      exact gm_some (hret _ _ _ hX (gb_iw (lo := (-1)) (hi := 255) (gb_ic (a := (-1)) (by decide)) (by decide)))
    · have j_3351845 : gb_iv 0 255 v2 := (gb_rU (lo := 0) (hi := 255) (gb_dnle c_3351843) iv2 (gb_ishl (lo := 1) (hi := 256) h_3351842 (by decide)) (by decide))
      refine gm_bdP (mt_isPut hn hX.1 j_3351845) (fun r_15 h_3351846 => ?_)
      refine gm_ck j_3351845 (by decide) ?_
      refine gm_ltf (gb_XKu hX rfl) (fun f_19 ef_19 hXf_19 => ?_)
      refine gm_ck j_3351845 (by decide) ?_
      refine gm_lti (lo := (-2147483648)) (hi := 2147483647) (gb_it _) (fun x_21 ex_21 ix_21 => ?_)
      refine gm_if (fun c_3351847 => ?_) (fun c_3351847 => ?_)
      · have j_3351848 : gb_iv (-2147483648) 0 x_21 := (gb_rU (lo := (-2147483648)) (hi := 0) (gb_deq c_3351847) (gb_it _) (gb_ic (a := 0) (by decide)) (by decide))
        have j_3351849 : gb_iv 0 0 x_21 := (gb_rL (lo := 0) (hi := 0) (gb_deq2 c_3351847) j_3351848 (gb_ic (a := 0) (by decide)) (by decide))
        refine gm_lti (lo := 1) (hi := 256) (gb_iadd (lo := 1) (hi := 256) j_3351845 (gb_ic (a := 1) (by decide)) (by decide)) (fun x_23 ex_23 ix_23 => ?_)
        exact ih _ _ _ hXf_19 (gb_iw (lo := 0) (hi := 256) ix_23 (by decide)) (gb_mup ex_23 j_3351845 (by decide) hm)
      · refine gm_bdP (mt_bits hn hXf_19.1) (fun r_26 h_3351850 => ?_)
        refine gm_bdP (mt_paths hXf_19.1) (fun r_31 h_3351851 => ?_)
        refine gm_if (fun c_3351852 => ?_) (fun c_3351852 => ?_)
        · have j_3351853 : gb_iv (-2147483648) 5 r_26 := (gb_rU (lo := (-2147483648)) (hi := 5) (gb_deq c_3351852) (gb_it _) h_3351851.1 (by decide))
          have j_3351854 : gb_iv 0 5 r_26 := (gb_rL (lo := 0) (hi := 5) (gb_deq2 c_3351852) j_3351853 h_3351851.1 (by decide))
          exact gm_some (hret _ _ _ hXf_19 (gb_iw (lo := (-1)) (hi := 255) j_3351845 (by decide)))
        · refine gm_lti (lo := 1) (hi := 256) (gb_iadd (lo := 1) (hi := 256) j_3351845 (gb_ic (a := 1) (by decide)) (by decide)) (fun x_35 ex_35 ix_35 => ?_)
          exact ih _ _ _ hXf_19 (gb_iw (lo := 0) (hi := 256) ix_35 (by decide)) (gb_mup ex_35 j_3351845 (by decide) hm)
set_option maxHeartbeats 4000000 in
theorem mt_thrift {n : Nat} (hn : gb_N ≤ n) {f : gb_F} {w : Int64} {p1 : Int32} (hT : gb_TM f) : gb_tm (ms_thrift n f w p1) (fun f2 _ r => gb_TM f2 ∧ gb_iv (-1) 255 r) := by
  have hX := gb_XKr hT
  unfold ms_thrift
  refine gm_bdT (mt_isBorder hX.1) (fun f_1 wl_2 r_3 hXf_1 h_3351437 => ?_)
  refine gm_if (fun c_3351438 => ?_) (fun c_3351438 => ?_)
  · have j_3351439 : gb_iv 0 0 r_3 := (gb_rU (lo := 0) (hi := 0) (gb_deq c_3351438) h_3351437.1 (gb_ic (a := 0) (by decide)) (by decide))
    exact gm_some ⟨hXf_1.1, (gb_iw (lo := (-1)) (hi := 255) (gb_ic (a := (-1)) (by decide)) (by decide))⟩
  · have j_3351440 : gb_iv 1 1 r_3 := (gb_rN (lo := 1) (hi := 1) (v := 0) c_3351438 h_3351437.1 (by decide) (by decide))
    exact mt_thrift_12 hn (fun _ _ _ hX h => ⟨hX.1, h⟩) n _ _ _ hXf_1 (gb_iw (lo := 0) (hi := 256) (gb_ic (a := 0) (by decide)) (by decide)) (gb_fuu hn (gb_iw (lo := 0) (hi := 256) (gb_ic (a := 0) (by decide)) (by decide)) (by decide))
set_option maxHeartbeats 4000000 in
theorem mt_fault {n : Nat} (hn : gb_N ≤ n) {f : gb_F} {w : Int64} {p1 : Int32} (hT : gb_TM f) : gb_tm (ms_fault n f w p1) (fun f2 w2 r => f2 = f ∧ w2 = w ∧ gb_iv (-2147483648) 2147483647 r) := by
  have hX := gb_XKr hT
  unfold ms_fault
  refine gm_if (fun c_3351861 => ?_) (fun c_3351861 => ?_)
  · have j_3351862 : gb_iv (-2147483648) 0 p1 := (gb_rU (lo := (-2147483648)) (hi := 0) (gb_deq c_3351861) (gb_it _) (gb_ic (a := 0) (by decide)) (by decide))
    have j_3351863 : gb_iv 0 0 p1 := (gb_rL (lo := 0) (hi := 0) (gb_deq2 c_3351861) j_3351862 (gb_ic (a := 0) (by decide)) (by decide))
    refine gm_lti (lo := (-2147483648)) (hi := 2147483647) (gb_it _) (fun x_4 ex_4 ix_4 => ?_)
    exact gm_some ⟨rfl, rfl, (gb_it _)⟩
  · refine gm_if (fun c_3351864 => ?_) (fun c_3351864 => ?_)
    · have j_3351865 : gb_iv (-2147483648) 1 p1 := (gb_rU (lo := (-2147483648)) (hi := 1) (gb_deq c_3351864) (gb_it _) (gb_ic (a := 1) (by decide)) (by decide))
      have j_3351866 : gb_iv 1 1 p1 := (gb_rL (lo := 1) (hi := 1) (gb_deq2 c_3351864) j_3351865 (gb_ic (a := 1) (by decide)) (by decide))
      refine gm_lti (lo := (-2147483648)) (hi := 2147483647) (gb_it _) (fun x_3 ex_3 ix_3 => ?_)
      exact gm_some ⟨rfl, rfl, (gb_it _)⟩
    · exact gm_some ⟨rfl, rfl, (gb_iw (lo := (-2147483648)) (hi := 2147483647) (gb_ic (a := (-1)) (by decide)) (by decide))⟩
set_option maxHeartbeats 4000000 in
theorem mt_count {n : Nat} (hn : gb_N ≤ n) {f : gb_F} {w : Int64} {p1 : Int32} (hT : gb_TM f) : gb_tm (ms_count n f w p1) (fun f2 w2 r => f2 = f ∧ w2 = w ∧ gb_iv (-2147483648) 2147483647 r) := by
  have hX := gb_XKr hT
  unfold ms_count
  refine gm_bdP mt_isIn (fun r_3 h_3351872 => ?_)
  refine gm_if (fun c_3351873 => ?_) (fun c_3351873 => ?_)
  · have j_3351874 : gb_iv 0 0 r_3 := (gb_rU (lo := 0) (hi := 0) (gb_deq c_3351873) h_3351872.1 (gb_ic (a := 0) (by decide)) (by decide))
    exact gm_some ⟨rfl, rfl, (gb_iw (lo := (-2147483648)) (hi := 2147483647) (gb_ic (a := (-2)) (by decide)) (by decide))⟩
  · have j_3351875 : gb_iv 1 1 r_3 := (gb_rN (lo := 1) (hi := 1) (v := 0) c_3351873 h_3351872.1 (by decide) (by decide))
    have j_3351876 : gb_iv 0 3 p1 := ((fun q_ => gb_iin (a := 0) (b := 0) (h_3351872.2 q_) (gb_ic (a := 0) (by decide)).1 (gb_ic (a := 3) (by decide)).2) c_3351873)
    refine gm_ck j_3351876 (by decide) ?_
    refine gm_lti (lo := (-2147483648)) (hi := 2147483647) (gb_it _) (fun x_8 ex_8 ix_8 => ?_)
    exact gm_some ⟨rfl, rfl, (gb_it _)⟩
