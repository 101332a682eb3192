def gb_XJ (f0 f : gb_F) : Prop := gb_TM f ∧ gb_KM f0 f ∧ f 0 23 = f0 0 23
theorem gb_XJr {f : gb_F} (h : gb_TM f) : gb_XJ f f := ⟨h, (gb_XKr h).2, rfl⟩
theorem gb_XJk {f0 f : gb_F} (h : gb_XJ f0 f) : gb_XK f0 f := ⟨h.1, h.2.1⟩
theorem gb_XJt {f0 f f2 : gb_F} (h : gb_XJ f0 f) (g : gb_XJ f f2) : gb_XJ f0 f2 := ⟨g.1, (gb_XKt (gb_XJk h) (gb_XJk g)).2, g.2.2.trans h.2.2⟩
theorem gb_XJu {f0 f : gb_F} {k : Nat} {F : Nat → Int32} (h : gb_XJ f0 f) (hk : Nat.ble 2 k = true) : gb_XJ f0 (gb_u f k F) := by
  have h2 := Nat.le_of_ble_eq_true hk
  have e0 : gb_u f k F 0 = f 0 := if_neg (by omega)
  have := gb_XKu (F := F) (gb_XJk h) hk
  exact ⟨this.1, this.2, by rw [e0]; exact h.2.2⟩
theorem gb_XJf {f0 f : gb_F} {j : Nat} {v : Int32} (h : gb_XJ f0 f) (hj : gb_fj j = true) : gb_XJ f0 (gb_u f 0 (upd (f 0) j v)) := by
  have e0 : gb_u f 0 (upd (f 0) j v) 0 = upd (f 0) j v := if_pos rfl
  have hn : 23 ≠ j := by
    intro e
    subst e
    cases hj
  have := gb_XKf (v := v) (gb_XJk h) hj
  exact ⟨this.1, this.2, by rw [e0, pk_un hn]; exact h.2.2⟩
theorem gm_bdJ {ρ τ : Type} {x : gb_MR ρ} {k : gb_F → Int64 → ρ → gb_MR τ} {f0 f : gb_F} {R : ρ → Prop} {Q : gb_F → Int64 → τ → Prop} (hX : gb_XJ f0 f) (h : gb_tm x (fun f2 _ r => gb_XJ f f2 ∧ R r)) (H : ∀ f2 w r, gb_XJ f0 f2 → R r → gb_tm (k f2 w r) Q) : gb_tm (gb_bd x k) Q := by
  obtain ⟨f2, w, r, e, hf, hp⟩ := h
  rw [e]
  exact H f2 w r (gb_XJt hX hf) hp
theorem gm_ltj {ρ : Type} {f0 v : gb_F} {k : gb_F → gb_MR ρ} {Q : gb_F → Int64 → ρ → Prop} (h : gb_XJ f0 v) (H : ∀ f, f = v → gb_XJ f0 f → gb_tm (k f) Q) : gb_tm (gb_lt v k) Q := H v rfl h
set_option maxHeartbeats 4000000 in
theorem mj_walks_122 {n : Nat} (hn : gb_N ≤ n) {Q : gb_F → Int64 → Unit → Prop} {f0 : gb_F} (hret : ∀ (f : gb_F) (w : Int64) (r : Unit), gb_XJ f0 f → True → Q f w r) : ∀ (f : gb_F) (w : Int64) (v1 : Int32) (v2 : Int32) (v3 : Int32) (v5 : Int32), gb_XJ f0 f → gb_iv (-2147483648) 2147483647 v1 → gb_iv 0 7 v2 → gb_iv 0 4 v3 → gb_iv (-2147483648) 2147483647 v5 → gb_tm (ms_walks_122 n f w v1 v2 v3 v5) Q := by
  intro f w v1 v2 v3 v5 hX iv1 iv2 iv3 iv5
  unfold ms_walks_122
  refine gm_ck iv2 (by decide) ?_
  refine gm_ltj (gb_XJu hX rfl) (fun f_25 ef_25 hXf_25 => ?_)
  refine gm_ck iv2 (by decide) ?_
  refine gm_ltj (gb_XJu hXf_25 rfl) (fun f_27 ef_27 hXf_27 => ?_)
  refine gm_ck (gb_iadd (lo := 0) (hi := 39) (gb_imul (lo := 0) (hi := 35) (gb_ic (a := 5) (by decide)) iv2 (by decide)) iv3 (by decide)) (by decide) ?_
  refine gm_ltj (gb_XJu hXf_27 rfl) (fun f_29 ef_29 hXf_29 => ?_)
  exact gm_some (hret _ _ _ hXf_29 trivial)
set_option maxHeartbeats 4000000 in
theorem mj_walks_120 {n : Nat} (hn : gb_N ≤ n) {Q : gb_F → Int64 → Unit → Prop} {f0 : gb_F} (hret : ∀ (f : gb_F) (w : Int64) (r : Unit), gb_XJ f0 f → True → Q f w r) : ∀ (f : gb_F) (w : Int64) (v1 : Int32) (v2 : Int32) (v3 : Int32) (v5 : Int32) (t0 : Int32) (t1 : Int32) (t2 : Int32), gb_XJ f0 f → gb_iv (-2147483648) 2147483647 v1 → gb_iv 0 7 v2 → gb_iv 0 4 v3 → gb_iv (-2147483648) 2147483647 v5 → gb_iv 0 0 t0 → gb_iv (-2147483648) 2147483647 t1 → gb_iv 0 4 t2 → gb_tm (ms_walks_120 n f w v1 v2 v3 v5 t0 t1 t2) Q := by
  intro f w v1 v2 v3 v5 t0 t1 t2 hX iv1 iv2 iv3 iv5 it0 it1 it2
  unfold ms_walks_120
  refine gm_ck it2 (by decide) ?_
  refine gm_ltj (gb_XJu hX rfl) (fun f_43 ef_43 hXf_43 => ?_)
  exact mj_walks_122 hn hret _ _ _ _ _ _ hXf_43 (gb_it _) iv2 iv3 (gb_it _)
set_option maxHeartbeats 4000000 in
theorem mj_walks_100 {n : Nat} (hn : gb_N ≤ n) {Q : gb_F → Int64 → Unit → Prop} {f0 : gb_F} (hret : ∀ (f : gb_F) (w : Int64) (r : Unit), gb_XJ f0 f → True → Q f w r) : ∀ (f : gb_F) (w : Int64) (v1 : Int32) (v2 : Int32) (v3 : Int32) (v4 : Int32) (v5 : Int32) (v7 : Int32) (t0 : Int32) (t1 : Int32) (t2 : Int32), gb_XJ f0 f → gb_iv (-2147483648) 2147483647 v1 → gb_iv 0 7 v2 → gb_iv 0 4 v3 → gb_iv 0 0 v4 → gb_iv (-2147483648) 2147483647 v5 → gb_iv (-2147483648) 2147483647 v7 → gb_iv (-2147483648) 2147483647 t0 → gb_iv (-2147483648) 2147483647 t1 → gb_iv 0 4 t2 → gb_tm (ms_walks_100 n f w v1 v2 v3 v4 v5 v7 t0 t1 t2) Q := by
  intro f w v1 v2 v3 v4 v5 v7 t0 t1 t2 hX iv1 iv2 iv3 iv4 iv5 iv7 it0 it1 it2
  unfold ms_walks_100
  refine gm_ck it2 (by decide) ?_
  refine gm_ltj (gb_XJu hX rfl) (fun f_38 ef_38 hXf_38 => ?_)
  refine gm_ck iv3 (by decide) ?_
  refine gm_lti (lo := (-2147483648)) (hi := 2147483647) (gb_it _) (fun x_40 ex_40 ix_40 => ?_)
  refine gm_if (fun c_3351907 => ?_) (fun c_3351907 => ?_)
  · exact mj_walks_120 hn hret _ _ _ _ _ _ _ _ _ hXf_38 (gb_it _) iv2 iv3 (gb_it _) (gb_ic (a := 0) (by decide)) (gb_it _) iv3
  · exact (gb_em (gb_rN (lo := 1) (hi := (-1)) (v := 0) c_3351907 iv4 (by decide) (by decide)) (by decide)).elim
set_option maxHeartbeats 4000000 in
theorem mj_walks_120_i1 {n : Nat} (hn : gb_N ≤ n) {Q : gb_F → Int64 → Unit → Prop} {f0 : gb_F} (hret : ∀ (f : gb_F) (w : Int64) (r : Unit), gb_XJ f0 f → True → Q f w r) : ∀ (f : gb_F) (w : Int64) (v1 : Int32) (v2 : Int32) (v3 : Int32) (v5 : Int32) (t0 : Int32) (t1 : Int32) (t2 : Int32), gb_XJ f0 f → gb_iv (-2147483648) 2147483647 v1 → gb_iv 0 7 v2 → gb_iv 0 4 v3 → gb_iv (-2147483648) 2147483647 v5 → gb_iv (-2147483648) 2147483647 t0 → gb_iv (-2147483648) 2147483647 t1 → gb_iv 0 4 t2 → gb_tm (ms_walks_120 n f w v1 v2 v3 v5 t0 t1 t2) Q := by
  intro f w v1 v2 v3 v5 t0 t1 t2 hX iv1 iv2 iv3 iv5 it0 it1 it2
  unfold ms_walks_120
  refine gm_ck it2 (by decide) ?_
  refine gm_ltj (gb_XJu hX rfl) (fun f_43 ef_43 hXf_43 => ?_)
  exact mj_walks_122 hn hret _ _ _ _ _ _ hXf_43 (gb_it _) iv2 iv3 (gb_it _)
set_option maxHeartbeats 4000000 in
theorem mj_walks_100_i1 {n : Nat} (hn : gb_N ≤ n) {Q : gb_F → Int64 → Unit → Prop} {f0 : gb_F} (hret : ∀ (f : gb_F) (w : Int64) (r : Unit), gb_XJ f0 f → True → Q f w r) : ∀ (f : gb_F) (w : Int64) (v1 : Int32) (v2 : Int32) (v3 : Int32) (v4 : Int32) (v5 : Int32) (v7 : Int32) (t0 : Int32) (t1 : Int32) (t2 : Int32), gb_XJ f0 f → gb_iv (-2147483648) 2147483647 v1 → gb_iv 0 7 v2 → gb_iv 0 4 v3 → gb_iv (-2147483648) 2147483647 v4 → gb_iv (-2147483648) 2147483647 v5 → gb_iv (-2147483648) 2147483647 v7 → gb_iv 0 0 t0 → gb_iv (-2147483648) 2147483647 t1 → gb_iv 0 4 t2 → gb_tm (ms_walks_100 n f w v1 v2 v3 v4 v5 v7 t0 t1 t2) Q := by
  intro f w v1 v2 v3 v4 v5 v7 t0 t1 t2 hX iv1 iv2 iv3 iv4 iv5 iv7 it0 it1 it2
  unfold ms_walks_100
  refine gm_ck it2 (by decide) ?_
  refine gm_ltj (gb_XJu hX rfl) (fun f_38 ef_38 hXf_38 => ?_)
  refine gm_ck iv3 (by decide) ?_
  refine gm_lti (lo := (-2147483648)) (hi := 2147483647) (gb_it _) (fun x_40 ex_40 ix_40 => ?_)
  refine gm_if (fun c_3351908 => ?_) (fun c_3351908 => ?_)
  · have j_3351909 : gb_iv (-2147483648) 0 v4 := (gb_rU (lo := (-2147483648)) (hi := 0) (gb_deq c_3351908) (gb_it _) (gb_ic (a := 0) (by decide)) (by decide))
    have j_3351910 : gb_iv 0 0 v4 := (gb_rL (lo := 0) (hi := 0) (gb_deq2 c_3351908) j_3351909 (gb_ic (a := 0) (by decide)) (by decide))
    exact mj_walks_120 hn hret _ _ _ _ _ _ _ _ _ hXf_38 (gb_it _) iv2 iv3 (gb_it _) (gb_ic (a := 0) (by decide)) (gb_it _) iv3
  · exact mj_walks_120_i1 hn hret _ _ _ _ _ _ _ _ _ hXf_38 (gb_it _) iv2 iv3 (gb_it _) (gb_it _) (gb_it _) iv3
set_option maxHeartbeats 4000000 in
theorem mj_walks_62 {n : Nat} (hn : gb_N ≤ n) {Q : gb_F → Int64 → Unit → Prop} {f0 : gb_F} (hret : ∀ (f : gb_F) (w : Int64) (r : Unit), gb_XJ f0 f → True → Q f w r) : ∀ (f : gb_F) (w : Int64) (v1 : Int32) (v2 : Int32) (v3 : Int32) (v4 : Int32) (v5 : Int32) (v7 : Int32) (t0 : Int32) (t1 : Int32), gb_XJ f0 f → gb_iv (-2147483648) 2147483647 v1 → gb_iv 0 7 v2 → gb_iv 0 4 v3 → gb_iv (-2147483648) 2147483647 v4 → gb_iv (-2147483648) 2147483647 v5 → gb_iv (-2147483648) 2147483647 v7 → gb_iv 0 0 t0 → gb_iv 0 7 t1 → gb_tm (ms_walks_62 n f w v1 v2 v3 v4 v5 v7 t0 t1) Q := by
  intro f w v1 v2 v3 v4 v5 v7 t0 t1 hX iv1 iv2 iv3 iv4 iv5 iv7 it0 it1
  unfold ms_walks_62
  refine gm_ck it1 (by decide) ?_
  refine gm_ltj (gb_XJu hX rfl) (fun f_22 ef_22 hXf_22 => ?_)
  refine gm_if (fun c_3351903 => ?_) (fun c_3351903 => ?_)
  · exact mj_walks_122 hn hret _ _ _ _ _ _ hXf_22 (gb_it _) iv2 iv3 (gb_it _)
  · refine gm_ck iv2 (by decide) ?_
    refine gm_lti (lo := (-2147483648)) (hi := 2147483647) (gb_it _) (fun x_31 ex_31 ix_31 => ?_)
    refine gm_ck iv2 (by decide) ?_
    refine gm_ltj (gb_XJu hXf_22 rfl) (fun f_33 ef_33 hXf_33 => ?_)
    refine gm_ck iv3 (by decide) ?_
    refine gm_lti (lo := (-2147483648)) (hi := 2147483647) (gb_it _) (fun x_35 ex_35 ix_35 => ?_)
    refine gm_if (fun c_3351904 => ?_) (fun c_3351904 => ?_)
    · have j_3351905 : gb_iv (-2147483648) 0 v4 := (gb_rU (lo := (-2147483648)) (hi := 0) (gb_deq c_3351904) (gb_it _) (gb_ic (a := 0) (by decide)) (by decide))
      have j_3351906 : gb_iv 0 0 v4 := (gb_rL (lo := 0) (hi := 0) (gb_deq2 c_3351904) j_3351905 (gb_ic (a := 0) (by decide)) (by decide))
      exact mj_walks_100 hn hret _ _ _ _ _ _ _ _ _ _ _ hXf_33 (gb_it _) iv2 iv3 j_3351906 (gb_it _) (gb_it _) (gb_it _) (gb_it _) iv3
    · exact mj_walks_100_i1 hn hret _ _ _ _ _ _ _ _ _ _ _ hXf_33 (gb_it _) iv2 iv3 (gb_it _) (gb_it _) (gb_it _) (gb_ic (a := 0) (by decide)) (gb_it _) iv3
set_option maxHeartbeats 4000000 in
theorem mj_walks_62_i1 {n : Nat} (hn : gb_N ≤ n) {Q : gb_F → Int64 → Unit → Prop} {f0 : gb_F} (hret : ∀ (f : gb_F) (w : Int64) (r : Unit), gb_XJ f0 f → True → Q f w r) : ∀ (f : gb_F) (w : Int64) (v1 : Int32) (v2 : Int32) (v3 : Int32) (v4 : Int32) (v5 : Int32) (v7 : Int32) (t0 : Int32) (t1 : Int32), gb_XJ f0 f → gb_iv (-2147483648) 2147483647 v1 → gb_iv 0 7 v2 → gb_iv 0 4 v3 → gb_iv (-2147483648) 2147483647 v4 → gb_iv (-2147483648) 2147483647 v5 → gb_iv (-2147483648) 2147483647 v7 → gb_iv (-2147483648) 2147483647 t0 → gb_iv 0 7 t1 → gb_tm (ms_walks_62 n f w v1 v2 v3 v4 v5 v7 t0 t1) Q := by
  intro f w v1 v2 v3 v4 v5 v7 t0 t1 hX iv1 iv2 iv3 iv4 iv5 iv7 it0 it1
  unfold ms_walks_62
  refine gm_ck it1 (by decide) ?_
  refine gm_ltj (gb_XJu hX rfl) (fun f_22 ef_22 hXf_22 => ?_)
  refine gm_if (fun c_3351913 => ?_) (fun c_3351913 => ?_)
  · exact mj_walks_122 hn hret _ _ _ _ _ _ hXf_22 (gb_it _) iv2 iv3 (gb_it _)
  · refine gm_ck iv2 (by decide) ?_
    refine gm_lti (lo := (-2147483648)) (hi := 2147483647) (gb_it _) (fun x_31 ex_31 ix_31 => ?_)
    refine gm_ck iv2 (by decide) ?_
    refine gm_ltj (gb_XJu hXf_22 rfl) (fun f_33 ef_33 hXf_33 => ?_)
    refine gm_ck iv3 (by decide) ?_
    refine gm_lti (lo := (-2147483648)) (hi := 2147483647) (gb_it _) (fun x_35 ex_35 ix_35 => ?_)
    refine gm_if (fun c_3351914 => ?_) (fun c_3351914 => ?_)
    · have j_3351915 : gb_iv (-2147483648) 0 v4 := (gb_rU (lo := (-2147483648)) (hi := 0) (gb_deq c_3351914) (gb_it _) (gb_ic (a := 0) (by decide)) (by decide))
      have j_3351916 : gb_iv 0 0 v4 := (gb_rL (lo := 0) (hi := 0) (gb_deq2 c_3351914) j_3351915 (gb_ic (a := 0) (by decide)) (by decide))
      exact mj_walks_100 hn hret _ _ _ _ _ _ _ _ _ _ _ hXf_33 (gb_it _) iv2 iv3 j_3351916 (gb_it _) (gb_it _) (gb_it _) (gb_it _) iv3
    · exact mj_walks_100_i1 hn hret _ _ _ _ _ _ _ _ _ _ _ hXf_33 (gb_it _) iv2 iv3 (gb_it _) (gb_it _) (gb_it _) (gb_ic (a := 0) (by decide)) (gb_it _) iv3
set_option maxHeartbeats 4000000 in
theorem mj_walks {n : Nat} (hn : gb_N ≤ n) {f : gb_F} {w : Int64} {p1 : Int32} {p2 : Int32} {p3 : Int32} {p4 : Int32} {p5 : Int32} (hT : gb_TM f) (ip2 : gb_iv 0 7 p2) (ip3 : gb_iv 0 4 p3) : gb_tm (ms_walks n f w p1 p2 p3 p4 p5) (fun f2 _ _ => gb_XJ f f2 ∧ True) := by
  have hX := gb_XJr hT
  unfold ms_walks
  refine gm_bdP (mt_ofPath hn hX.1 (gb_iw (lo := 0) (hi := 100) ip3 (by decide)) (gb_iw (lo := 0) (hi := 2) (gb_ic (a := 0) (by decide)) (by decide))) (fun r_3 h_3351899 => ?_)
  refine gm_ck ip2 (by decide) ?_
  refine gm_lti (lo := (-2147483648)) (hi := 2147483647) (gb_it _) (fun x_7 ex_7 ix_7 => ?_)
  refine gm_bdP (mt_ofGoose hn hX.1 (gb_iw (lo := 0) (hi := 70) ip2 (by decide)) (gb_iw (lo := 0) (hi := 4) (gb_ic (a := 3) (by decide)) (by decide))) (fun r_10 h_3351900 => ?_)
  refine gm_bdP (mt_left hn hX.1 ip2) (fun r_15 h_3351901 => ?_)
  refine gm_ck ip2 (by decide) ?_
  refine gm_lti (lo := (-2147483648)) (hi := 2147483647) (gb_it _) (fun x_19 ex_19 ix_19 => ?_)
  refine gm_if (fun c_3351902 => ?_) (fun c_3351902 => ?_)
  · exact mj_walks_62 hn (fun _ _ _ hX h => ⟨hX, h⟩) _ _ _ _ _ _ _ _ _ _ hX (gb_it _) ip2 ip3 (gb_it _) (gb_it _) (gb_it _) (gb_ic (a := 0) (by decide)) ip2
  · have j_3351911 : gb_iv (-2147483648) 2147483646 r_3 := (gb_rU (lo := (-2147483648)) (hi := 2147483646) (gb_dnle c_3351902) (gb_it _) (gb_it _) (by decide))
    have j_3351912 : gb_iv (-2147483647) 2147483647 x_19 := (gb_rL (lo := (-2147483647)) (hi := 2147483647) (gb_dnle c_3351902) (gb_it _) j_3351911 (by decide))
    refine gm_ck ip2 (by decide) ?_
    refine gm_lti (lo := (-2147483648)) (hi := 2147483647) (gb_it _) (fun x_45 ex_45 ix_45 => ?_)
    exact mj_walks_62_i1 hn (fun _ _ _ hX h => ⟨hX, h⟩) _ _ _ _ _ _ _ _ _ _ hX (gb_it _) ip2 ip3 (gb_it _) (gb_it _) (gb_it _) (gb_it _) ip2
set_option maxHeartbeats 4000000 in
theorem mj_rains_2 {n : Nat} (hn : gb_N ≤ n) {Q : gb_F → Int64 → Unit → Prop} {f0 : gb_F} (hret : ∀ (f : gb_F) (w : Int64) (r : Unit), gb_XJ f0 f → True → Q f w r) : ∀ (mm : Nat) (f : gb_F) (w : Int64) (v1 : Int32) (v2 : Int32), gb_XJ f0 f → gb_iv (-2147483648) 2147483647 v1 → gb_iv 0 5 v2 → (5 - v2.toInt).toNat < mm → gb_tm (ms_rains_2 n mm f w v1 v2) Q := by
  intro mm
  induction mm with
  | zero =>
    intro f w v1 v2 hX iv1 iv2 hm
    exact absurd hm (Nat.not_lt_zero _)
  | succ mm ih =>
    intro f w v1 v2 hX iv1 iv2 hm
    rw [ms_rains_2]
    refine gm_bdP (mt_paths hX.1) (fun r_3 h_3352047 => ?_)
    refine gm_if (fun c_3352048 => ?_) (fun c_3352048 => ?_)
    · exact gm_some (hret _ _ _ hX trivial)
    · have j_3352049 : gb_iv 0 4 v2 := (gb_rU (lo := 0) (hi := 4) (gb_dnle c_3352048) iv2 h_3352047.1 (by decide))
      have j_3352050 : gb_iv 1 5 r_3 := (gb_rL (lo := 1) (hi := 5) (gb_dnle c_3352048) h_3352047.1 j_3352049 (by decide))
      have hF_3352051 := (gb_PPy (gb_XJk hX) (h_3352047.2 j_3352050.1))
      refine gm_ck j_3352049 (by decide) ?_
      refine gm_lti (lo := (-2147483648)) (hi := 2147483647) (gb_it _) (fun x_8 ex_8 ix_8 => ?_)
      refine gm_lti (lo := (-2147483648)) (hi := 2147483647) (gb_it _) (fun x_9 ex_9 ix_9 => ?_)
      refine gm_ck j_3352049 (by decide) ?_
      refine gm_lti (lo := (-2147483648)) (hi := 2147483647) (gb_it _) (fun x_11 ex_11 ix_11 => ?_)
      refine gm_lti (lo := (-2147483648)) (hi := 2147483647) (gb_it _) (fun x_12 ex_12 ix_12 => ?_)
      refine gm_ck j_3352049 (by decide) ?_
      refine gm_lti (lo := (-2147483648)) (hi := 2147483647) (gb_it _) (fun x_14 ex_14 ix_14 => ?_)
      refine gm_ck j_3352049 (by decide) ?_
      refine gm_ltj (gb_XJu hX rfl) (fun f_16 ef_16 hXf_16 => ?_)
      refine gm_ck j_3352049 (by decide) ?_
      refine gm_lti (lo := (-2147483648)) (hi := 2147483647) (gb_it _) (fun x_18 ex_18 ix_18 => ?_)
      refine gm_ck j_3352049 (by decide) ?_
      refine gm_ltj (gb_XJu hXf_16 rfl) (fun f_20 ef_20 hXf_20 => ?_)
      refine gm_ck j_3352049 (by decide) ?_
      refine gm_lti (lo := (-2147483648)) (hi := 2147483647) (gb_it _) (fun x_22 ex_22 ix_22 => ?_)
      refine gm_ck j_3352049 (by decide) ?_
      refine gm_ltj (gb_XJu hXf_20 rfl) (fun f_24 ef_24 hXf_24 => ?_)
      refine gm_lti (lo := 1) (hi := 5) (gb_iadd (lo := 1) (hi := 5) j_3352049 (gb_ic (a := 1) (by decide)) (by decide)) (fun x_25 ex_25 ix_25 => ?_)
      exact ih _ _ _ _ hXf_24 (gb_it _) (gb_iw (lo := 0) (hi := 5) ix_25 (by decide)) (gb_mup ex_25 j_3352049 (by decide) hm)
set_option maxHeartbeats 4000000 in
theorem mj_rains {n : Nat} (hn : gb_N ≤ n) {f : gb_F} {w : Int64} {p1 : Int32} (hT : gb_TM f) : gb_tm (ms_rains n f w p1) (fun f2 _ _ => gb_XJ f f2 ∧ True) := by
  have hX := gb_XJr hT
  unfold ms_rains
  exact mj_rains_2 hn (fun _ _ _ hX h => ⟨hX, h⟩) n _ _ _ _ hX (gb_it _) (gb_iw (lo := 0) (hi := 5) (gb_ic (a := 0) (by decide)) (by decide)) (gb_fuu hn (gb_iw (lo := 0) (hi := 5) (gb_ic (a := 0) (by decide)) (by decide)) (by decide))
/-! THE REFERENCE: deeds that can be, and the best march, by hand -/
def gb_dv (f : gb_F) (k j : Int32) : Int32 := f 1 (Int32.toNatClampNeg ((((f 0 12) + 1) + (4 * k)) + j))
theorem mt_deedOfE {n : Nat} {f : gb_F} {w : Int64} {p1 p2 : Int32} (hT : gb_TM f) (i1 : gb_iv 0 24 p1) (i2 : gb_iv 0 3 p2) : gb_tm (ms_deedOf n f w p1 p2) (fun f2 w2 r => f2 = f ∧ w2 = w ∧ r = gb_dv f p1 p2) := by
  unfold ms_deedOf
  refine gm_ck (gb_iadd (lo := 1) (hi := 923) (gb_iadd (lo := 1) (hi := 920) (gb_iadd (lo := 1) (hi := 824) (gb_i12 hT) (gb_ic (a := 1) (by decide)) (by decide)) (gb_imul (lo := 0) (hi := 96) (gb_ic (a := 4) (by decide)) i1 (by decide)) (by decide)) i2 (by decide)) (by decide) ?_
  exact gm_lt (fun x e => gm_some ⟨rfl, rfl, e⟩)
theorem gb_tn {x : Int32} {j : Nat} (h : x.toInt = j) : Int32.toNatClampNeg x = j := by
  unfold Int32.toNatClampNeg
  omega
theorem gb_dvk {f : gb_F} {k : Int32} (hT : gb_TM f) (hN : gb_NN f) (i : gb_iv 0 23 k) : gb_iv 0 8 (gb_dv f k 0) := by
  obtain ⟨i1, i2⟩ := i
  have c1 : (1 : Int32).toInt = 1 := by decide
  have c4 : (4 : Int32).toInt = 4 := by decide
  have c0 : (0 : Int32).toInt = 0 := by decide
  have m4 : (4 * k).toInt = 4 * k.toInt := by
    have := gb_tmul (x := 4) (y := k) (by rw [c4]; omega) (by rw [c4]; omega)
    rw [this, c4]
  unfold gb_dv
  refine gb_iw (hT.2 _) ?_
  rcases hN with e | e
  · rw [e]
    have a1 : ((726 : Int32) + 1).toInt = 727 := by decide
    have a2 : (((726 : Int32) + 1) + 4 * k).toInt = 727 + 4 * k.toInt := by
      rw [gb_tadd (by rw [a1, m4]; omega) (by rw [a1, m4]; omega), a1, m4]
    have a3 : ((((726 : Int32) + 1) + 4 * k) + 0).toInt = ((727 + 4 * k.toInt.toNat : Nat) : Int) := by
      rw [gb_tadd (by rw [a2, c0]; omega) (by rw [a2, c0]; omega), a2, c0]
      omega
    have hm : k.toInt.toNat ≤ 23 := by omega
    rw [gb_tn a3]
    generalize k.toInt.toNat = m at hm
    have q : (727 + 4 * m) % 992 = 727 + 4 * m := Nat.mod_eq_of_lt (by omega)
    have q2 : (727 + 4 * m - 726) % 97 = 4 * m + 1 := by omega
    have q3 : (4 * m + 1 - 1) % 4 = 0 := by omega
    rw [q]
    unfold gt_1
    rw [if_neg (by omega), if_neg (by omega), if_neg (by omega), if_neg (by omega), if_neg (by omega), if_neg (by omega), if_neg (by omega), if_pos (by omega), q2]
    unfold gt_R
    rw [if_neg (by decide), if_pos rfl, if_neg (by omega), if_pos q3]
    decide
  · rw [e]
    have a1 : ((823 : Int32) + 1).toInt = 824 := by decide
    have a2 : (((823 : Int32) + 1) + 4 * k).toInt = 824 + 4 * k.toInt := by
      rw [gb_tadd (by rw [a1, m4]; omega) (by rw [a1, m4]; omega), a1, m4]
    have a3 : ((((823 : Int32) + 1) + 4 * k) + 0).toInt = ((824 + 4 * k.toInt.toNat : Nat) : Int) := by
      rw [gb_tadd (by rw [a2, c0]; omega) (by rw [a2, c0]; omega), a2, c0]
      omega
    have hm : k.toInt.toNat ≤ 23 := by omega
    rw [gb_tn a3]
    generalize k.toInt.toNat = m at hm
    have q : (824 + 4 * m) % 992 = 824 + 4 * m := Nat.mod_eq_of_lt (by omega)
    have q2 : (824 + 4 * m - 726) % 97 = 4 * m + 1 := by omega
    have q3 : (4 * m + 1 - 1) % 4 = 0 := by omega
    rw [q]
    unfold gt_1
    rw [if_neg (by omega), if_neg (by omega), if_neg (by omega), if_neg (by omega), if_neg (by omega), if_neg (by omega), if_neg (by omega), if_pos (by omega), q2]
    unfold gt_R
    rw [if_neg (by decide), if_pos rfl, if_neg (by omega), if_pos q3]
    decide
def gb_Dd (n : Nat) (f : gb_F) (w : Int64) (k : Int32) : Prop :=
  ((gb_dv f k 0 = 0 ∨ gb_dv f k 0 = 1 ∨ gb_dv f k 0 = 2) → gb_iv 0 7 (gb_dv f k 1) ∧ gb_iv 0 4 (gb_dv f k 2)) ∧
  (gb_dv f k 0 = 3 → gb_iv 0 7 (gb_dv f k 1) ∧ gb_iv 0 7 (gb_dv f k 2) ∧ gb_iv 0 4 (gb_dv f k 3)) ∧
  (gb_dv f k 0 = 4 → gb_iv 0 7 (gb_dv f k 1)) ∧
  (gb_dv f k 0 = 8 → gb_iv 0 4 (gb_dv f k 1) ∧ ∀ f2 w2 r, ms_foxed n f w (gb_dv f k 1) = some (f2, w2, r) → gb_iv 0 7 r)
theorem gb_Dd0 {n : Nat} {f : gb_F} {w : Int64} {k : Int32} (h : gb_dv f k 0 = 0 ∨ gb_dv f k 0 = 1 ∨ gb_dv f k 0 = 2) (ha : gb_iv 0 7 (gb_dv f k 1)) (hb : gb_iv 0 4 (gb_dv f k 2)) : gb_Dd n f w k := by
  refine ⟨fun _ => ⟨ha, hb⟩, fun q => ?_, fun q => ?_, fun q => ?_⟩ <;> (rw [q] at h; exact absurd h (by decide))
theorem gb_Dd3 {n : Nat} {f : gb_F} {w : Int64} {k : Int32} (h : gb_dv f k 0 = 3) (ha : gb_iv 0 7 (gb_dv f k 1)) (hb : gb_iv 0 7 (gb_dv f k 2)) (hc : gb_iv 0 4 (gb_dv f k 3)) : gb_Dd n f w k := by
  refine ⟨fun q => ?_, fun _ => ⟨ha, hb, hc⟩, fun q => ?_, fun q => ?_⟩ <;> (rw [h] at q; exact absurd q (by decide))
theorem gb_Dd4 {n : Nat} {f : gb_F} {w : Int64} {k : Int32} (h : gb_dv f k 0 = 4) (ha : gb_iv 0 7 (gb_dv f k 1)) : gb_Dd n f w k := by
  refine ⟨fun q => ?_, fun q => ?_, fun _ => ha, fun q => ?_⟩ <;> (rw [h] at q; exact absurd q (by decide))
theorem gb_Dd5 {n : Nat} {f : gb_F} {w : Int64} {k : Int32} (h : gb_dv f k 0 = 5 ∨ gb_dv f k 0 = 6 ∨ gb_dv f k 0 = 7) : gb_Dd n f w k := by
  refine ⟨fun q => ?_, fun q => ?_, fun q => ?_, fun q => ?_⟩
  · rcases h with h | h | h <;> (rw [h] at q; exact absurd q (by decide))
  · rw [q] at h
    exact absurd h (by decide)
  · rw [q] at h
    exact absurd h (by decide)
  · rw [q] at h
    exact absurd h (by decide)
theorem gb_Dd8 {n : Nat} {f : gb_F} {w : Int64} {k : Int32} (h : gb_dv f k 0 = 8) (ha : gb_iv 0 4 (gb_dv f k 1)) (hb : ∀ f2 w2 r, ms_foxed n f w (gb_dv f k 1) = some (f2, w2, r) → gb_iv 0 7 r) : gb_Dd n f w k := by
  refine ⟨fun q => ?_, fun q => ?_, fun q => ?_, fun _ => ⟨ha, hb⟩⟩ <;> (rw [h] at q; exact absurd q (by decide))
theorem gb_no9 {x : Int32} (i : gb_iv 0 8 x) (c0 : ¬ x = 0) (c1 : ¬ x = 1) (c2 : ¬ x = 2) (c3 : ¬ x = 3) (c4 : ¬ x = 4) (c5 : ¬ x = 5) (c6 : ¬ x = 6) (c7 : ¬ x = 7) : x = 8 := by
  obtain ⟨i1, i2⟩ := i
  have d0 : x.toInt ≠ 0 := fun q => c0 (gb_ieq (q.trans (by decide)))
  have d1 : x.toInt ≠ 1 := fun q => c1 (gb_ieq (q.trans (by decide)))
  have d2 : x.toInt ≠ 2 := fun q => c2 (gb_ieq (q.trans (by decide)))
  have d3 : x.toInt ≠ 3 := fun q => c3 (gb_ieq (q.trans (by decide)))
  have d4 : x.toInt ≠ 4 := fun q => c4 (gb_ieq (q.trans (by decide)))
  have d5 : x.toInt ≠ 5 := fun q => c5 (gb_ieq (q.trans (by decide)))
  have d6 : x.toInt ≠ 6 := fun q => c6 (gb_ieq (q.trans (by decide)))
  have d7 : x.toInt ≠ 7 := fun q => c7 (gb_ieq (q.trans (by decide)))
  have : x.toInt = 8 := by omega
  exact gb_ieq (this.trans (by decide))
set_option maxHeartbeats 4000000 in
theorem mt_can {n : Nat} (hn : gb_N ≤ n) {f : gb_F} {w : Int64} {k : Int32} (hT : gb_TM f) (hN : gb_NN f) (ik : gb_iv 0 23 k) : gb_tm (ms_can n f w k) (fun f2 w2 r => f2 = f ∧ w2 = w ∧ (¬ r = 0 → gb_Dd n f w k)) := by
  have ik2 : gb_iv 0 24 k := gb_iw ik (by decide)
  have hkd := gb_dvk hT hN ik
  unfold ms_can
  refine gm_bdP (mt_deedOfE hT ik2 (gb_iw (gb_ic (a := 1) (by decide)) (by decide))) (fun a ea => ?_)
  refine gm_bdP (mt_deedOfE hT ik2 (gb_iw (gb_ic (a := 2) (by decide)) (by decide))) (fun b eb => ?_)
  refine gm_bdP (mt_deedOfE hT ik2 (gb_iw (gb_ic (a := 0) (by decide)) (by decide))) (fun d ed => ?_)
  have no : ∀ {P : Prop}, ¬ (0 : Int32) = 0 → P := fun h => absurd rfl h
  refine gm_if (fun c0 => ?_) (fun c0 => ?_)
  · refine gm_bdP (mt_isAt hn hT) (fun r1 h1 => gm_if (fun c => gm_some ⟨rfl, rfl, no⟩) (fun c1 => ?_))
    refine gm_bdP (mt_isPath hT) (fun r2 h2 => gm_if (fun c => gm_some ⟨rfl, rfl, no⟩) (fun c2 => gm_some ⟨rfl, rfl, fun _ => ?_⟩))
    exact gb_Dd0 (Or.inl (ed ▸ c0)) (ea ▸ h1.2 c1) (eb ▸ h2.2 c2)
  refine gm_if (fun c1 => ?_) (fun c1 => ?_)
  · refine gm_bdP (mt_isAt hn hT) (fun r1 h1 => gm_if (fun c => gm_some ⟨rfl, rfl, no⟩) (fun c2 => ?_))
    refine gm_bdP (mt_isPath hT) (fun r2 h2 => gm_if (fun c => gm_some ⟨rfl, rfl, no⟩) (fun c3 => gm_some ⟨rfl, rfl, fun _ => ?_⟩))
    exact gb_Dd0 (Or.inr (Or.inl (ed ▸ c1))) (ea ▸ h1.2 c2) (eb ▸ h2.2 c3)
  refine gm_if (fun c2 => ?_) (fun c2 => ?_)
  · refine gm_bdP (mt_isAt hn hT) (fun r1 h1 => gm_if (fun c => gm_some ⟨rfl, rfl, no⟩) (fun c3 => ?_))
    refine gm_bdP (mt_isPath hT) (fun r2 h2 => gm_if (fun c => gm_some ⟨rfl, rfl, no⟩) (fun c4 => gm_some ⟨rfl, rfl, fun _ => ?_⟩))
    exact gb_Dd0 (Or.inr (Or.inr (ed ▸ c2))) (ea ▸ h1.2 c3) (eb ▸ h2.2 c4)
  refine gm_if (fun c3 => ?_) (fun c3 => ?_)
  · refine gm_bdP (mt_isAt hn hT) (fun r1 h1 => gm_if (fun c => gm_some ⟨rfl, rfl, no⟩) (fun c4 => ?_))
    refine gm_bdP (mt_isAt hn hT) (fun r2 h2 => gm_if (fun c => gm_some ⟨rfl, rfl, no⟩) (fun c5 => ?_))
    refine gm_bdP (mt_deedOfE hT ik2 (gb_iw (gb_ic (a := 3) (by decide)) (by decide))) (fun e ee => ?_)
    refine gm_bdP (mt_isPath hT) (fun r3 h3 => gm_if (fun c => gm_some ⟨rfl, rfl, no⟩) (fun c6 => gm_some ⟨rfl, rfl, fun _ => ?_⟩))
    exact gb_Dd3 (ed ▸ c3) (ea ▸ h1.2 c4) (eb ▸ h2.2 c5) (ee ▸ h3.2 c6)
  refine gm_if (fun c4 => ?_) (fun c4 => ?_)
  · refine gm_bdP (mt_isGoose hT) (fun r1 h1 => gm_if (fun c => gm_some ⟨rfl, rfl, no⟩) (fun c5 => ?_))
    refine gm_ck (h1.2 c5) (by decide) (gm_lt (fun x ex => ?_))
    exact gm_if (fun c => gm_some ⟨rfl, rfl, no⟩) (fun c6 => gm_some ⟨rfl, rfl, fun _ => gb_Dd4 (ed ▸ c4) (ea ▸ h1.2 c5)⟩)
  refine gm_if (fun c5 => gm_some ⟨rfl, rfl, fun _ => gb_Dd5 (Or.inl (ed ▸ c5))⟩) (fun c5 => ?_)
  refine gm_if (fun c6 => gm_some ⟨rfl, rfl, fun _ => gb_Dd5 (Or.inr (Or.inl (ed ▸ c6)))⟩) (fun c6 => ?_)
  refine gm_if (fun c7 => gm_some ⟨rfl, rfl, fun _ => gb_Dd5 (Or.inr (Or.inr (ed ▸ c7)))⟩) (fun c7 => ?_)
  have e8 := gb_no9 (ed ▸ hkd) c0 c1 c2 c3 c4 c5 c6 c7
  refine gm_if (fun c8 => ?_) (fun c8 => absurd e8 c8)
  refine gm_bdP (mt_isPath hT) (fun r1 h1 => gm_if (fun c => gm_some ⟨rfl, rfl, no⟩) (fun c9 => ?_))
  obtain ⟨f2, w2, r, ef, hf, hw, hr⟩ := mt_foxed hn (w := w) hT (h1.2 c9)
  subst hf
  subst hw
  rw [ef]
  refine gm_if (fun c => gm_some ⟨rfl, rfl, no⟩) (fun c10 => gm_some ⟨rfl, rfl, fun _ => ?_⟩)
  refine gb_Dd8 (ed ▸ c8) (ea ▸ h1.2 c9) (fun f3 w3 r3 q => ?_)
  rw [← ea, ef] at q
  obtain ⟨-, -, q3⟩ := gb_eq3 q
  rw [← q3]
  exact gb_rN (v := -1) c10 hr (by decide) (by decide)
set_option maxHeartbeats 4000000 in
theorem mt_does {n : Nat} (hn : gb_N ≤ n) {f : gb_F} {w : Int64} {k : Int32} (hT : gb_TM f) (hN : gb_NN f) (ik : gb_iv 0 23 k) (hd : gb_Dd n f w k) : gb_tm (ms_does n f w k) (fun f2 _ _ => gb_XJ f f2 ∧ True) := by
  have ik2 : gb_iv 0 24 k := gb_iw ik (by decide)
  have hkd := gb_dvk hT hN ik
  have hX := gb_XJr hT
  obtain ⟨d0, d3, d4, d8⟩ := hd
  unfold ms_does
  refine gm_bdP (mt_deedOfE hT ik2 (gb_iw (gb_ic (a := 1) (by decide)) (by decide))) (fun a ea => ?_)
  refine gm_bdP (mt_deedOfE hT ik2 (gb_iw (gb_ic (a := 2) (by decide)) (by decide))) (fun b eb => ?_)
  refine gm_bdP (mt_deedOfE hT ik2 (gb_iw (gb_ic (a := 0) (by decide)) (by decide))) (fun d ed => ?_)
  rw [← ea, ← eb, ← ed] at d0
  rw [← ea, ← eb, ← ed] at d3
  rw [← ea, ← ed] at d4
  rw [← ea, ← ed] at d8
  rw [← ed] at hkd
  refine gm_if (fun c0 => ?_) (fun c0 => ?_)
  · have z := d0 (Or.inl c0)
    exact gm_bdJ hX (mj_walks hn hT z.1 z.2) (fun f2 w2 _ hX2 _ => gm_some ⟨hX2, trivial⟩)
  refine gm_if (fun c1 => ?_) (fun c1 => ?_)
  · have z := d0 (Or.inr (Or.inl c1))
    exact gm_bdJ hX (mj_walks hn hT z.1 z.2) (fun f2 w2 _ hX2 _ => gm_some ⟨hX2, trivial⟩)
  refine gm_if (fun c2 => ?_) (fun c2 => ?_)
  · have z := d0 (Or.inr (Or.inr c2))
    exact gm_bdJ hX (mj_walks hn hT z.1 z.2) (fun f2 w2 _ hX2 _ => gm_some ⟨hX2, trivial⟩)
  refine gm_if (fun c3 => ?_) (fun c3 => ?_)
  · obtain ⟨z1, z2, z3⟩ := d3 c3
    refine gm_bdP (mt_deedOfE hT ik2 (gb_iw (gb_ic (a := 3) (by decide)) (by decide))) (fun e ee => ?_)
    rw [← ee] at z3
    refine gm_bdJ hX (mj_walks hn hT z1 z3) (fun f2 w2 _ hX2 _ => ?_)
    refine gm_ck z2 (by decide) ?_
    refine gm_ltj (gb_XJu hX2 rfl) (fun f3 e3 hX3 => ?_)
    refine gm_bdP (mt_deedOfE hX3.1 ik2 (gb_iw (gb_ic (a := 3) (by decide)) (by decide))) (fun e2 ee2 => ?_)
    refine gm_ck z2 (by decide) ?_
    exact gm_ltj (gb_XJu hX3 rfl) (fun f4 e4 hX4 => gm_some ⟨hX4, trivial⟩)
  refine gm_if (fun c4 => ?_) (fun c4 => ?_)
  · have z := d4 c4
    refine gm_ck z (by decide) ?_
    refine gm_ltj (gb_XJu hX rfl) (fun f3 e3 hX3 => ?_)
    refine gm_ck z (by decide) ?_
    exact gm_ltj (gb_XJu hX3 rfl) (fun f4 e4 hX4 => gm_some ⟨hX4, trivial⟩)
  refine gm_if (fun c5 => ?_) (fun c5 => ?_)
  · exact gm_bdJ hX (mj_rains hn hT) (fun f2 w2 _ hX2 _ => gm_some ⟨hX2, trivial⟩)
  refine gm_if (fun c6 => gm_ltj (gb_XJf hX rfl) (fun f4 e4 hX4 => gm_some ⟨hX4, trivial⟩)) (fun c6 => ?_)
  refine gm_if (fun c7 => gm_ltj (gb_XJf hX rfl) (fun f4 e4 hX4 => gm_some ⟨hX4, trivial⟩)) (fun c7 => ?_)
  have e8 := gb_no9 hkd c0 c1 c2 c3 c4 c5 c6 c7
  obtain ⟨z1, z2⟩ := d8 e8
  obtain ⟨f2, w2, r, ef, hf, hw, hr⟩ := mt_foxed hn (w := w) hT z1
  subst hf
  subst hw
  have z3 := z2 _ _ _ ef
  rw [ef]
  refine gm_ck z3 (by decide) ?_
  exact gm_ltj (gb_XJu hX rfl) (fun f4 e4 hX4 => gm_some ⟨hX4, trivial⟩)
theorem gb_i1 {x : Int32} {a b : Int} (h : gb_iv a b x) (k : -2147483648 ≤ a ∧ b < 2147483647) : (x + 1).toInt = x.toInt + 1 := by
  have c1 : (1 : Int32).toInt = 1 := by decide
  obtain ⟨h1, h2⟩ := h
  rw [gb_tadd (by rw [c1]; omega) (by rw [c1]; omega), c1]
set_option maxHeartbeats 4000000 in
theorem mt_runs_4 {n : Nat} (hn : gb_N ≤ n) {f0 : gb_F} (hN : gb_NN f0) : ∀ (mm : Nat) (f : gb_F) (w : Int64) (v1 : Int32), gb_XK f0 f → (24 - (f 0 23).toInt).toNat < mm → gb_tm (ms_runs_4 n mm f w v1) (fun f2 _ _ => gb_XK f0 f2 ∧ True) := by
  intro mm
  induction mm with
  | zero =>
    intro f w v1 hX hm
    exact absurd hm (Nat.not_lt_zero _)
  | succ mm ih =>
    intro f w v1 hX hm
    rw [ms_runs_4]
    refine gm_if (fun c => gm_some ⟨hX, trivial⟩) (fun c => ?_)
    refine gm_bdP (mt_deeds hn hX.1) (fun r h => ?_)
    refine gm_if (fun c => gm_some ⟨hX, trivial⟩) (fun c2 => ?_)
    have hd := gb_dnle c2
    have ik : gb_iv 0 23 (f 0 23) := ⟨(gb_i23 hX.1).1, by have := h.2; omega⟩
    refine gm_bdP (mt_can hn hX.1 (gb_NNx hX hN) ik) (fun r2 h2 => ?_)
    refine gm_if (fun c => gm_some ⟨hX, trivial⟩) (fun c3 => ?_)
    obtain ⟨f2, w2, r3, e, hX2, -⟩ := mt_does hn hX.1 (gb_NNx hX hN) ik (h2 c3)
    rw [e]
    have e23 : f2 0 23 = f 0 23 := hX2.2.2
    have hX3 := gb_XKt hX (gb_XJk hX2)
    have i2 : gb_iv 0 24 (f2 0 23 + 1) := by
      rw [e23]
      exact gb_iw (gb_iadd (lo := 1) (hi := 24) ik (gb_ic (a := 1) (by decide)) (by decide)) (by decide)
    refine gm_ltf (gb_XK23 hX3 i2) (fun f4 e4 hX4 => ih _ _ _ hX4 ?_)
    have e5 : f4 0 23 = f 0 23 + 1 := by
      rw [e4, ← e23]
      rfl
    rw [e5, gb_i1 ik (by decide)]
    have := ik.2
    omega
theorem mt_runs {n : Nat} (hn : gb_N ≤ n) {f : gb_F} {w : Int64} {p1 : Int32} (hT : gb_TM f) (hN : gb_NN f) : gb_tm (ms_runs n f w p1) (fun f2 _ _ => gb_XK f f2 ∧ True) := by
  unfold ms_runs
  have hX := gb_XKr hT
  refine gm_bdK hX (mt_begins hn hT) (fun f2 w2 _ hX2 _ => ?_)
  exact mt_runs_4 hn hN n f2 w2 p1 hX2 (gb_fuu (lo := 0) hn (gb_i23 hX2.1) (by decide))
