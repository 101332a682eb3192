/-! THE REFERENCE: swaps, shift, two, by hand -/
theorem gt_R1 (m : Nat) : gt_R 1 (1 + m) = (if m % 4 = 0 then (0, 8) else if m % 4 = 1 then (-1, 10) else if m % 4 = 2 then (-1, 60) else (-1, 4)) := by
  unfold gt_R
  rw [if_neg (by decide), if_pos rfl, if_neg (by omega), Nat.add_sub_cancel_left]
theorem gb_swt {b m : Nat} (hb : b = 726 ∨ b = 823) (hm : m ≤ 95) : gt_1 ((b + 1 + m) % 992) = gt_R 1 (1 + m) := by
  rcases hb with rfl | rfl
  · have q : (726 + 1 + m) % 992 = 727 + m := by omega
    have q2 : (727 + m - 726) % 97 = 1 + m := by omega
    rw [q]
    unfold gt_1
    rw [if_neg (by omega), if_neg (by omega), if_neg (by omega), if_neg (by omega), if_neg (by omega), if_neg (by omega), if_neg (by omega), if_pos (by omega), q2]
  · have q : (823 + 1 + m) % 992 = 824 + m := by omega
    have q2 : (824 + m - 726) % 97 = 1 + m := by omega
    rw [q]
    unfold gt_1
    rw [if_neg (by omega), if_neg (by omega), if_neg (by omega), if_neg (by omega), if_neg (by omega), if_neg (by omega), if_neg (by omega), if_pos (by omega), q2]
set_option maxHeartbeats 4000000 in
theorem mt_swaps_2 {n : Nat} : ∀ (mm : Nat) (f : gb_F) (w : Int64) (v1 v2 : Int32), gb_TM f → gb_NN f → gb_iv 0 22 v1 → gb_iv 0 4 v2 → (4 - v2.toInt).toNat < mm → gb_tm (ms_swaps_2 n mm f w v1 v2) (fun f2 _ _ => gb_TM f2 ∧ f2 0 = f 0) := by
  intro mm
  induction mm with
  | zero =>
    intro f w v1 v2 hT hN i1 i2 hm
    exact absurd hm (Nat.not_lt_zero _)
  | succ mm ih =>
    intro f w v1 v2 hT hN i1 i2 hm
    rw [ms_swaps_2]
    refine gm_if (fun c => gm_some ⟨hT, rfl⟩) (fun c => ?_)
    have i2' : gb_iv 0 3 v2 := gb_rU (s := 1) (gb_dnle c) i2 (gb_ic (a := 4) (by decide)) (by decide)
    obtain ⟨b, hb, eb⟩ : ∃ b : Nat, (b = 726 ∨ b = 823) ∧ (f 0 12).toInt = b := by
      rcases hN with e | e
      · exact ⟨726, Or.inl rfl, by rw [e]; decide⟩
      · exact ⟨823, Or.inr rfl, by rw [e]; decide⟩
    have hb2 : b ≤ 823 := by omega
    have h1 := i1.1
    have h2 := i1.2
    have h3 := i2'.1
    have h4 := i2'.2
    have c1 : (1 : Int32).toInt = 1 := by decide
    have c4 : (4 : Int32).toInt = 4 := by decide
    have a1 : ((f 0 12) + 1).toInt = (b : Int) + 1 := by
      rw [gb_tadd (by rw [c1]; omega) (by rw [c1]; omega), c1, eb]
    have a2 : (4 * v1).toInt = 4 * v1.toInt := by
      rw [gb_tmul (by rw [c4]; omega) (by rw [c4]; omega), c4]
    have a3 : (((f 0 12) + 1) + (4 * v1)).toInt = (b : Int) + 1 + 4 * v1.toInt := by
      rw [gb_tadd (by rw [a1, a2]; omega) (by rw [a1, a2]; omega), a1, a2]
    have a4 : ((((f 0 12) + 1) + (4 * v1)) + v2).toInt = (b : Int) + 1 + 4 * v1.toInt + v2.toInt := by
      rw [gb_tadd (by rw [a3]; omega) (by rw [a3]; omega), a3]
    refine gm_lt (fun x ex => ?_)
    rw [← ex] at a4
    have ix : gb_iv 0 3000 x := ⟨by omega, by omega⟩
    have a5 : (x + 4).toInt = x.toInt + 4 := by
      rw [gb_tadd (by rw [c4]; omega) (by rw [c4]; omega), c4]
    have ix4 : gb_iv 0 3000 (x + 4) := ⟨by omega, by omega⟩
    generalize hmm : (4 * v1.toInt + v2.toInt).toNat = m
    have e1 : Int32.toNatClampNeg x = b + 1 + m := gb_tn (by omega)
    have e2 : Int32.toNatClampNeg (x + 4) = b + 1 + (m + 4) := gb_tn (by omega)
    have t1 := gb_swt (m := m) hb (by omega)
    have t2 := gb_swt (m := m + 4) hb (by omega)
    have t3 : gt_R 1 (1 + (m + 4)) = gt_R 1 (1 + m) := by
      rw [gt_R1, gt_R1, Nat.add_mod_right]
    rw [t3] at t2
    refine gm_ck ix (by decide) (gm_lt (fun y ey => gm_ck ix4 (by decide) (gm_lt (fun z ez => gm_ck ix (by decide) (gm_lt (fun f2 ef2 => gm_ck ix4 (by decide) (gm_lt (fun f3 ef3 => gm_lt (fun u eu => ?_)))))))))
    have hT2 : gb_TM f2 := by
      rw [ef2]
      refine gb_TMu1 hT ?_
      rw [e1, t1, ← t2, ez, e2]
      exact hT.2 _
    have hT3 : gb_TM f3 := by
      rw [ef3]
      refine gb_TMu1 hT2 ?_
      rw [e2, t2, ← t1, ey, e1]
      exact hT.2 _
    have h0 : f3 0 = f 0 := by
      rw [ef3, ef2]
      rfl
    have hN3 : gb_NN f3 := by
      unfold gb_NN
      rw [h0]
      exact hN
    refine gm_mono (ih f3 w v1 u hT3 hN3 i1 ?_ (gb_mup eu i2' (by decide) hm)) (fun g _ _ h => ⟨h.1, h.2.trans h0⟩)
    rw [eu]
    exact gb_iw (gb_iadd (lo := 1) (hi := 4) i2' (gb_ic (a := 1) (by decide)) (by decide)) (by decide)
theorem mt_swaps {n : Nat} (hn : gb_N ≤ n) {f : gb_F} {w : Int64} {p1 : Int32} (hT : gb_TM f) (hN : gb_NN f) (i1 : gb_iv 0 22 p1) : gb_tm (ms_swaps n f w p1) (fun f2 _ _ => gb_TM f2 ∧ gb_NN f2) := by
  unfold ms_swaps
  have i0 : gb_iv 0 4 (0 : Int32) := gb_iw (gb_ic (a := 0) (by decide)) (by decide)
  refine gm_mono (mt_swaps_2 n f w p1 0 hT hN i1 i0 (gb_fuu hn i0 (by decide))) (fun g _ _ h => ⟨h.1, ?_⟩)
  unfold gb_NN
  rw [h.2]
  exact hN
set_option maxHeartbeats 4000000 in
theorem mt_shift_35 {n : Nat} (hn : gb_N ≤ n) : ∀ (mm : Nat) (f : gb_F) (w : Int64) (v3 v4 v5 v6 v7 : Int32), gb_TM f → gb_NN f → gb_iv 0 24 v4 → gb_iv 0 24 v7 → (24 - v7.toInt).toNat < mm → gb_tm (ms_shift_35 n mm f w v3 v4 v5 v6 v7) (fun f2 _ _ => gb_TM f2) := by
  have key : ∀ (k35 : gb_F → Int64 → Int32 → Int32 → Int32 → Int32 → Int32 → gb_MR Int32) (mm : Nat) (f : gb_F) (w : Int64) (v3 v4 v5 v6 v7 t0 : Int32), gb_TM f → gb_NN f → gb_iv 0 24 v4 → gb_iv 0 22 v7 → (24 - v7.toInt).toNat < mm + 1 → (∀ (f : gb_F) (w : Int64) (v3 v4 v5 v6 v7 : Int32), gb_TM f → gb_NN f → gb_iv 0 24 v4 → gb_iv 0 24 v7 → (24 - v7.toInt).toNat < mm → gb_tm (k35 f w v3 v4 v5 v6 v7) (fun f2 _ _ => gb_TM f2)) → gb_tm (ms_shift_79 n k35 f w v3 v4 v5 v6 v7 t0) (fun f2 _ _ => gb_TM f2) := by
    intro k35 mm f w v3 v4 v5 v6 v7 t0 hT hN i4 i7 hm hk
    have st : ∀ x : Int32, x = v7 + 1 → gb_iv 0 24 x := fun x e => by
      rw [e]
      exact gb_iw (gb_iadd (lo := 1) (hi := 23) i7 (gb_ic (a := 1) (by decide)) (by decide)) (by decide)
    unfold ms_shift_79
    refine gm_if (fun c => ?_) (fun c => ?_)
    · refine gm_if (fun c2 => ?_) (fun c2 => ?_)
      · exact gm_bd (mt_swaps hn hT hN i7) (fun f2 w2 _ h => gm_lt (fun x ex => hk _ _ _ _ _ _ _ h.1 h.2 i4 (st x ex) (gb_mup ex i7 (by decide) hm)))
      · exact gm_bd (mt_swaps hn hT hN i7) (fun f2 w2 _ h => gm_lt (fun x ex => hk _ _ _ _ _ _ _ h.1 h.2 i4 (st x ex) (gb_mup ex i7 (by decide) hm)))
    · refine gm_bdP (mt_allPay hn hT) (fun r h => ?_)
      refine gm_if (fun c2 => ?_) (fun c2 => ?_)
      · exact gm_bd (mt_swaps hn hT hN i7) (fun f2 w2 _ h => gm_lt (fun x ex => hk _ _ _ _ _ _ _ h.1 h.2 i4 (st x ex) (gb_mup ex i7 (by decide) hm)))
      · exact gm_bd (mt_swaps hn hT hN i7) (fun f2 w2 _ h => gm_lt (fun x ex => hk _ _ _ _ _ _ _ h.1 h.2 i4 (st x ex) (gb_mup ex i7 (by decide) hm)))
  intro mm
  induction mm with
  | zero =>
    intro f w v3 v4 v5 v6 v7 hT hN i4 i7 hm
    exact absurd hm (Nat.not_lt_zero _)
  | succ mm ih =>
    intro f w v3 v4 v5 v6 v7 hT hN i4 i7 hm
    rw [ms_shift_35]
    refine gm_if (fun c => gm_if (fun _ => gm_some hT) (fun _ => gm_if (fun _ => gm_some hT) (fun _ => gm_some hT))) (fun c => ?_)
    have i7' : gb_iv 0 22 v7 := by
      have h1 := gb_dnle c
      have h2 := gb_i1 i7 (by decide)
      have h3 := i4.2
      exact ⟨i7.1, by omega⟩
    refine gm_bd (mt_swaps hn hT hN i7') (fun f2 w2 _ h => ?_)
    refine gm_bd (mt_runs hn h.1 h.2) (fun f3 w3 _ h3 => ?_)
    have hT3 := h3.1.1
    have hN3 := gb_NNx h3.1 h.2
    refine gm_if (fun c2 => ?_) (fun c2 => ?_)
    · unfold ms_shift_78
      exact key _ mm _ _ _ _ _ _ _ _ hT3 hN3 i4 i7' hm ih
    · refine gm_bdP (mt_allPay hn hT3) (fun r hr => ?_)
      refine gm_if (fun c3 => ?_) (fun c3 => ?_)
      · unfold ms_shift_78
        exact key _ mm _ _ _ _ _ _ _ _ hT3 hN3 i4 i7' hm ih
      · exact key _ mm _ _ _ _ _ _ _ _ hT3 hN3 i4 i7' hm ih
theorem mt_shift {n : Nat} (hn : gb_N ≤ n) {f : gb_F} {w : Int64} {p1 p2 p3 : Int32} (hT : gb_TM f) : gb_tm (ms_shift n f w p1 p2 p3) (fun f2 _ _ => gb_TM f2) := by
  unfold ms_shift
  refine gm_bdT (mt_areTold hT) (fun f1 w1 r1 hX h1 => ?_)
  refine gm_if (fun c => gm_some hX.1) (fun c => ?_)
  have hN := h1.2 c
  refine gm_bd (mt_runs hn hX.1 hN) (fun f3 w3 _ h3 => ?_)
  have hT3 := h3.1.1
  refine gm_lti (gb_i23 hT3) (fun x ex ix => ?_)
  refine gm_bdP (mt_allPay hn hT3) (fun r hr => ?_)
  have i0 : gb_iv 0 24 (0 : Int32) := gb_iw (gb_ic (a := 0) (by decide)) (by decide)
  exact mt_shift_35 hn n _ _ _ _ _ _ _ hT3 (gb_NNx h3.1 hN) ix i0 (gb_fuu hn i0 (by decide))
/-! two -/
theorem gb_r6 {f : gb_F} {v : Int32} (hT : gb_TM f) (h : v = 610 ∨ v = 668) : gb_iv 0 5 (f 1 (Int32.toNatClampNeg (v + 0))) := by
  rcases h with e | e <;> (rw [e]; exact gb_r1 hT (by decide))
theorem gb_i6 {v : Int32} (h : v = 610 ∨ v = 668) : gb_iv 610 668 v := by
  rcases h with e | e <;> (rw [e]; exact ⟨by decide, by decide⟩)
set_option maxHeartbeats 4000000 in
theorem mt_two_66 {n : Nat} (hn : gb_N ≤ n) : ∀ (mm : Nat) (f : gb_F) (w : Int64) (v2 v4 v5 v6 v7 v8 v9 : Int32), gb_TM f → gb_iv 0 7 v2 → (v5 = 0 ∨ v5 = 610 ∨ v5 = 668) → (v6 = 610 ∨ v6 = 668) → (0 ≤ v7.toInt → 1 ≤ (f 1 (Int32.toNatClampNeg (v6 + 0))).toInt) → gb_iv 0 25 v9 → (25 - v9.toInt).toNat < mm → gb_tm (ms_two_66 n mm f w v2 v4 v5 v6 v7 v8 v9) (fun f2 _ _ => gb_TM f2) := by
  have key : ∀ (k66 : gb_F → Int64 → Int32 → Int32 → Int32 → Int32 → Int32 → Int32 → Int32 → gb_MR Int32) (mm : Nat) (f : gb_F) (w : Int64) (v2 v4 v5 v6 v7 v8 v9 v10 v11 t0 : Int32), gb_TM f → gb_iv 0 7 v2 → (v5 = 0 ∨ v5 = 610 ∨ v5 = 668) → (v6 = 610 ∨ v6 = 668) → 1 ≤ (f 1 (Int32.toNatClampNeg (v6 + 0))).toInt → gb_iv 0 24 v9 → gb_iv 0 24 v10 → gb_iv 0 4 v11 → (25 - v9.toInt).toNat < mm + 1 → (∀ (f : gb_F) (w : Int64) (v2 v4 v5 v6 v7 v8 v9 : Int32), gb_TM f → gb_iv 0 7 v2 → (v5 = 0 ∨ v5 = 610 ∨ v5 = 668) → (v6 = 610 ∨ v6 = 668) → (0 ≤ v7.toInt → 1 ≤ (f 1 (Int32.toNatClampNeg (v6 + 0))).toInt) → gb_iv 0 25 v9 → (25 - v9.toInt).toNat < mm → gb_tm (k66 f w v2 v4 v5 v6 v7 v8 v9) (fun f2 _ _ => gb_TM f2)) → gb_tm (ms_two_147 n k66 f w v2 v4 v5 v6 v7 v8 v9 v10 v11 t0) (fun f2 _ _ => gb_TM f2) := by
    intro k66 mm f w v2 v4 v5 v6 v7 v8 v9 v10 v11 t0 hT i2 h5 h6 h1 i9 i10 i11 hm hk
    have i10' : gb_iv 0 100 v10 := gb_iw i10 (by decide)
    have i11' : gb_iv 0 100 v11 := gb_iw i11 (by decide)
    have i2' : gb_iv 0 70 v2 := gb_iw i2 (by decide)
    have st : ∀ x : Int32, x = v9 + 1 → gb_iv 0 25 x := fun x e => by
      rw [e]
      exact gb_iw (gb_iadd (lo := 1) (hi := 25) i9 (gb_ic (a := 1) (by decide)) (by decide)) (by decide)
    unfold ms_two_147
    refine gm_bdP (mt_ofPath hn hT i10' (gb_iw (gb_ic (a := 1) (by decide)) (by decide))) (fun r1 _ => ?_)
    refine gm_bdP (mt_firstMarks hn hT i2 i10') (fun r2 _ => ?_)
    refine gm_bdP (mt_padded hn hT i10') (fun r3 _ => ?_)
    refine gm_lt (fun x ex => ?_)
    refine gm_ck (gb_iadd (lo := 613) (hi := 683) (gb_iadd (lo := 613) (hi := 683) (gb_iadd (lo := 613) (hi := 671) (gb_i6 h6) (gb_ic (a := 3) (by decide)) (by decide)) (gb_imul (lo := 0) (hi := 12) (gb_ic (a := 3) (by decide)) i11 (by decide)) (by decide)) (gb_ic (a := 0) (by decide)) (by decide)) (by decide) (gm_lt (fun y ey => ?_))
    refine gm_bdP (mt_ofGoose hn hT i2' (gb_iw (gb_ic (a := 3) (by decide)) (by decide))) (fun r4 _ => ?_)
    refine gm_bdP (mt_left hn hT i2) (fun r5 _ => ?_)
    refine gm_ltT (gb_TM11 hT (Or.inr h6)) (fun f2 e2 hX2 => ?_)
    refine gm_bdP (mt_ofPath hn hX2.1 i11' (gb_iw (gb_ic (a := 1) (by decide)) (by decide))) (fun r6 _ => ?_)
    refine gm_bdP (mt_padded hn hX2.1 i11') (fun r7 _ => gm_lt (fun z ez => ?_))
    refine gm_ltT (gb_TM11 hX2.1 h5) (fun f3 e3 hX3 => ?_)
    have e1 : f3 1 = f 1 := by
      rw [e3, e2]
      rfl
    have h1' : 1 ≤ (f3 1 (Int32.toNatClampNeg (v6 + 0))).toInt := by
      rw [e1]
      exact h1
    refine gm_if (fun c => gm_lt (fun u eu => hk _ _ _ _ _ _ _ _ _ hX3.1 i2 h5 h6 (fun _ => h1') (st u eu) (gb_mup eu i9 (by decide) hm))) (fun c => ?_)
    exact gm_if (fun c => gm_lt (fun u eu => hk _ _ _ _ _ _ _ _ _ hX3.1 i2 h5 h6 (fun _ => h1') (st u eu) (gb_mup eu i9 (by decide) hm))) (fun c => gm_lt (fun u eu => hk _ _ _ _ _ _ _ _ _ hX3.1 i2 h5 h6 (fun _ => h1') (st u eu) (gb_mup eu i9 (by decide) hm)))
  intro mm
  induction mm with
  | zero =>
    intro f w v2 v4 v5 v6 v7 v8 v9 hT i2 h5 h6 h7 i9 hm
    exact absurd hm (Nat.not_lt_zero _)
  | succ mm ih =>
    intro f w v2 v4 v5 v6 v7 v8 v9 hT i2 h5 h6 h7 i9 hm
    rw [ms_two_66]
    refine gm_bdP (mt_paths hT) (fun r h => ?_)
    have i6 := gb_iw (lo := 0) (hi := 3000) (gb_iadd (lo := 610) (hi := 668) (gb_i6 h6) (gb_ic (x := 0) (a := 0) (by decide)) (by decide)) (by decide)
    have ir := gb_r6 hT h6
    have c0 : (0 : Int32).toInt = 0 := by decide
    refine gm_ck i6 (by decide) (gm_lti ir (fun x ex ix => ?_))
    have rx1 := gb_imul (lo := 0) (hi := 25) h.1 ix (by decide)
    refine gm_if (fun c => ?_) (fun c => ?_)
    · refine gm_if (fun c7 => ?_) (fun c7 => gm_some hT)
      have h8 := h7 (by have := gb_dle c7; omega)
      have i1 : gb_iv 1 5 (f 1 (Int32.toNatClampNeg (v6 + 0))) := ⟨h8, ir.2⟩
      refine gm_if (fun c4 => ?_) (fun c4 => ?_)
      · exact gm_ck i6 (by decide) (gm_lti i1 (fun y ey iy => gm_nz iy (by decide) (gm_lt (fun z ez => gm_some hT))))
      · refine gm_if (fun c5 => ?_) (fun c5 => gm_some hT)
        exact gm_ck i6 (by decide) (gm_lti i1 (fun y ey iy => gm_nz iy (by decide) (gm_lt (fun z ez => gm_some hT))))
    · have hc := gb_dnle c
      have h9 := i9.1
      have x1 : 1 ≤ x.toInt := by
        have : x.toInt ≠ 0 := fun q => by
          have e0 : x = 0 := gb_ieq (q.trans c0.symm)
          rw [e0, Int32.mul_zero] at hc
          omega
        have := ix.1
        omega
      have i9' : gb_iv 0 24 v9 := ⟨h9, by have := rx1.2; omega⟩
      have h8 : 1 ≤ (f 1 (Int32.toNatClampNeg (v6 + 0))).toInt := by
        rw [← ex]
        exact x1
      have i1 : gb_iv 1 5 (f 1 (Int32.toNatClampNeg (v6 + 0))) := ⟨h8, ir.2⟩
      refine gm_ck i6 (by decide) (gm_lti i1 (fun y ey iy => gm_nz iy (by decide) ?_))
      refine gm_lti (gb_idiv (lo := 0) (hi := 24) i9' iy (by decide)) (fun z ez iz => ?_)
      refine gm_ck i6 (by decide) (gm_lti i1 (fun y2 ey2 iy2 => gm_nz iy2 (by decide) ?_))
      refine gm_lti (gb_irem (lo := 0) (hi := 4) i9' iy2 (by decide)) (fun z2 ez2 iz2 => ?_)
      have i2' : gb_iv 0 70 v2 := gb_iw i2 (by decide)
      have iz' : gb_iv 0 100 z := gb_iw iz (by decide)
      refine gm_bdP (mt_ofGoose hn hT i2' (gb_iw (gb_ic (a := 2) (by decide)) (by decide))) (fun r4 _ => ?_)
      refine gm_bdP (mt_ofPath hn hT iz' (gb_iw (gb_ic (a := 0) (by decide)) (by decide))) (fun r6 _ => ?_)
      refine gm_if (fun c2 => ?_) (fun c2 => ?_)
      · exact key _ mm _ _ _ _ _ _ _ _ _ _ _ _ hT i2 h5 h6 h8 i9' iz iz2 hm ih
      · refine gm_bdP (mt_ofGoose hn hT i2' (gb_iw (gb_ic (a := 2) (by decide)) (by decide))) (fun r7 _ => ?_)
        refine gm_bdP (mt_ofPath hn hT iz' (gb_iw (gb_ic (a := 0) (by decide)) (by decide))) (fun r8 _ => ?_)
        exact key _ mm _ _ _ _ _ _ _ _ _ _ _ _ hT i2 h5 h6 h8 i9' iz iz2 hm ih
theorem mt_two {n : Nat} (hn : gb_N ≤ n) {f : gb_F} {w : Int64} {p1 p2 p3 p4 : Int32} (hT : gb_TM f) : gb_tm (ms_two n f w p1 p2 p3 p4) (fun f2 _ _ => gb_TM f2) := by
  unfold ms_two
  refine gm_bdT (mt_isBorder hT) (fun f1 w1 r1 hX h1 => ?_)
  refine gm_if (fun c => gm_some hX.1) (fun c => ?_)
  refine gm_bdP (mt_isGoose hX.1) (fun r2 h2 => gm_if (fun c => gm_some hX.1) (fun c2 => ?_))
  refine gm_bdP (mt_paths hX.1) (fun r3 h3 => gm_if (fun c => gm_some hX.1) (fun c3 => ?_))
  refine gm_bdP (mt_isOf hX.1 (gb_il (a := 0) (by decide) (by decide))) (fun r4 h4 => gm_if (fun c => gm_some hX.1) (fun c4 => ?_))
  refine gm_bdP mt_isIn (fun r5 h5 => gm_if (fun c => gm_some hX.1) (fun c5 => ?_))
  refine gm_lt (fun x ex => ?_)
  refine gm_bdP (mt_placeOf0 (h4.2 c4)) (fun r6 h6 => ?_)
  have hp := hX.1.1.1.1
  rw [← ex] at hp
  have i0 : gb_iv 0 25 (0 : Int32) := gb_iw (gb_ic (a := 0) (by decide)) (by decide)
  exact mt_two_66 hn n _ _ _ _ _ _ _ _ _ hX.1 (h2.2 c2) hp h6 (fun q => absurd q (by decide)) i0 (gb_fuu hn i0 (by decide))
