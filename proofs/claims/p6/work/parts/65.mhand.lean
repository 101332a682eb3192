/-! THE REFERENCE: by hand -/
set_option maxHeartbeats 4000000 in
theorem mt_codes_4P {n : Nat} {f : gb_F} {w : Int64} (hT : gb_TM f) (hP : gb_PP f) : ∀ (mm : Nat) (v1 v2 : Int32) (K : Nat), v2.toInt + K = 8 → 0 ≤ v2.toInt → 1 ≤ v1.toInt → v1.toInt * (5 : Int) ^ K ≤ 390625 → K < mm → gb_tm (ms_codes_4 n mm f w v1 v2) (fun f2 w2 r => f2 = f ∧ w2 = w ∧ gb_iv 1 2147483647 r) := by
  intro mm
  induction mm with
  | zero =>
    intro v1 v2 K h1 h2 h3 h4 hm
    exact absurd hm (Nat.not_lt_zero _)
  | succ mm ih =>
    intro v1 v2 K h1 h2 h3 h4 hm
    rw [ms_codes_4]
    refine gm_bdP (mt_geese hT) (fun r h => ?_)
    have hv := (gb_it v1).2
    refine gm_if (fun c => gm_some ⟨rfl, rfl, h3, hv⟩) (fun c => ?_)
    have hc := gb_dnle c
    have hr := h.2
    refine gm_bdP (mt_pathsP hT hP) (fun q hq => ?_)
    obtain ⟨K2, rfl⟩ : ∃ K2, K = K2 + 1 := ⟨K - 1, by omega⟩
    have hq1 := hq.1.1
    have hq2 := hq.1.2
    have p5 : (0 : Int) < (5 : Int) ^ K2 := Int.pow_pos (by decide)
    have e5 : (5 : Int) ^ (K2 + 1) = (5 : Int) ^ K2 * 5 := Int.pow_succ _ _
    rw [e5] at h4
    have a1 : v1.toInt * q.toInt ≤ v1.toInt * 5 := Int.mul_le_mul_of_nonneg_left hq2 (by omega)
    have a2 : v1.toInt * q.toInt * (5 : Int) ^ K2 ≤ v1.toInt * 5 * (5 : Int) ^ K2 := Int.mul_le_mul_of_nonneg_right a1 (by omega)
    have a3 : v1.toInt * 5 * (5 : Int) ^ K2 = v1.toInt * ((5 : Int) ^ K2 * 5) := by
      rw [Int.mul_assoc, Int.mul_comm 5]
    have a4 : 1 ≤ v1.toInt * q.toInt := by
      have := Int.mul_le_mul (a := 1) (b := 1) h3 hq1 (by decide) (by omega)
      omega
    have a5 : v1.toInt * q.toInt * 1 ≤ v1.toInt * q.toInt * (5 : Int) ^ K2 := Int.mul_le_mul_of_nonneg_left (by omega) (by omega)
    have em := gb_tmul (x := v1) (y := q) (by omega) (by omega)
    refine gm_lt (fun x ex => gm_lt (fun y ey => ?_))
    have e2 : y.toInt = v2.toInt + 1 := by
      rw [ey]
      exact gb_i1 (a := 0) (b := 8) ⟨by omega, by omega⟩ (by decide)
    refine ih x y K2 (by omega) (by omega) (by rw [ex, em]; exact a4) (by rw [ex, em]; omega) (by omega)
theorem mt_codesP {n : Nat} (hn : gb_N ≤ n) {f : gb_F} {w : Int64} (hT : gb_TM f) (hP : gb_PP f) : gb_tm (ms_codes n f w) (fun f2 w2 r => f2 = f ∧ w2 = w ∧ gb_iv 1 2147483647 r) := by
  unfold ms_codes
  refine mt_codes_4P hT hP n 1 0 8 (by decide) (by decide) (by decide) (by decide) ?_
  unfold gb_N at hn
  omega
set_option maxHeartbeats 4000000 in
theorem mt_bestWorth_13 {n : Nat} (hn : gb_N ≤ n) {f0 : gb_F} (hP : gb_PP f0) : ∀ (mm : Nat) (f : gb_F) (w : Int64) (v1 v2 v3 : Int32), gb_XK f0 f → gb_iv 0 2147483647 v3 → (v3.toInt = 0 ∨ 0 ≤ (f 0 28).toInt) → (2147483647 - v3.toInt).toNat < mm → gb_tm (ms_bestWorth_13 n mm f w v1 v2 v3) (fun f2 _ _ => gb_XK f0 f2 ∧ 0 ≤ (f2 0 28).toInt) := by
  intro mm
  induction mm with
  | zero =>
    intro f w v1 v2 v3 hX i3 hb hm
    exact absurd hm (Nat.not_lt_zero _)
  | succ mm ih =>
    intro f w v1 v2 v3 hX i3 hb hm
    rw [ms_bestWorth_13]
    refine gm_bdP (mt_codesP hn hX.1 (gb_PPx hX hP)) (fun r h => ?_)
    have hr1 := h.1
    have hr2 := h.2
    refine gm_if (fun c => gm_some ⟨hX, ?_⟩) (fun c => ?_)
    · have := gb_dle c
      rcases hb with hb | hb
      · omega
      · exact hb
    have hc := gb_dnle c
    have i3' : gb_iv 0 2147483646 v3 := ⟨i3.1, by omega⟩
    refine gm_bdK hX (mt_worthOf hn hX.1 (gb_PPx hX hP) i3) (fun f2 w2 r2 hX2 _ => ?_)
    have e28 : ∀ g : gb_F, (gb_u g 0 (upd (g 0) 28 v3)) 0 28 = v3 := fun g => rfl
    have st : ∀ x : Int32, x = v3 + 1 → gb_iv 0 2147483647 x := fun x e => by
      rw [e]
      exact gb_iw (gb_iadd (lo := 1) (hi := 2147483647) i3' (gb_ic (a := 1) (by decide)) (by decide)) (by decide)
    refine gm_if (fun c1 => ?_) (fun c1 => ?_)
    · refine gm_ltf (gb_XKf hX2 rfl) (fun f3 e3 hX3 => gm_lt (fun x ex => ?_))
      exact ih _ _ _ _ _ hX3 (st x ex) (Or.inr (by rw [e3, e28]; exact i3.1)) (gb_mup ex i3' (by decide) hm)
    have hn28 : 0 ≤ (f2 0 28).toInt := by
      have := gb_dnlt c1
      have z : (0 : Int32).toInt = 0 := by decide
      omega
    refine gm_if (fun c2 => ?_) (fun c2 => ?_)
    · refine gm_if (fun c3 => ?_) (fun c3 => ?_)
      · refine gm_ltf (gb_XKf hX2 rfl) (fun f3 e3 hX3 => gm_lt (fun x ex => ?_))
        exact ih _ _ _ _ _ hX3 (st x ex) (Or.inr (by rw [e3, e28]; exact i3.1)) (gb_mup ex i3' (by decide) hm)
      · exact gm_lt (fun x ex => ih _ _ _ _ _ hX2 (st x ex) (Or.inr hn28) (gb_mup ex i3' (by decide) hm))
    · refine gm_if (fun c3 => ?_) (fun c3 => ?_)
      · refine gm_ltf (gb_XKf hX2 rfl) (fun f3 e3 hX3 => gm_lt (fun x ex => ?_))
        exact ih _ _ _ _ _ hX3 (st x ex) (Or.inr (by rw [e3, e28]; exact i3.1)) (gb_mup ex i3' (by decide) hm)
      · exact gm_lt (fun x ex => ih _ _ _ _ _ hX2 (st x ex) (Or.inr hn28) (gb_mup ex i3' (by decide) hm))
theorem mt_bestWorthE {n : Nat} (hn : gb_N ≤ n) {f : gb_F} {w : Int64} {p1 : Int32} (hT : gb_TM f) (hP : gb_PP f) : gb_tm (ms_bestWorth n f w p1) (fun f2 _ _ => gb_XK f f2 ∧ 0 ≤ (f2 0 28).toInt) := by
  unfold ms_bestWorth
  refine gm_bdK (gb_XKr hT) (mt_measures hn hT) (fun f2 w2 _ hX2 _ => ?_)
  refine gm_ltf (gb_XKf hX2 rfl) (fun f3 e3 hX3 => ?_)
  exact mt_bestWorth_13 hn hP n f3 w2 p1 0 0 hX3 (gb_iw (gb_ic (a := 0) (by decide)) (by decide)) (Or.inl (by decide)) (gb_fuu (lo := 0) hn (gb_iw (gb_ic (a := 0) (by decide)) (by decide)) (by decide))
theorem mt_bestWorth {n : Nat} (hn : gb_N ≤ n) {f : gb_F} {w : Int64} {p1 : Int32} (hT : gb_TM f) (hP : gb_PP f) : gb_tm (ms_bestWorth n f w p1) (fun f2 _ r => gb_XK f f2 ∧ gb_iv (-2147483648) 2147483647 r) := gm_mono (mt_bestWorthE hn hT hP) (fun _ _ _ h => ⟨h.1, gb_it _⟩)
theorem mt_even_36 {n : Nat} (hn : gb_N ≤ n) {f : gb_F} {w : Int64} {v2 : Int32} (hT : gb_TM f) (hP : gb_PP f) (i2 : gb_iv 0 24 v2) : gb_tm (ms_even_36 n f w v2) (fun f2 _ r => gb_TM f2 ∧ gb_iv (-2147483648) 2147483647 r) := by
  unfold ms_even_36
  refine gm_bd (mt_bestWorthE hn hT hP) (fun f2 w2 r h => ?_)
  obtain ⟨hX, hb⟩ := h
  refine gm_if (fun c => gm_some ⟨hX.1, gb_it _⟩) (fun c => ?_)
  refine gm_if (fun c2 => ?_) (fun c2 => ?_)
  · refine gm_bdK hX (mt_sums hn hX.1 (gb_PPx hX hP) ⟨hb, (gb_it _).2⟩) (fun f3 w3 _ hX3 _ => ?_)
    have hc := gb_dle c2
    have c20 : (20 : Int32).toInt = 20 := by decide
    have i3 : gb_iv 20 24 v2 := ⟨by omega, i2.2⟩
    refine gm_bdP (mt_payOf hn hX3.1 (gb_isub (lo := 0) (hi := 4) i3 (gb_ic (a := 20) (by decide)) (by decide))) (fun r3 h3 => ?_)
    exact gm_some ⟨hX3.1, h3⟩
  · refine gm_bdP (mt_figure hn hX.1 (gb_PPx hX hP)) (fun r3 h3 => ?_)
    exact gm_some ⟨hX.1, h3⟩
theorem mt_even {n : Nat} (hn : gb_N ≤ n) {f : gb_F} {w : Int64} {p1 p2 : Int32} (hT : gb_TM f) : gb_tm (ms_even n f w p1 p2) (fun f2 _ r => gb_TM f2 ∧ gb_iv (-2147483648) 2147483647 r) := by
  unfold ms_even
  refine gm_bdT (mt_canMarch hT) (fun f1 w1 r1 hX h1 => ?_)
  refine gm_if (fun c => gm_some ⟨hX.1, gb_it _⟩) (fun c => ?_)
  refine gm_if (fun c2 => ?_) (fun c2 => ?_)
  · exact mt_even_36 hn hX.1 (h1.2 c) (gb_iw (gb_ie c2 (gb_ic (a := 0) (by decide))) (by decide))
  refine gm_bdP (mt_isGoose hX.1) (fun r2 h2 => ?_)
  refine gm_if (fun c3 => ?_) (fun c3 => ?_)
  · refine gm_bdP (mt_isPath hX.1) (fun r3 h3 => ?_)
    refine gm_if (fun c => gm_some ⟨hX.1, gb_it _⟩) (fun c4 => ?_)
    exact mt_even_36 hn hX.1 (h1.2 c) (gb_iw (gb_vsub (lo := 20) (hi := 24) (v := 20) (h3.2 c4) (by decide) (by decide)) (by decide))
  · exact mt_even_36 hn hX.1 (h1.2 c) (gb_iw (gb_vsub (lo := 10) (hi := 17) (v := 10) (h2.2 c3) (by decide) (by decide)) (by decide))
theorem mt_richest_34 {n : Nat} (hn : gb_N ≤ n) {f : gb_F} {w : Int64} {v2 v3 : Int32} (hT : gb_TM f) (hP : gb_PP f) (i2 : gb_iv 0 1 v2) : gb_tm (ms_richest_34 n f w v2 v3) (fun f2 _ r => gb_TM f2 ∧ gb_iv (-2147483648) 2147483647 r) := by
  unfold ms_richest_34
  refine gm_bdP (mt_placeOf2 i2) (fun r h => ?_)
  refine gm_ltT (gb_TM25 hT (Or.inr h)) (fun f2 e2 hX => ?_)
  have hP2 : gb_PP f2 := by
    rw [e2]
    exact (hP : gb_PP f)
  refine gm_bdK hX (mt_bestWorth hn hX.1 hP2) (fun f3 w3 r3 hX3 _ => ?_)
  refine gm_if (fun c => gm_some ⟨hX3.1, gb_it _⟩) (fun c => ?_)
  refine gm_bdP (mt_figure hn hX3.1 (gb_PPx hX3 hP2)) (fun r4 h4 => ?_)
  exact gm_some ⟨hX3.1, h4⟩
theorem mt_richest {n : Nat} (hn : gb_N ≤ n) {f : gb_F} {w : Int64} {p1 p2 p3 : Int32} (hT : gb_TM f) : gb_tm (ms_richest n f w p1 p2 p3) (fun f2 _ r => gb_TM f2 ∧ gb_iv (-2147483648) 2147483647 r) := by
  unfold ms_richest
  refine gm_bdT (mt_canMarch hT) (fun f1 w1 r1 hX h1 => ?_)
  refine gm_if (fun c => gm_some ⟨hX.1, gb_it _⟩) (fun c => ?_)
  refine gm_bdP (mt_isOf hX.1 (gb_il (a := 2) (by decide) (by decide))) (fun r2 h2 => ?_)
  refine gm_if (fun c => gm_some ⟨hX.1, gb_it _⟩) (fun c2 => ?_)
  refine gm_if (fun c3 => mt_richest_34 hn hX.1 (h1.2 c) (h2.2 c2)) (fun c3 => ?_)
  refine gm_bdP (mt_isGoose hX.1) (fun r3 h3 => ?_)
  exact gm_if (fun c => gm_some ⟨hX.1, gb_it _⟩) (fun c4 => mt_richest_34 hn hX.1 (h1.2 c) (h2.2 c2))
/-! nights with another BORDER's dawn -/
theorem mt_isBorderN {n : Nat} {f : gb_F} {w : Int64} {p1 : Int32} (hT : gb_TM f) (hN : gb_NN f) : gb_tm (ms_isBorder n f w p1) (fun f2 _ r => gb_TM f2 ∧ gb_NN f2) := by
  unfold ms_isBorder
  refine gm_bdP (mt_isOf hT (gb_il (a := 0) (by decide) (by decide))) (fun r h => ?_)
  refine gm_if (fun c => gm_some ⟨hT, hN⟩) (fun c => ?_)
  refine gm_bdP (mt_placeOf0 (h.2 c)) (fun r3 h3 => ?_)
  exact gm_lt (fun x e => gm_some ⟨by rw [e]; exact gb_TM11 hT (Or.inr h3), by rw [e]; exact hN⟩)
theorem mt_areSeenN {n : Nat} {f : gb_F} {w : Int64} {p1 p2 : Int32} (hT : gb_TM f) (hN : gb_NN f) : gb_tm (ms_areSeen n f w p1 p2) (fun f2 _ r => gb_TM f2 ∧ gb_NN f2) := by
  unfold ms_areSeen
  refine gm_bd (mt_isBorderN hT hN) (fun f1 w1 r1 h1 => ?_)
  obtain ⟨hT1, hN1⟩ := h1
  refine gm_if (fun c => gm_some ⟨hT1, hN1⟩) (fun c => ?_)
  refine gm_bdP (mt_isOf hT1 (gb_il (a := 3) (by decide) (by decide))) (fun r h => ?_)
  refine gm_if (fun c => gm_some ⟨hT1, hN1⟩) (fun c => ?_)
  refine gm_bdP (mt_placeOf3 (h.2 c)) (fun r3 h3 => ?_)
  exact gm_lt (fun x e => gm_some ⟨by rw [e]; exact gb_TM29 hT1 (Or.inr h3), by rw [e]; exact hN1⟩)
/-! the tape, images -/
theorem gb_TMu1 {f : gb_F} {i : Nat} {v : Int32} (h : gb_TM f) (hv : gb_iv (gt_1 (i % 992)).1 (gt_1 (i % 992)).2 v) : gb_TM (gb_u f 1 (upd (f 1) i v)) := by
  refine ⟨h.1, fun j => ?_⟩
  show gb_iv _ _ (upd (f 1) i v j)
  unfold upd
  by_cases c : j = i
  · rw [if_pos c, c]
    exact hv
  · rw [if_neg c]
    exact h.2 j
theorem gb_TMu1f {f f0 : gb_F} {i : Nat} {v : Int32} (h : gb_TM f) (hv : gb_iv (gt_1 (i % 992)).1 (gt_1 (i % 992)).2 v) (h0 : f 0 = f0 0) : gb_TM (gb_u f 1 (upd (f 1) i v)) ∧ (gb_u f 1 (upd (f 1) i v)) 0 = f0 0 := ⟨gb_TMu1 h hv, h0⟩
theorem gb_cl {x : Int32} {a b : Int} (h : gb_iv a b x) (k : 0 ≤ a) : ((Int32.toNatClampNeg x : Nat) : Int) = x.toInt := by
  unfold Int32.toNatClampNeg
  have := h.1
  omega
theorem gt_1b {j : Nat} (h1 : 10 ≤ j) (h2 : j < 610) : gt_1 (j % 992) = (0, 255) := by
  have q : j % 992 = j := Nat.mod_eq_of_lt (by omega)
  rw [q]
  unfold gt_1
  rw [if_neg (by omega), if_neg (by omega), if_neg (by omega), if_neg (by omega), if_neg (by omega), if_pos (by omega)]
theorem mt_end {n : Nat} {f : gb_F} {w : Int64} {p1 : Int32} (hT : gb_TM f) : gb_tm (ms_end n f w p1) (fun f2 _ _ => gb_TM f2) := by
  unfold ms_end
  refine gm_if (fun c => gm_some hT) (fun c => ?_)
  refine gm_lti (gb_r1 (lo := 0) (hi := 600) (j := Int32.toNatClampNeg 4) hT (by decide)) (fun x e i => ?_)
  refine gm_if (fun c2 => gm_lt (fun f2 e2 => gm_some ?_)) (fun c2 => gm_some hT)
  rw [e2]
  refine gb_TMu1 hT ?_
  have h1 := gb_dnlt c
  have h2 := gb_dle c2
  have h3 := i.2
  have z : (0 : Int32).toInt = 0 := by decide
  exact ⟨by show (0 : Int) ≤ _; omega, by show _ ≤ (600 : Int); omega⟩
set_option maxHeartbeats 4000000 in
theorem mt_feed_20 {n : Nat} : ∀ (mm : Nat) (f : gb_F) (w : Int64) (v1 v2 v3 v4 v5 v6 : Int32), gb_TM f → gb_iv 0 20 v6 → (f 1 4).toInt + 20 - v6.toInt ≤ 600 → (20 - v6.toInt).toNat < mm → gb_tm (ms_feed_20 n mm f w v1 v2 v3 v4 v5 v6) (fun f2 _ _ => gb_TM f2) := by
  have c4 : Int32.toNatClampNeg 4 = 4 := by decide
  have key : ∀ (k20 : gb_F → Int64 → Int32 → Int32 → Int32 → Int32 → Int32 → Int32 → gb_MR Int32) (mm : Nat) (f : gb_F) (w : Int64) (v1 v2 v3 v4 v5 v6 t0 : Int32), gb_TM f → gb_iv 0 19 v6 → (f 1 4).toInt + 20 - v6.toInt ≤ 600 → (20 - v6.toInt).toNat < mm + 1 → (∀ (f : gb_F) (w : Int64) (v1 v2 v3 v4 v5 v6 : Int32), gb_TM f → gb_iv 0 20 v6 → (f 1 4).toInt + 20 - v6.toInt ≤ 600 → (20 - v6.toInt).toNat < mm → gb_tm (k20 f w v1 v2 v3 v4 v5 v6) (fun f2 _ _ => gb_TM f2)) → gb_tm (ms_feed_73 n k20 f w v1 v2 v3 v4 v5 v6 t0) (fun f2 _ _ => gb_TM f2) := by
    intro k20 mm f w v1 v2 v3 v4 v5 v6 t0 hT i6 ht hm hk
    unfold ms_feed_73
    rw [c4]
    have i4 : gb_iv 0 600 (f 1 4) := gb_r1 (j := 4) hT (by decide)
    refine gm_lt (fun x ex => gm_lt (fun y ey => ?_))
    have h19 := i6.2
    have ix : gb_iv 0 599 x := by
      rw [ex]
      exact ⟨i4.1, by omega⟩
    have ia := gb_iadd (lo := 10) (hi := 609) (gb_ic (x := 10) (a := 10) (by decide)) ix (by decide)
    refine gm_ck ia (by decide) (gm_lt (fun f2 e2 => gm_lt (fun z ez => gm_lt (fun f3 e3 => gm_lt (fun u eu => ?_)))))
    have hc := gb_cl ia (by decide)
    have hT2 : gb_TM f2 := by
      rw [e2]
      refine gb_TMu1 hT ?_
      rw [gt_1b (by have := ia.1; omega) (by have := ia.2; omega)]
      exact gb_iandr (b := 255) (lo := 0) (hi := 255) (gb_iw (gb_ic (a := 255) (by decide)) (by decide)) (by decide)
    have ne4 : (4 : Nat) ≠ Int32.toNatClampNeg (10 + x) := by
      have := ia.1
      omega
    have e4 : f2 1 4 = f 1 4 := by
      rw [e2]
      exact pk_un ne4
    have hz : z.toInt = (f 1 4).toInt := by rw [ez, e4]
    have iz : gb_iv 0 599 z := ⟨by have := i4.1; omega, by omega⟩
    have hz1 := gb_i1 iz (by decide)
    have hT3 : gb_TM f3 := by
      rw [e3]
      refine gb_TMu1 hT2 ?_
      exact ⟨by show (0 : Int) ≤ _; have := iz.1; omega, by show _ ≤ (600 : Int); have := iz.2; omega⟩
    have e5 : f3 1 4 = z + 1 := by
      rw [e3]
      show upd (f2 1) 4 (z + 1) 4 = z + 1
      exact pk_us
    have iu : gb_iv 0 20 u := by
      rw [eu]
      exact gb_iw (gb_iadd (lo := 1) (hi := 20) i6 (gb_ic (a := 1) (by decide)) (by decide)) (by decide)
    have hu := gb_i1 i6 (by decide)
    rw [← eu] at hu
    exact hk _ _ _ _ _ _ _ _ hT3 iu (by rw [e5, hz1]; omega) (gb_mup eu i6 (by decide) hm)
  intro mm
  induction mm with
  | zero =>
    intro f w v1 v2 v3 v4 v5 v6 hT i6 ht hm
    exact absurd hm (Nat.not_lt_zero _)
  | succ mm ih =>
    intro f w v1 v2 v3 v4 v5 v6 hT i6 ht hm
    rw [ms_feed_20]
    refine gm_if (fun c => gm_lt (fun x e => gm_some hT)) (fun c => ?_)
    have i6' : gb_iv 0 19 v6 := gb_rU (s := 1) (gb_dnle c) i6 (gb_ic (a := 20) (by decide)) (by decide)
    refine gm_if (fun c1 => ?_) (fun c1 => key _ mm _ _ _ _ _ _ _ _ _ hT i6' ht hm ih)
    refine gm_if (fun c2 => ?_) (fun c2 => key _ mm _ _ _ _ _ _ _ _ _ hT i6' ht hm ih)
    refine gm_if (fun c3 => ?_) (fun c3 => key _ mm _ _ _ _ _ _ _ _ _ hT i6' ht hm ih)
    exact gm_if (fun c4 => key _ mm _ _ _ _ _ _ _ _ _ hT i6' ht hm ih) (fun c4 => key _ mm _ _ _ _ _ _ _ _ _ hT i6' ht hm ih)
theorem mt_feed {n : Nat} (hn : gb_N ≤ n) {f : gb_F} {w : Int64} {p1 p2 p3 p4 p5 : Int32} (hT : gb_TM f) : gb_tm (ms_feed n f w p1 p2 p3 p4 p5) (fun f2 _ _ => gb_TM f2) := by
  unfold ms_feed
  have c4 : Int32.toNatClampNeg 4 = 4 := by decide
  rw [c4]
  have i4 : gb_iv 0 600 (f 1 4) := gb_r1 (j := 4) hT (by decide)
  refine gm_lt (fun x e => gm_if (fun c => ?_) (fun c => gm_some hT))
  have i0 : gb_iv 0 20 (0 : Int32) := gb_iw (gb_ic (a := 0) (by decide)) (by decide)
  refine mt_feed_20 n f w p1 p2 p3 p4 p5 0 hT i0 ?_ (gb_fuu hn i0 (by decide))
  have hc := gb_dle c
  have c20 : (20 : Int32).toInt = 20 := by decide
  have c600 : (600 : Int32).toInt = 600 := by decide
  have c0 : (0 : Int32).toInt = 0 := by decide
  have h1 := i4.1
  have h2 := i4.2
  rw [← e] at h1 h2 ⊢
  have := gb_tadd (x := x) (y := 20) (by omega) (by omega)
  omega
theorem gb_992 {v1 v2 : Int32} (i1 : gb_iv 0 2 v1) (i2 : gb_iv 0 991 v2) : gb_iv 992 3967 ((992 * (v1 + 1)) + v2) ∧ (Int32.toNatClampNeg ((992 * (v1 + 1)) + v2)) % 992 = Int32.toNatClampNeg v2 := by
  have c1 : (992 : Int32).toInt = 992 := by decide
  have a1 := gb_i1 i1 (by decide)
  have h1 := i1.1
  have h2 := i1.2
  have h3 := i2.1
  have h4 := i2.2
  have a2 : (992 * (v1 + 1)).toInt = 992 * (v1.toInt + 1) := by
    rw [gb_tmul (by rw [c1, a1]; omega) (by rw [c1, a1]; omega), c1, a1]
  have a3 : ((992 * (v1 + 1)) + v2).toInt = 992 * (v1.toInt + 1) + v2.toInt := by
    rw [gb_tadd (by rw [a2]; omega) (by rw [a2]; omega), a2]
  refine ⟨⟨by omega, by omega⟩, ?_⟩
  have e1 : Int32.toNatClampNeg ((992 * (v1 + 1)) + v2) = (v1.toInt.toNat + 1) * 992 + v2.toInt.toNat := gb_tn (by omega)
  have e2 : Int32.toNatClampNeg v2 = v2.toInt.toNat := gb_tn (by omega)
  rw [e1, e2]
  omega
set_option maxHeartbeats 4000000 in
theorem mt_image_20 {n : Nat} : ∀ (mm : Nat) (f : gb_F) (w : Int64) (v1 v2 : Int32), gb_TM f → gb_iv 0 2 v1 → gb_iv 0 992 v2 → (992 - v2.toInt).toNat < mm → gb_tm (ms_image_20 n mm f w v1 v2) (fun f2 _ r => gb_TM f2 ∧ r = 1) := by
  intro mm
  induction mm with
  | zero =>
    intro f w v1 v2 hT i1 i2 hm
    exact absurd hm (Nat.not_lt_zero _)
  | succ mm ih =>
    intro f w v1 v2 hT i1 i2 hm
    rw [ms_image_20]
    refine gm_if (fun c => gm_some ⟨hT, rfl⟩) (fun c => ?_)
    have i2' : gb_iv 0 991 v2 := gb_rU (s := 1) (gb_dnle c) i2 (gb_ic (a := 992) (by decide)) (by decide)
    obtain ⟨k1, k2⟩ := gb_992 i1 i2'
    refine gm_ck i2' (by decide) (gm_lt (fun x e => gm_ck k1 (by decide) (gm_lt (fun f2 e2 => gm_lt (fun y ey => ?_)))))
    refine ih f2 w v1 y ?_ i1 ?_ (gb_mup ey i2' (by decide) hm)
    · rw [e2]
      refine gb_TMu1 hT ?_
      rw [k2, e]
      have := hT.2 (Int32.toNatClampNeg v2)
      have h5 : Int32.toNatClampNeg v2 % 992 = Int32.toNatClampNeg v2 := Nat.mod_eq_of_lt (by
        have := gb_cl i2' (by decide)
        have := i2'.2
        omega)
      rw [h5] at this
      exact this
    · rw [ey]
      exact gb_iw (gb_iadd (lo := 1) (hi := 992) i2' (gb_ic (a := 1) (by decide)) (by decide)) (by decide)
theorem mt_image {n : Nat} (hn : gb_N ≤ n) {f : gb_F} {w : Int64} {p1 : Int32} (hT : gb_TM f) : gb_tm (ms_image n f w p1) (fun f2 _ r => gb_TM f2 ∧ (gb_iv 0 2 p1 ∧ r = 1 ∨ ¬ gb_iv 0 2 p1 ∧ r = 0)) := by
  unfold ms_image
  have c0 : (0 : Int32).toInt = 0 := by decide
  have c2 : (2 : Int32).toInt = 2 := by decide
  have key : gb_tm (ms_isIn n f w p1 0 2) (fun f2 w2 r => f2 = f ∧ w2 = w ∧ (r = 0 ↔ ¬ gb_iv 0 2 p1)) := by
    unfold ms_isIn
    refine gm_if (fun c => gm_some ⟨rfl, rfl, fun _ h => ?_, fun _ => rfl⟩) (fun c => gm_if (fun d => gm_some ⟨rfl, rfl, fun _ h => ?_, fun _ => rfl⟩) (fun d => gm_some ⟨rfl, rfl, fun h => absurd h (by decide), fun h => absurd ?_ h⟩))
    · have := gb_dlt c
      have := h.1
      omega
    · have := gb_dlt d
      have := h.2
      omega
    · have := gb_dnlt c
      have := gb_dnlt d
      exact ⟨by omega, by omega⟩
  refine gm_bdP key (fun r h => ?_)
  refine gm_if (fun c => gm_some ⟨hT, Or.inr ⟨h.mp c, rfl⟩⟩) (fun c => ?_)
  have i1 : gb_iv 0 2 p1 := Classical.byContradiction (fun q => c (h.mpr q))
  refine gm_ck i1 (by decide) (gm_lt (fun f2 e2 => ?_))
  have hT2 : gb_TM f2 := by
    rw [e2]
    exact (gb_XKu (gb_XKr hT) rfl).1
  have i0 : gb_iv 0 992 (0 : Int32) := gb_iw (gb_ic (a := 0) (by decide)) (by decide)
  exact gm_mono (mt_image_20 n f2 w p1 0 hT2 i1 i0 (gb_fuu hn i0 (by decide))) (fun _ _ _ h => ⟨h.1, Or.inl ⟨i1, h.2⟩⟩)
set_option maxHeartbeats 4000000 in
theorem mt_again_22 {n : Nat} : ∀ (mm : Nat) (f : gb_F) (w : Int64) (v1 v2 : Int32), gb_TM f → gb_iv 0 2 v1 → gb_iv 0 992 v2 → (992 - v2.toInt).toNat < mm → gb_tm (ms_again_22 n mm f w v1 v2) (fun f2 _ r => gb_TM f2 ∧ r = 1) := by
  intro mm
  induction mm with
  | zero =>
    intro f w v1 v2 hT i1 i2 hm
    exact absurd hm (Nat.not_lt_zero _)
  | succ mm ih =>
    intro f w v1 v2 hT i1 i2 hm
    rw [ms_again_22]
    refine gm_if (fun c => gm_some ⟨hT, rfl⟩) (fun c => ?_)
    have i2' : gb_iv 0 991 v2 := gb_rU (s := 1) (gb_dnle c) i2 (gb_ic (a := 992) (by decide)) (by decide)
    obtain ⟨k1, k2⟩ := gb_992 i1 i2'
    refine gm_ck k1 (by decide) (gm_lt (fun x e => gm_ck i2' (by decide) (gm_lt (fun f2 e2 => gm_lt (fun y ey => ?_)))))
    refine ih f2 w v1 y ?_ i1 ?_ (gb_mup ey i2' (by decide) hm)
    · rw [e2]
      refine gb_TMu1 hT ?_
      have h5 : Int32.toNatClampNeg v2 % 992 = Int32.toNatClampNeg v2 := Nat.mod_eq_of_lt (by
        have := gb_cl i2' (by decide)
        have := i2'.2
        omega)
      rw [h5, ← k2, e]
      exact hT.2 _
    · rw [ey]
      exact gb_iw (gb_iadd (lo := 1) (hi := 992) i2' (gb_ic (a := 1) (by decide)) (by decide)) (by decide)
theorem mt_again {n : Nat} (hn : gb_N ≤ n) {f : gb_F} {w : Int64} {p1 : Int32} (hT : gb_TM f) : gb_tm (ms_again n f w p1) (fun f2 _ _ => gb_TM f2) := by
  unfold ms_again
  refine gm_bdP mt_isIn (fun r h => ?_)
  refine gm_if (fun c => gm_some hT) (fun c => ?_)
  have i1 : gb_iv 0 2 p1 := gb_iin (a := 0) (b := 0) (h.2 c) (by decide) (by decide)
  refine gm_ck i1 (by decide) (gm_lt (fun x e => gm_if (fun c2 => gm_some hT) (fun c2 => ?_)))
  have i0 : gb_iv 0 992 (0 : Int32) := gb_iw (gb_ic (a := 0) (by decide)) (by decide)
  exact gm_mono (mt_again_22 n f w p1 0 hT i1 i0 (gb_fuu hn i0 (by decide))) (fun _ _ _ h => h.1)
set_option maxHeartbeats 4000000 in
theorem mt_lacks_32 {n : Nat} (hn : gb_N ≤ n) {Q : gb_F → Int64 → Int32 → Prop} {f0 : gb_F} (hFNN : gb_NN f0) (hret : ∀ (f : gb_F) (w : Int64) (r : Int32), gb_XK f0 f → gb_iv (-1) 255 r → Q f w r) : ∀ (mm : Nat) (f : gb_F) (w : Int64) (v4 : Int32) (v5 : Int32), gb_XK f0 f → gb_iv 0 255 v4 → gb_iv 0 5 v5 → (5 - v5.toInt).toNat < mm → gb_tm (ms_lacks_32 n mm f w v4 v5) Q := by
  intro mm
  induction mm with
  | zero =>
    intro f w v4 v5 hX iv4 iv5 hm
    exact absurd hm (Nat.not_lt_zero _)
  | succ mm ih =>
    intro f w v4 v5 hX iv4 iv5 hm
    rw [ms_lacks_32]
    refine gm_ck (gb_i29 hX.1) (by decide) ?_
    refine gm_lti (lo := 0) (hi := 5) (gb_r29 hX.1) (fun x_19 ex_19 ix_19 => ?_)
    refine gm_if (fun c_3352287 => ?_) (fun c_3352287 => ?_)
    · exact gm_some (hret _ _ _ hX (gb_iw (lo := (-1)) (hi := 255) iv4 (by decide)))
    · have j_3352288 : gb_iv 0 4 v5 := (gb_rU (lo := 0) (hi := 4) (gb_dnle c_3352287) iv5 ix_19 (by decide))
      have j_3352289 : gb_iv 1 5 x_19 := (gb_rL (lo := 1) (hi := 5) (gb_dnle c_3352287) ix_19 j_3352288 (by decide))
      refine gm_bdP (mt_seenOf0 hX.1 j_3352288) (fun r_23 h_3352290 => ?_)
      refine gm_bdP (mt_isPath hX.1) (fun r_28 h_3352291 => ?_)
      refine gm_if (fun c_3352292 => ?_) (fun c_3352292 => ?_)
      · have j_3352293 : gb_iv 0 0 r_28 := (gb_rU (lo := 0) (hi := 0) (gb_deq c_3352292) h_3352291.1 (gb_ic (a := 0) (by decide)) (by decide))
        refine gm_lti (lo := 0) (hi := 255) (gb_ior iv4 (gb_iw (lo := 0) (hi := 255) (gb_ic (a := 0) (by decide)) (by decide))) (fun x_32 ex_32 ix_32 => ?_)
        refine gm_lti (lo := 1) (hi := 5) (gb_iadd (lo := 1) (hi := 5) j_3352288 (gb_ic (a := 1) (by decide)) (by decide)) (fun x_33 ex_33 ix_33 => ?_)
        exact ih _ _ _ _ hX ix_32 (gb_iw (lo := 0) (hi := 5) ix_33 (by decide)) (gb_mup ex_33 j_3352288 (by decide) hm)
      · have j_3352294 : gb_iv 1 1 r_28 := (gb_rN (lo := 1) (hi := 1) (v := 0) c_3352292 h_3352291.1 (by decide) (by decide))
        refine gm_bdP (mt_seenOf hn hX.1 (gb_iw (lo := 0) (hi := 5) j_3352288 (by decide)) (gb_iw (lo := 0) (hi := 1) (gb_ic (a := 1) (by decide)) (by decide))) (fun r_36 h_3352295 => ?_)
        refine gm_bdP (mt_seenOf0 hX.1 j_3352288) (fun r_41 h_3352296 => ?_)
        refine gm_bdP (mt_tally hn hX.1 h_3352296) (fun r_46 h_3352297 => ?_)
        refine gm_if (fun c_3352298 => ?_) (fun c_3352298 => ?_)
        · refine gm_lti (lo := 0) (hi := 255) (gb_ior iv4 (gb_iw (lo := 0) (hi := 255) (gb_ic (a := 0) (by decide)) (by decide))) (fun x_50 ex_50 ix_50 => ?_)
          refine gm_lti (lo := 1) (hi := 5) (gb_iadd (lo := 1) (hi := 5) j_3352288 (gb_ic (a := 1) (by decide)) (by decide)) (fun x_51 ex_51 ix_51 => ?_)
          exact ih _ _ _ _ hX ix_50 (gb_iw (lo := 0) (hi := 5) ix_51 (by decide)) (gb_mup ex_51 j_3352288 (by decide) hm)
        · have j_3352299 : gb_iv (-2147483648) 2147483646 r_36 := (gb_rU (lo := (-2147483648)) (hi := 2147483646) (gb_dnle c_3352298) (gb_it _) (gb_it _) (by decide))
          have j_3352300 : gb_iv (-2147483647) 2147483647 r_46 := (gb_rL (lo := (-2147483647)) (hi := 2147483647) (gb_dnle c_3352298) (gb_it _) j_3352299 (by decide))
          refine gm_bdP (mt_seenOf0 hX.1 j_3352288) (fun r_54 h_3352301 => ?_)
          refine gm_lti (lo := 0) (hi := 255) (gb_ior iv4 (gb_iw (lo := 0) (hi := 255) (gb_ishl (lo := 1) (hi := 16) h_3352301 (by decide)) (by decide))) (fun x_57 ex_57 ix_57 => ?_)
          refine gm_lti (lo := 1) (hi := 5) (gb_iadd (lo := 1) (hi := 5) j_3352288 (gb_ic (a := 1) (by decide)) (by decide)) (fun x_58 ex_58 ix_58 => ?_)
          exact ih _ _ _ _ hX ix_57 (gb_iw (lo := 0) (hi := 5) ix_58 (by decide)) (gb_mup ex_58 j_3352288 (by decide) hm)
set_option maxHeartbeats 4000000 in
theorem mt_lacks {n : Nat} (hn : gb_N ≤ n) {f : gb_F} {w : Int64} {p1 : Int32} {p2 : Int32} {p3 : Int32} (hT : gb_TM f) : gb_tm (ms_lacks n f w p1 p2 p3) (fun f2 _ r => gb_TM f2 ∧ gb_iv (-1) 255 r) := by
  have hX := gb_XKr hT
  unfold ms_lacks
  refine gm_bdT (mt_areTold hX.1) (fun f_1 wl_2 r_3 hXf_1 h_3352082 => ?_)
  refine gm_if (fun c_3352083 => ?_) (fun c_3352083 => ?_)
  · have j_3352084 : gb_iv 0 0 r_3 := (gb_rU (lo := 0) (hi := 0) (gb_deq c_3352083) h_3352082.1 (gb_ic (a := 0) (by decide)) (by decide))
    exact gm_some ⟨hXf_1.1, (gb_iw (lo := (-1)) (hi := 255) (gb_ic (a := (-1)) (by decide)) (by decide))⟩
  · have j_3352085 : gb_iv 1 1 r_3 := (gb_rN (lo := 1) (hi := 1) (v := 0) c_3352083 h_3352082.1 (by decide) (by decide))
    have hF_3352086 := (h_3352082.2 c_3352083)
    refine gm_bdT (mt_areSeenN hXf_1.1 (gb_NNx hXf_1 hF_3352086)) (fun f_7 wl_8 r_9 hXf_7 h_3352087 => ?_)
    refine gm_if (fun c_3352088 => ?_) (fun c_3352088 => ?_)
    · have j_3352089 : gb_iv (-2147483648) 0 r_9 := (gb_rU (lo := (-2147483648)) (hi := 0) (gb_deq c_3352088) (gb_it _) (gb_ic (a := 0) (by decide)) (by decide))
      have j_3352090 : gb_iv 0 0 r_9 := (gb_rL (lo := 0) (hi := 0) (gb_deq2 c_3352088) j_3352089 (gb_ic (a := 0) (by decide)) (by decide))
      exact gm_some ⟨hXf_7.1, (gb_iw (lo := (-1)) (hi := 255) (gb_ic (a := (-1)) (by decide)) (by decide))⟩
    · refine gm_bdK hXf_7 (mt_runs hn hXf_7.1 (gb_NNx hXf_7 h_3352087)) (fun f_13 wl_14 u_3352091 hXf_13 _ => ?_)
      exact mt_lacks_32 hn h_3352087 (fun _ _ _ hX h => ⟨hX.1, h⟩) n _ _ _ _ hXf_13 (gb_iw (lo := 0) (hi := 255) (gb_ic (a := 0) (by decide)) (by decide)) (gb_iw (lo := 0) (hi := 5) (gb_ic (a := 0) (by decide)) (by decide)) (gb_fuu hn (gb_iw (lo := 0) (hi := 5) (gb_ic (a := 0) (by decide)) (by decide)) (by decide))
