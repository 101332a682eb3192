/-! feed and end of both sides, exactly -/
def gb_am (j : Nat) : Int32 := if j = 0 then 24 else if j = 1 then 16 else if j = 2 then 8 else 0
def gb_cb1 (x : Int32) (j : Nat) : Int32 := vp_nar .byte ((x >>> (gb_am j &&& 31)).toInt8.toInt32)
def gb_rb1 (x : Int32) (j : Nat) : Int32 := (x >>> (gb_am j &&& 31)) &&& 255
theorem gb_amE {v : Int32} {j : Nat} (h : v.toInt = 24 - 8 * (j : Int)) (hj : j < 4) : v = gb_am j := by
  have c : j = 0 ∨ j = 1 ∨ j = 2 ∨ j = 3 := by omega
  rcases c with rfl | rfl | rfl | rfl
  · exact gi_eq h (by decide)
  · exact gi_eq h (by decide)
  · exact gi_eq h (by decide)
  · exact gi_eq h (by decide)
def gb_ad (σ0 : gb_S) (x : Int32) (L j : Nat) (σ : gb_S) : Prop := σ.1 1 = upd (σ0.1 1) 6 (σ.1 1 6) ∧ (σ.1 1 6).toInt = ((L + j : Nat) : Int) ∧ (∀ k, k ≠ 1 → k ≠ 23 → σ.1 k = σ0.1 k) ∧ ∀ i, σ.1 23 i = if L ≤ i ∧ i < L + j then gb_cb1 x (i - L) else σ0.1 23 i
theorem ch_add14 {n : Nat} {σ0 : gb_S} {x : Int32} {L : Nat} (hL : L ≤ 596) : ∀ (mm : Nat) (σ : gb_S) (v2 : Int32) (j : Nat), v2.toInt = 24 - 8 * (j : Int) → j ≤ 4 → gb_ad σ0 x L j σ → gb_hc (cs_Told_addBytes_14 n mm σ x v2) (fun s _ => gb_ad σ0 x L 4 s) := by
  intro mm
  induction mm with
  | zero =>
    intros
    exact hc_none
  | succ mm ih =>
    intro σ v2 j e2 hj hA
    unfold cs_Told_addBytes_14
    have c0 : (0 : Int32).toInt = 0 := by decide
    have c8 : (-8 : Int32).toInt = -8 := by decide
    refine hc_if (fun c => ?_) (fun c => ?_)
    · have := gi_lt c
      have hj4 : j = 4 := by omega
      rw [hj4] at hA
      exact hc_some hA
    · have := gi_nlt c
      have hj4 : j < 4 := by omega
      obtain ⟨a1, a2, a3, a4⟩ := hA
      refine hc_ck (fun _ _ => hc_lt (fun sA eA => hc_lt (fun sB eB => hc_lt (fun y ey => ?_))))
      have tn := gi_tn a2
      have sA1 : sA.1 1 = σ.1 1 := by
        rw [eA]
        exact gb_sun (by decide)
      have sB6 : sB.1 1 6 = σ.1 1 6 + 1 := by
        rw [eB, gb_sus, pk_us, sA1]
      have ll : (σ.1 1 6 + 1).toInt = ((L + (j + 1) : Nat) : Int) := by
        have := gi_s1 a2 (by omega)
        omega
      refine ih sB y (j + 1) ?_ (by omega) ⟨?_, ?_, fun k k1 k2 => ?_, fun i => ?_⟩
      · rw [ey, gb_tadd (by omega) (by omega), c8]
        omega
      · rw [sB6, eB, gb_sus, sA1, a1]
        funext i
        by_cases q : i = 6
        · rw [q, pk_us, pk_us, pk_us]
        · rw [pk_un q, pk_un q, pk_un q]
      · rw [sB6]
        exact ll
      · rw [eB, gb_sun k1, eA, gb_sun k2]
        exact a3 k k1 k2
      · rw [eB, gb_sun (by decide), eA, gb_sus, tn]
        by_cases q : i = L + j
        · rw [q, pk_us, if_pos (by omega), Nat.add_sub_cancel_left]
          unfold gb_cb1
          rw [gb_amE e2 hj4]
        · rw [pk_un q, a4 i]
          by_cases r : L ≤ i ∧ i < L + j
          · rw [if_pos r, if_pos (by omega)]
          · rw [if_neg r, if_neg (by omega)]
theorem ch_add {n : Nat} {σ : gb_S} {x : Int32} {L : Nat} (e : (σ.1 1 6).toInt = L) (hL : L ≤ 596) : gb_hc (cs_Told_addBytes n σ x) (fun s _ => gb_ad σ x L 4 s) := by
  unfold cs_Told_addBytes
  have c : (596 : Int32).toInt = 596 := by decide
  have d : (24 : Int32).toInt = 24 - 8 * ((0 : Nat) : Int) := by decide
  refine hc_if (fun _ => ch_add14 hL n σ 24 0 d (by omega) ⟨?_, e, fun _ _ _ => rfl, fun i => (if_neg (by omega)).symm⟩) (fun q => ?_)
  · funext i
    by_cases q : i = 6
    · rw [q, pk_us]
    · rw [pk_un q]
  · have := gi_nle q
    omega
/-- so many whole words behind the tape -/
def gb_fd (σ0 : gb_S) (W : Nat → Int32) (L m : Nat) (σ : gb_S) : Prop := σ.1 1 = upd (σ0.1 1) 6 (σ.1 1 6) ∧ (σ.1 1 6).toInt = ((L + 4 * m : Nat) : Int) ∧ (∀ k, k ≠ 1 → k ≠ 23 → σ.1 k = σ0.1 k) ∧ ∀ i, σ.1 23 i = if L ≤ i ∧ i < L + 4 * m then gb_cb1 (W ((i - L) / 4)) ((i - L) % 4) else σ0.1 23 i
theorem gb_fd1 {σ0 σ σ2 : gb_S} {W : Nat → Int32} {L m : Nat} (h : gb_fd σ0 W L m σ) (g : gb_ad σ (W m) (L + 4 * m) 4 σ2) : gb_fd σ0 W L (m + 1) σ2 := by
  obtain ⟨h1, h2, h3, h4⟩ := h
  obtain ⟨g1, g2, g3, g4⟩ := g
  refine ⟨?_, ?_, fun k a b => (g3 k a b).trans (h3 k a b), fun i => ?_⟩
  · funext i
    by_cases q : i = 6
    · rw [q, pk_us]
    · rw [g1, pk_un q, pk_un q, h1, pk_un q]
  · omega
  · rw [g4 i]
    by_cases q : L + 4 * m ≤ i ∧ i < L + 4 * m + 4
    · have q1 : (i - L) / 4 = m := by omega
      have q2 : (i - L) % 4 = i - (L + 4 * m) := by omega
      rw [if_pos q, if_pos (by omega), q1, q2]
    · rw [if_neg q, h4 i]
      by_cases r : L ≤ i ∧ i < L + 4 * m
      · rw [if_pos r, if_pos (by omega)]
      · rw [if_neg r, if_neg (by omega)]
def gb_w5 (p1 p2 p3 p4 p5 : Int32) (m : Nat) : Int32 := if m = 0 then p1 else if m = 1 then p2 else if m = 2 then p3 else if m = 3 then p4 else p5
theorem ch_feed {n : Nat} {σ : gb_S} {p1 p2 p3 p4 p5 : Int32} {L : Nat} (e : (σ.1 1 6).toInt = L) : gb_hc (cs_Face_feed n σ p1 p2 p3 p4 p5) (fun s r => (580 < L ∧ r = -1 ∧ s = σ) ∨ (L ≤ 580 ∧ r = s.1 1 6 ∧ gb_fd σ (gb_w5 p1 p2 p3 p4 p5) L 5 s)) := by
  unfold cs_Face_feed
  have c : (580 : Int32).toInt = 580 := by decide
  refine hc_if (fun q => ?_) (fun q => hc_some (Or.inl ⟨by have := gi_nle q; omega, rfl, rfl⟩))
  have hL := gi_le q
  have h0 : gb_fd σ (gb_w5 p1 p2 p3 p4 p5) L 0 σ := by
    refine ⟨?_, e, fun _ _ _ => rfl, fun i => (if_neg (by omega)).symm⟩
    funext i
    by_cases q : i = 6
    · rw [q, pk_us]
    · rw [pk_un q]
  refine hc_cd (ch_add h0.2.1 (by omega)) (fun s1 _ g1 => ?_)
  have h1 := gb_fd1 h0 g1
  refine hc_cd (ch_add h1.2.1 (by omega)) (fun s2 _ g2 => ?_)
  have h2 := gb_fd1 h1 g2
  refine hc_cd (ch_add h2.2.1 (by omega)) (fun s3 _ g3 => ?_)
  have h3 := gb_fd1 h2 g3
  refine hc_cd (ch_add h3.2.1 (by omega)) (fun s4 _ g4 => ?_)
  have h4 := gb_fd1 h3 g4
  refine hc_cd (ch_add h4.2.1 (by omega)) (fun s5 _ g5 => ?_)
  have h5 := gb_fd1 h4 g5
  exact hc_some (Or.inr ⟨by omega, rfl, h5⟩)
def gb_rd (f0 : gb_F) (W : Nat → Int32) (L t : Nat) (f : gb_F) : Prop := (f 1 4).toInt = ((L + t : Nat) : Int) ∧ (∀ i, i ≠ 4 → f 1 i = if 10 + L ≤ i ∧ i < 10 + L + t then gb_rb1 (W ((i - 10 - L) / 4)) ((i - 10 - L) % 4) else f0 1 i) ∧ ∀ q, q ≠ 1 → f q = f0 q
set_option maxHeartbeats 2000000 in
theorem mh_feed_20 {n : Nat} {f0 : gb_F} {p1 p2 p3 p4 p5 : Int32} {L : Nat} (hL : L ≤ 580) : ∀ (mm : Nat) (f : gb_F) (w : Int64) (v6 : Int32) (t : Nat), v6.toInt = t → t ≤ 20 → gb_rd f0 (gb_w5 p1 p2 p3 p4 p5) L t f → gb_hm (ms_feed_20 n mm f w p1 p2 p3 p4 p5 v6) (fun f2 _ r => r = f2 1 4 ∧ gb_rd f0 (gb_w5 p1 p2 p3 p4 p5) L 20 f2) := by
  intro mm
  induction mm with
  | zero =>
    intros
    exact hm_none
  | succ mm ih =>
    intro f w v6 t e6 ht hR
    rw [ms_feed_20]
    have c1 : (1 : Int32).toInt = 1 := by decide
    have c4 : (4 : Int32).toInt = 4 := by decide
    have c8 : (8 : Int32).toInt = 8 := by decide
    have c10 : (10 : Int32).toInt = 10 := by decide
    have c12 : (12 : Int32).toInt = 12 := by decide
    have c16 : (16 : Int32).toInt = 16 := by decide
    have c20 : (20 : Int32).toInt = 20 := by decide
    have c24 : (24 : Int32).toInt = 24 := by decide
    have t4 : Int32.toNatClampNeg 4 = 4 := by decide
    refine hm_if (fun c => ?_) (fun c => ?_)
    · have := gi_le c
      have h20 : t = 20 := by omega
      rw [h20] at hR
      rw [t4]
      exact hm_lt (fun x ex => hm_some ⟨ex, hR⟩)
    · have ht2 := gi_nle c
      have key : ∀ t0 : Int32, t0 = gb_w5 p1 p2 p3 p4 p5 (t / 4) → gb_hm (ms_feed_73 n (fun f w v1 v2 v3 v4 v5 v6 => ms_feed_20 n mm f w v1 v2 v3 v4 v5 v6) f w p1 p2 p3 p4 p5 v6 t0) (fun f2 _ r => r = f2 1 4 ∧ gb_rd f0 (gb_w5 p1 p2 p3 p4 p5) L 20 f2) := by
        intro t0 et
        obtain ⟨r1, r2, r3⟩ := hR
        unfold ms_feed_73
        rw [t4]
        refine hm_lt (fun x ex => hm_lt (fun y ey => hm_ck (fun _ _ => hm_lt (fun f2 e2 => hm_lt (fun z ez => hm_lt (fun f3 e3 => hm_lt (fun u eu => ?_)))))))
        have iv6 : gb_iv 0 19 v6 := ⟨by omega, by omega⟩
        have ydiv : (v6 / 4).toInt = ((t / 4 : Nat) : Int) := by
          rw [gb_tdiv iv6 (gb_ic c4) (by decide), c4, e6, Int.tdiv_eq_ediv_of_nonneg (by omega)]
          omega
        have ymul : (v6 / 4 * 4).toInt = ((t / 4 * 4 : Nat) : Int) := by
          rw [gb_tmul (by rw [ydiv, c4]; omega) (by rw [ydiv, c4]; omega), ydiv, c4]
          omega
        have yv : y.toInt = ((t % 4 : Nat) : Int) := by
          rw [ey, gb_tsub (by omega) (by omega), e6, ymul]
          omega
        have y8 : (8 * y).toInt = 8 * ((t % 4 : Nat) : Int) := by
          rw [gb_tmul (by rw [c8]; omega) (by rw [c8]; omega), c8, yv]
        have yam : (24 - 8 * y).toInt = 24 - 8 * ((t % 4 : Nat) : Int) := by
          rw [gb_tsub (by omega) (by omega), y8, c24]
        have am := gb_amE yam (by omega)
        have xp : (10 + x).toInt = ((10 + (L + t) : Nat) : Int) := by
          rw [gb_tadd (by rw [ex]; omega) (by rw [ex]; omega), ex, c10, r1]
          omega
        have xt := gi_tn xp
        have f24 : f2 1 4 = f 1 4 := by
          rw [e2, gb_us, xt, pk_un (by omega)]
        refine ih f3 w u (t + 1) (by rw [eu]; exact gi_s1 e6 (by omega)) (by omega) ⟨?_, fun i hi => ?_, fun q hq => ?_⟩
        · rw [e3, gb_us, pk_us, ez, f24]
          have := gi_s1 r1 (by omega)
          omega
        · rw [e3, gb_us, pk_un hi, e2, gb_us, xt]
          by_cases q : i = 10 + (L + t)
          · have q1 : (i - 10 - L) = t := by omega
            rw [q1, q, pk_us, if_pos (by omega), am, et]
            rfl
          · rw [pk_un q, r2 i hi]
            by_cases r : 10 + L ≤ i ∧ i < 10 + L + t
            · rw [if_pos r, if_pos (by omega)]
            · rw [if_neg r, if_neg (by omega)]
        · rw [e3, gb_un hq, e2, gb_un hq]
          exact r3 q hq
      refine hm_if (fun d1 => hm_if (fun d2 => hm_if (fun d3 => hm_if (fun d4 => key _ ?_) (fun d4 => key _ ?_)) (fun d3 => key _ ?_)) (fun d2 => key _ ?_)) (fun d1 => key _ ?_)
      · have := gi_le d4
        unfold gb_w5
        rw [if_neg (by omega), if_neg (by omega), if_neg (by omega), if_neg (by omega)]
      · have := gi_le d3
        have := gi_nle d4
        unfold gb_w5
        rw [if_neg (by omega), if_neg (by omega), if_neg (by omega), if_pos (by omega)]
      · have := gi_le d2
        have := gi_nle d3
        unfold gb_w5
        rw [if_neg (by omega), if_neg (by omega), if_pos (by omega)]
      · have := gi_le d1
        have := gi_nle d2
        unfold gb_w5
        rw [if_neg (by omega), if_pos (by omega)]
      · have := gi_nle d1
        unfold gb_w5
        rw [if_pos (by omega)]
theorem mh_feed {n : Nat} {f : gb_F} {w : Int64} {p1 p2 p3 p4 p5 : Int32} {L : Nat} (e : (f 1 4).toInt = L) (hL : L ≤ 600) : gb_hm (ms_feed n f w p1 p2 p3 p4 p5) (fun f2 _ r => (580 < L ∧ r = -1 ∧ f2 = f) ∨ (L ≤ 580 ∧ r = f2 1 4 ∧ gb_rd f (gb_w5 p1 p2 p3 p4 p5) L 20 f2)) := by
  unfold ms_feed
  have t4 : Int32.toNatClampNeg 4 = 4 := by decide
  have c20 : (20 : Int32).toInt = 20 := by decide
  have c600 : (600 : Int32).toInt = 600 := by decide
  have z : (0 : Int32).toInt = ((0 : Nat) : Int) := by decide
  rw [t4]
  refine hm_lt (fun x ex => ?_)
  have hx : (x + 20).toInt = ((L + 20 : Nat) : Int) := by
    rw [gb_tadd (by rw [ex]; omega) (by rw [ex]; omega), ex, c20, e]
    omega
  refine hm_if (fun c => ?_) (fun c => hm_some (Or.inl ⟨by have := gi_nle c; omega, rfl, rfl⟩))
  have := gi_le c
  refine hm_mono (mh_feed_20 (f0 := f) (L := L) (by omega) n f w 0 0 z (by omega) ⟨e, fun i _ => (if_neg (by omega)).symm, fun _ _ => rfl⟩) (fun f2 _ r h => Or.inr ⟨by omega, h.1, h.2⟩)
theorem ch_end {n : Nat} {σ : gb_S} {p1 : Int32} : gb_hc (cs_Face_end n σ p1) (fun s r => ((p1.toInt < 0 ∨ (σ.1 1 6).toInt < p1.toInt) ∧ r = -1 ∧ s = σ) ∨ (0 ≤ p1.toInt ∧ p1.toInt ≤ (σ.1 1 6).toInt ∧ r = p1 ∧ s = gb_su σ 1 (upd (σ.1 1) 6 p1))) := by
  unfold cs_Face_end
  have c0 : (0 : Int32).toInt = 0 := by decide
  refine hc_if (fun c => hc_some (Or.inl ⟨Or.inl (by have := gi_lt c; omega), rfl, rfl⟩)) (fun c => hc_if (fun d => hc_lt (fun s e => hc_some (Or.inr ⟨?_, gi_le d, rfl, e⟩))) (fun d => hc_some (Or.inl ⟨Or.inr (gi_nle d), rfl, rfl⟩)))
  have := gi_nlt c
  omega
theorem mh_end {n : Nat} {f : gb_F} {w : Int64} {p1 : Int32} : gb_hm (ms_end n f w p1) (fun f2 _ r => ((p1.toInt < 0 ∨ (f 1 4).toInt < p1.toInt) ∧ r = -1 ∧ f2 = f) ∨ (0 ≤ p1.toInt ∧ p1.toInt ≤ (f 1 4).toInt ∧ r = p1 ∧ f2 = gb_u f 1 (upd (f 1) 4 p1))) := by
  unfold ms_end
  have c0 : (0 : Int32).toInt = 0 := by decide
  have t4 : Int32.toNatClampNeg 4 = 4 := by decide
  rw [t4]
  refine hm_if (fun c => hm_some (Or.inl ⟨Or.inl (by have := gi_lt c; omega), rfl, rfl⟩)) (fun c => hm_lt (fun x ex => ?_))
  subst ex
  refine hm_if (fun d => hm_lt (fun s e => hm_some (Or.inr ⟨?_, gi_le d, rfl, e⟩))) (fun d => hm_some (Or.inl ⟨Or.inr (gi_nle d), rfl, rfl⟩))
  have := gi_nlt c
  omega
