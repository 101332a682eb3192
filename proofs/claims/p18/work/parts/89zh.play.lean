/-! WHAT A PLAYED NIGHT TELLS -/
theorem min_E {a b : Int32} : (if a < b then a else b).toInt = if a.toInt < b.toInt then a.toInt else b.toInt := by
  by_cases c : a < b
  · rw [if_pos c, if_pos (gi_lt c)]
  · rw [if_neg c, if_neg (by have := gi_nlt c; omega)]
theorem r_to0 {n k0 k1 : Nat} {R NR : Nat → Int32} {σ : gb_S} {p3 : Int32} (hR : gb_rB R) (k9 : k0 + 1 < 109) (k9' : k1 + 1 < 109) (hb : gb_cbx k0 R σ) (hS : gb_RS 1 (σ.1 (k1 + 1)) NR) (H : p3.toInt < 0 ∨ ∃ f3, gb_ran n R NR p3 (-1) f3 ∧ f3 0 23 ≠ p3) : gb_hc (cs_Face_playedTo_B_N n σ k0 k1 p3) (fun _ r => r = 0) := by
  unfold cs_Face_playedTo_B_N
  refine hc_kk (fun _ => hc_kk (fun _ => hc_if (fun c => hc_some rfl) (fun c => hc_cd ch_sizeN (fun s r g => ?_))))
  obtain ⟨g1, g2⟩ := g
  subst s
  have e0 : σ.1 (k1 + 1) 0 = NR 0 := hS.1
  rw [e0] at g2
  subst g2
  have c' := gi_nlt c
  have z0 : (0 : Int32).toInt = 0 := by decide
  rcases H with H | ⟨f3, ran, ne⟩
  · exact absurd H (by omega)
  · refine hc_if (fun d => hc_cd (r_run (t := True) (v1 := p3) hR k9 k9' hb hS min_E (Or.inl ⟨trivial, rfl⟩) ran) (fun s u K => hc_if (fun q => ?_) (fun _ => hc_some rfl))) (fun _ => hc_some rfl)
    exact absurd (K.2.1.2.2.2.2.1.2.symm.trans q) ne
theorem r_to1 {n k0 k1 : Nat} {R NR : Nat → Int32} {σ : gb_S} {p3 : Int32} {f2 : gb_F} (hn : gb_N ≤ n) (hT : gb_TC σ) (hR : gb_rB R) (hN : gb_raN NR) (k9 : k0 + 1 < 109) (k9' : k1 + 1 < 109) (hb : gb_cbx k0 R σ) (hS : gb_RS 1 (σ.1 (k1 + 1)) NR) (h0 : 0 ≤ p3.toInt) (ran : gb_ran n R NR p3 (-1) f2) (e : f2 0 23 = p3) : gb_hc (cs_Face_playedTo_B_N n σ k0 k1 p3) (fun s r => r = 1 ∧ gb_PC k0 k1 R NR s ∧ gb_PR R True s f2 ∧ gb_pfr (gb_sq σ 1 k0) s ∧ gb_tr 100000 f2) := by
  unfold cs_Face_playedTo_B_N
  refine hc_kk (fun kb => hc_kk (fun kn => hc_if (fun c => ?_) (fun c => hc_cd ch_sizeN (fun s r g => ?_))))
  · have z0 : (0 : Int32).toInt = 0 := by decide
    have := gi_lt c
    omega
  obtain ⟨g1, g2⟩ := g
  subst s
  have e0 : σ.1 (k1 + 1) 0 = NR 0 := hS.1
  rw [e0] at g2
  subst g2
  have rr : gb_hc (cs_Play_run_B_N n σ k0 k1 p3 (-1)) _ := r_run (t := True) (v1 := p3) hR k9 k9' hb hS min_E (Or.inl ⟨trivial, rfl⟩) ran
  refine hc_if (fun d => hc_cd rr (fun s u K => hc_if (fun q => hc_some ⟨rfl, K.1, K.2.1, K.2.2.2.1, K.2.2.2.2⟩) (fun q => ?_))) (fun d => ?_)
  · exact absurd (K.2.1.2.2.2.2.1.2.trans e) q
  · obtain ⟨s, u, es, -⟩ := ct_Play_run_B_N (p3 := p3) (p4 := -1) hn hT kb kn
    have K := rr s u es
    have k3 := K.2.2.1
    have d' := gi_nle d
    have n1 := (rN_0 hN).1
    rw [e] at k3
    omega
def gb_noS (n : Nat) (f : gb_F) (p1 p2 p3 : Int32) : Prop := ¬ gb_two f p1 p2 ∨ p3.toInt < 0 ∨ ∃ f3, gb_ran n (gb_Rs 0 f p1) (gb_Rs 1 f p2) p3 (-1) f3 ∧ f3 0 23 ≠ p3
def gb_yS (n : Nat) (f : gb_F) (p1 p2 p3 : Int32) (f2 : gb_F) : Prop := gb_two f p1 p2 ∧ 0 ≤ p3.toInt ∧ gb_ran n (gb_Rs 0 f p1) (gb_Rs 1 f p2) p3 (-1) f2 ∧ f2 0 23 = p3
theorem mh_isState {n : Nat} {f : gb_F} {w : Int64} {p1 p2 p3 : Int32} (hn : gb_N ≤ n) (hM : gb_TM f) : gb_hm (ms_isState n f w p1 p2 p3) (fun f2 _ r => (r = 0 ∧ gb_noS n f p1 p2 p3) ∨ (r = 1 ∧ gb_yS n f p1 p2 p3 f2)) := by
  unfold ms_isState
  have z0 : (0 : Int32).toInt = 0 := by decide
  refine hm_bd (mh_areTold hM) (fun f1 w1 r g => hm_if (fun c => hm_some (Or.inl ⟨rfl, Or.inl (yn_0 g c)⟩)) (fun c => ?_))
  obtain ⟨a, b1, b2, b3, b4, m, b5⟩ := yn_1 g c
  refine hm_if (fun d => hm_bd (mh_ran hn b5 b2 b3 b1) (fun f2 w2 u k => hm_if (fun q => hm_some (Or.inr ⟨rfl, a, ?_, k.1, q⟩)) (fun q => hm_some (Or.inl ⟨rfl, Or.inr (Or.inr ⟨f2, k.1, q⟩)⟩)))) (fun d => hm_some (Or.inl ⟨rfl, Or.inr (Or.inl ?_)⟩))
  · have := gi_le d
    omega
  · have := gi_nle d
    omega
/-- the class, when a state is asked for -/
theorem c_to {n k0 : Nat} {σ : gb_S} {f : gb_F} {p1 p2 p3 q : Int32} {V : gb_F → Int32} {k : gb_S → gb_CR Int32} {k2 : gb_S → gb_CR Int32} (hn : gb_N ≤ n) (hT : gb_TC σ) (h : gb_R σ f) (hM : gb_TM f) (i1 : gb_i0 p1 (f 1 0)) (hb : gb_cbx k0 (gb_Rs 0 f p1) σ) (hR : gb_rB (gb_Rs 0 f p1)) (k9 : k0 + 1 < 109) (H : (gb_noS n f p1 p2 p3 ∧ q = -2) ∨ ∃ f2, gb_yS n f p1 p2 p3 f2 ∧ q = V f2) (K : ∀ (s : gb_S) (k1 : Nat) (f2 : gb_F), gb_PC k0 k1 (gb_Rs 0 f p1) (gb_Rs 1 f p2) s → gb_PR (gb_Rs 0 f p1) True s f2 → gb_tr 100000 f2 → gb_hc (k s) (fun _ r => r = V f2)) : gb_hc (gb_cd (cs_Face_nightAt n σ p2) (fun s_12 r_13 => (if r_13 = 0 then gb_cd (cs_Face_playedTo_B_n n s_12 k0 p3) (fun s_17 r_18 => (if r_18 = 0 then some (s_17, (-2)) else k2 s_17)) else gb_kk (gb_kN r_13) (gb_cd (cs_Face_playedTo_B_N n s_12 k0 r_13 p3) (fun s_35 r_36 => (if r_36 = 0 then some (s_35, (-2)) else k s_35)))))) (fun _ r => r = q) := by
  refine hc_cd (cy_night h hM) (fun s r2 g2 => ?_)
  obtain ⟨g0, g2⟩ := g2
  subst s
  refine hc_if (fun c2 => ?_) (fun c2 => hc_kk (fun _ => ?_))
  · have nb : ¬ gb_two f p1 p2 := fun z => by
      rcases g2 with y | y
      · exact y.2 z.2
      · exact y.1 c2
    have eq : (-2 : Int32) = q := by
      rcases H with y | ⟨f2, y, -⟩
      · exact y.2.symm
      · exact absurd y.1 nb
    unfold cs_Face_playedTo_B_n
    exact hc_cd (hc_kk (fun _ => hc_some (Q := fun _ r => r = (0 : Int32)) rfl)) (fun s r e => hc_if (fun _ => hc_some eq) (fun c => absurd e c))
  · rcases g2 with z | ⟨z1, z2, z3, z4, z5⟩
    · exact absurd z.1 c2
    rcases H with ⟨y1, y2⟩ | ⟨f2, y, y2⟩
    · have H' : p3.toInt < 0 ∨ ∃ f3, gb_ran n (gb_Rs 0 f p1) (gb_Rs 1 f p2) p3 (-1) f3 ∧ f3 0 23 ≠ p3 := by
        rcases y1 with y1 | y1
        · exact absurd ⟨i1, z2⟩ y1
        · exact y1
      exact hc_cd (r_to0 hR k9 z5 hb z3 H') (fun s r e => hc_if (fun _ => hc_some y2.symm) (fun c => absurd e c))
    · obtain ⟨ya, yb, yc, yd⟩ := y
      refine hc_cd (r_to1 hn hT hR z4 k9 z5 hb z3 yb yc yd) (fun s r e => hc_if (fun c => absurd c (by rw [e.1]; decide)) (fun _ => ?_))
      rw [y2]
      exact K s r2 f2 e.2.1 e.2.2.1 e.2.2.2.2
/-! goose -/
def gb_qgo (R : Nat → Int32) (f2 : gb_F) (p4 p5 : Int32) : Int32 := if gb_i0 p4 (R 1) then (if p5 = 0 then f2 4 p4.toInt.toNat else if p5 = 1 then f2 5 p4.toInt.toNat else if p5 = 2 then f2 6 p4.toInt.toNat else if p5 = 3 then f2 7 p4.toInt.toNat else -2) else -2
theorem m_goose {n : Nat} {f : gb_F} {w : Int64} {p1 p2 p3 p4 p5 : Int32} (hn : gb_N ≤ n) (hM : gb_TM f) : gb_hm (ms_goose n f w p1 p2 p3 p4 p5) (fun _ _ q => (gb_noS n f p1 p2 p3 ∧ q = -2) ∨ ∃ f2, gb_yS n f p1 p2 p3 f2 ∧ q = gb_qgo (gb_Rs 0 f p1) f2 p4 p5) := by
  unfold ms_goose
  refine hm_bd (mh_isState hn hM) (fun f1 w1 r g => hm_if (fun c => hm_some (Or.inl ⟨yn_0 g c, rfl⟩)) (fun c => ?_))
  have y := yn_1 g c
  obtain ⟨m, pm⟩ := ran_PM y.2.2.1
  refine hm_bd (mbx_hasG pm.1) (fun f2 w2 r2 g2 => ?_)
  obtain ⟨q1, q2, g2⟩ := g2
  subst f2
  subst w2
  refine hm_if (fun d => hm_some (Or.inr ⟨f1, y, ?_⟩)) (fun d => ?_)
  · unfold gb_qgo
    rw [if_neg (yn_0 g2 d)]
  · obtain ⟨d1, d2, d3⟩ := yn_1 g2 d
    rw [gi_tn d2]
    refine hm_if (fun x0 => hm_ck (fun _ _ => hm_lt (fun v ev => hm_some (Or.inr ⟨f1, y, ?_⟩)))) (fun x0 => hm_if (fun x1 => hm_ck (fun _ _ => hm_lt (fun v ev => hm_some (Or.inr ⟨f1, y, ?_⟩)))) (fun x1 => hm_if (fun x2 => hm_ck (fun _ _ => hm_lt (fun v ev => hm_some (Or.inr ⟨f1, y, ?_⟩)))) (fun x2 => hm_if (fun x3 => hm_ck (fun _ _ => hm_lt (fun v ev => hm_some (Or.inr ⟨f1, y, ?_⟩)))) (fun x3 => hm_some (Or.inr ⟨f1, y, ?_⟩)))))
    · unfold gb_qgo
      rw [if_pos d1, if_pos x0, ev]
    · unfold gb_qgo
      rw [if_pos d1, if_neg x0, if_pos x1, ev]
    · unfold gb_qgo
      rw [if_pos d1, if_neg x0, if_neg x1, if_pos x2, ev]
    · unfold gb_qgo
      rw [if_pos d1, if_neg x0, if_neg x1, if_neg x2, if_pos x3, ev]
    · unfold gb_qgo
      rw [if_pos d1, if_neg x0, if_neg x1, if_neg x2, if_neg x3]
theorem no_2 {n : Nat} {f : gb_F} {p1 p2 p3 q : Int32} {V : gb_F → Int32} (H : (gb_noS n f p1 p2 p3 ∧ q = -2) ∨ ∃ f2, gb_yS n f p1 p2 p3 f2 ∧ q = V f2) (nb : ¬ gb_i0 p1 (f 1 0)) : (-2 : Int32) = q := by
  rcases H with y | ⟨f2, y, -⟩
  · exact y.2.symm
  · exact absurd y.1.1 nb
theorem no_3 {n : Nat} {f : gb_F} {p1 p2 p3 q : Int32} {V : gb_F → Int32} (H : (gb_noS n f p1 p2 p3 ∧ q = -2) ∨ ∃ f2, gb_yS n f p1 p2 p3 f2 ∧ q = V f2) (hv : ∀ f2, V f2 = -2) : (-2 : Int32) = q := by
  rcases H with y | ⟨f2, -, y⟩
  · exact y.2.symm
  · rw [y, hv]
theorem c_goose {n : Nat} {σ : gb_S} {f : gb_F} {p1 p2 p3 p4 p5 q : Int32} (hn : gb_N ≤ n) (hT : gb_TC σ) (h : gb_R σ f) (hM : gb_TM f) (H : (gb_noS n f p1 p2 p3 ∧ q = -2) ∨ ∃ f2, gb_yS n f p1 p2 p3 f2 ∧ q = gb_qgo (gb_Rs 0 f p1) f2 p4 p5) : gb_hc (cs_Face_goose n σ p1 p2 p3 p4 p5) (fun _ r => r = q) := by
  unfold cs_Face_goose
  refine hc_cd (cy_border h hM) (fun s r g => ?_)
  obtain ⟨g0, g⟩ := g
  subst s
  refine hc_if (fun c => hc_some (no_2 H (fun z => ?_))) (fun c => ?_)
  · rcases g with y | y
    · exact y.2 z
    · exact y.1 c
  · rcases g with y | ⟨y1, y2, y3, y4, y5⟩
    · exact absurd y.1 c
    refine hc_kk (fun _ => hc_cd (cbx_hasG y3) (fun s r2 g2 => ?_))
    obtain ⟨g0, g2⟩ := g2
    subst s
    refine hc_if (fun d => hc_some (no_3 H (fun f2 => ?_))) (fun d => ?_)
    · unfold gb_qgo
      rw [if_neg (yn_0 g2 d)]
    · obtain ⟨d1, d2, d3⟩ := yn_1 g2 d
      have h8 := (rB_nG y4).2
      refine c_to hn hT h hM y2 y3 y4 y5 H (fun s k1 f2 PC PR TR => ?_)
      rw [gi_tn d2]
      have c1 := PR.1 p4.toInt.toNat (by omega)
      refine hc_if (fun x0 => hc_ck (fun _ _ => hc_lt (fun v ev => hc_some ?_))) (fun x0 => hc_if (fun x1 => hc_ck (fun _ _ => hc_lt (fun v ev => hc_some ?_))) (fun x1 => hc_if (fun x2 => hc_ck (fun _ _ => hc_lt (fun v ev => hc_some ?_))) (fun x2 => hc_if (fun x3 => hc_ck (fun _ _ => hc_lt (fun v ev => hc_some ?_))) (fun x3 => hc_some ?_))))
      · unfold gb_qgo
        rw [if_pos d1, if_pos x0, ev, c1.1]
      · unfold gb_qgo
        rw [if_pos d1, if_neg x0, if_pos x1, ev, c1.2.1]
      · unfold gb_qgo
        rw [if_pos d1, if_neg x0, if_neg x1, if_pos x2, ev, c1.2.2.1 trivial]
      · unfold gb_qgo
        rw [if_pos d1, if_neg x0, if_neg x1, if_neg x2, if_pos x3, ev, c1.2.2.2]
      · unfold gb_qgo
        rw [if_pos d1, if_neg x0, if_neg x1, if_neg x2, if_neg x3]
theorem e_goose {σ σ2 : gb_S} {f f2 : gb_F} {w w2 : Int64} {p1 p2 p3 p4 p5 ra qa : Int32} (hT : gb_TC σ) (hM : gb_TM f) (h : gb_R σ f) (ec : cs_Face_goose gb_N σ p1 p2 p3 p4 p5 = some (σ2, ra)) (em : ms_goose gb_N f w p1 p2 p3 p4 p5 = some (f2, w2, qa)) : ra = qa := c_goose (Nat.le_refl _) hT h hM (m_goose (Nat.le_refl _) hM _ _ _ em) _ _ ec
/-! tallies -/
def gb_tal (f : gb_F) (p : Nat) : Int32 := if f 10 p ≤ f 11 p then 0 else f 10 p - f 11 p
theorem ch_tally {n p : Nat} {σ : gb_S} {f : gb_F} {R : Nat → Int32} {t : Prop} {x : Int32} (hP : gb_PR R t σ f) (hT : gb_tr 100000 f) (e : x.toInt = p) (hp : p < 5) : gb_hc (cs_Play_tally n σ x) (fun s r => s = σ ∧ r = gb_tal f p) := by
  unfold cs_Play_tally
  rw [gi_tn e]
  refine hc_ck (fun _ _ => hc_lt (fun a ea => hc_ck (fun _ _ => hc_lt (fun b eb => hc_lt (fun c ec => hc_some ⟨rfl, ?_⟩)))))
  rw [(hP.2.2.1 p hp).1] at ea
  rw [(hP.2.2.1 p hp).2.1] at eb
  subst ea
  subst eb
  rw [ec]
  unfold gb_tal
  have h1 := (hT p hp).1
  have h2 := (hT p hp).2
  have a1 := h1.1
  have a2 := h1.2
  have b1 := h2.1
  have b2 := h2.2
  have e0 : (f 10 p - f 11 p).toInt = (f 10 p).toInt - (f 11 p).toInt := gb_tsub (by omega) (by omega)
  have z : (0 : Int32).toInt = 0 := by decide
  by_cases q : f 10 p ≤ f 11 p
  · have q' := gi_le q
    rw [if_pos q, if_neg (fun y => by have := gi_lt y; omega)]
  · have q' := gi_nle q
    rw [if_neg q, if_pos (Int32.lt_iff_toInt_lt.mpr (by omega))]
theorem mh_tally {n p : Nat} {f : gb_F} {w : Int64} {x : Int32} (e : x.toInt = p) : gb_hm (ms_tally n f w x) (fun f2 w2 r => f2 = f ∧ w2 = w ∧ r = gb_tal f p) := by
  unfold ms_tally
  rw [gi_tn e]
  refine hm_ck (fun _ _ => hm_lt (fun a ea => hm_ck (fun _ _ => hm_lt (fun b eb => ?_))))
  subst ea
  subst eb
  refine hm_if (fun q => hm_some ⟨rfl, rfl, ?_⟩) (fun q => hm_ck (fun _ _ => hm_lt (fun c ec => hm_ck (fun _ _ => hm_lt (fun d ed => hm_some ⟨rfl, rfl, ?_⟩)))))
  · unfold gb_tal
    rw [if_pos q]
  · unfold gb_tal
    rw [if_neg q, ec, ed]
theorem mh_pay {n m p : Nat} {R : Nat → Int32} {f : gb_F} {w : Int64} {x : Int32} (h : gb_mbx m R f) (e : x.toInt = p) (hp : p ≤ 100) : gb_hm (ms_pay n f w x) (fun f2 w2 r => f2 = f ∧ w2 = w ∧ r = gb_py R p (gb_tal f p)) := by
  unfold ms_pay
  refine hm_bd (mx_ofPath h e hp (j := 1) (by decide) (by decide)) (fun f1 w1 r g => ?_)
  obtain ⟨q1, q2, q3⟩ := g
  subst f1
  subst w1
  refine hm_bd (mh_tally e) (fun f1 w1 r2 g => ?_)
  obtain ⟨q1, q2, q4⟩ := g
  subst f1
  subst w1
  refine hm_bd (mx_padded h e hp) (fun f1 w1 r3 g => hm_some ⟨g.1, g.2.1, ?_⟩)
  rw [g.2.2, q3, q4]
  rfl
/-! path -/
def gb_qpa (R : Nat → Int32) (f2 : gb_F) (p4 p5 : Int32) : Int32 := if gb_i0 p4 (R 0) then (if p5 = 0 then f2 10 p4.toInt.toNat else if p5 = 1 then f2 11 p4.toInt.toNat else if p5 = 2 then gb_tal f2 p4.toInt.toNat else if p5 = 3 then gb_pd R p4.toInt.toNat (gb_tal f2 p4.toInt.toNat) else if p5 = 4 then gb_py R p4.toInt.toNat (gb_tal f2 p4.toInt.toNat) else if p5 = 5 then f2 12 p4.toInt.toNat else -2) else -2
theorem m_path {n : Nat} {f : gb_F} {w : Int64} {p1 p2 p3 p4 p5 : Int32} (hn : gb_N ≤ n) (hM : gb_TM f) : gb_hm (ms_path n f w p1 p2 p3 p4 p5) (fun _ _ q => (gb_noS n f p1 p2 p3 ∧ q = -2) ∨ ∃ f2, gb_yS n f p1 p2 p3 f2 ∧ q = gb_qpa (gb_Rs 0 f p1) f2 p4 p5) := by
  unfold ms_path
  refine hm_bd (mh_isState hn hM) (fun f1 w1 r g => hm_if (fun c => hm_some (Or.inl ⟨yn_0 g c, rfl⟩)) (fun c => ?_))
  have y := yn_1 g c
  obtain ⟨m, pm⟩ := ran_PM y.2.2.1
  have h5 := (rB_nP (mbx_rB pm.1)).2
  refine hm_bd (mbx_has pm.1) (fun f2 w2 r2 g2 => ?_)
  obtain ⟨q1, q2, g2⟩ := g2
  subst f2
  subst w2
  refine hm_if (fun d => hm_some (Or.inr ⟨f1, y, ?_⟩)) (fun d => ?_)
  · unfold gb_qpa
    rw [if_neg (yn_0 g2 d)]
  · obtain ⟨d1, d2, d3⟩ := yn_1 g2 d
    rw [gi_tn d2]
    refine hm_if (fun x0 => hm_ck (fun _ _ => hm_lt (fun v ev => hm_some (Or.inr ⟨f1, y, ?_⟩)))) (fun x0 => hm_if (fun x1 => hm_ck (fun _ _ => hm_lt (fun v ev => hm_some (Or.inr ⟨f1, y, ?_⟩)))) (fun x1 => hm_if (fun x2 => hm_bd (mh_tally d2) (fun f2 w2 v ev => hm_some (Or.inr ⟨f1, y, ?_⟩))) (fun x2 => hm_if (fun x3 => hm_bd (mh_tally d2) (fun f2 w2 v ev => ?_)) (fun x3 => hm_if (fun x4 => hm_bd (mh_pay pm.1 d2 (by omega)) (fun f2 w2 v ev => hm_some (Or.inr ⟨f1, y, ?_⟩))) (fun x4 => hm_if (fun x5 => hm_ck (fun _ _ => hm_lt (fun v ev => hm_some (Or.inr ⟨f1, y, ?_⟩)))) (fun x5 => hm_some (Or.inr ⟨f1, y, ?_⟩)))))))
    · unfold gb_qpa
      rw [if_pos d1, if_pos x0, ev]
    · unfold gb_qpa
      rw [if_pos d1, if_neg x0, if_pos x1, ev]
    · unfold gb_qpa
      rw [if_pos d1, if_neg x0, if_neg x1, if_pos x2, ev.2.2]
    · obtain ⟨z1, z2, z3⟩ := ev
      subst f2
      subst w2
      refine hm_bd (mx_padded pm.1 d2 (by omega)) (fun f2 w2 u eu => hm_some (Or.inr ⟨f1, y, ?_⟩))
      unfold gb_qpa
      rw [if_pos d1, if_neg x0, if_neg x1, if_neg x2, if_pos x3, eu.2.2, z3]
    · unfold gb_qpa
      rw [if_pos d1, if_neg x0, if_neg x1, if_neg x2, if_neg x3, if_pos x4, ev.2.2]
    · unfold gb_qpa
      rw [if_pos d1, if_neg x0, if_neg x1, if_neg x2, if_neg x3, if_neg x4, if_pos x5, ev]
    · unfold gb_qpa
      rw [if_pos d1, if_neg x0, if_neg x1, if_neg x2, if_neg x3, if_neg x4, if_neg x5]
theorem c_path {n : Nat} {σ : gb_S} {f : gb_F} {p1 p2 p3 p4 p5 q : Int32} (hn : gb_N ≤ n) (hT : gb_TC σ) (h : gb_R σ f) (hM : gb_TM f) (H : (gb_noS n f p1 p2 p3 ∧ q = -2) ∨ ∃ f2, gb_yS n f p1 p2 p3 f2 ∧ q = gb_qpa (gb_Rs 0 f p1) f2 p4 p5) : gb_hc (cs_Face_path n σ p1 p2 p3 p4 p5) (fun _ r => r = q) := by
  unfold cs_Face_path
  refine hc_cd (cy_border h hM) (fun s r g => ?_)
  obtain ⟨g0, g⟩ := g
  subst s
  refine hc_if (fun c => hc_some (no_2 H (fun z => ?_))) (fun c => ?_)
  · rcases g with y | y
    · exact y.2 z
    · exact y.1 c
  · rcases g with y | ⟨y1, y2, y3, y4, y5⟩
    · exact absurd y.1 c
    refine hc_kk (fun _ => hc_cd (cbx_has y3) (fun s r2 g2 => ?_))
    obtain ⟨g0, g2⟩ := g2
    subst s
    refine hc_if (fun d => hc_some (no_3 H (fun f2 => ?_))) (fun d => ?_)
    · unfold gb_qpa
      rw [if_neg (yn_0 g2 d)]
    · obtain ⟨d1, d2, d3⟩ := yn_1 g2 d
      have h5 := (rB_nP y4).2
      refine c_to hn hT h hM y2 y3 y4 y5 H (fun s k1 f2 PC PR TR => ?_)
      rw [gi_tn d2]
      have c1 := PR.2.2.1 p4.toInt.toNat (by omega)
      refine hc_if (fun x0 => hc_ck (fun _ _ => hc_lt (fun v ev => hc_some ?_))) (fun x0 => hc_if (fun x1 => hc_ck (fun _ _ => hc_lt (fun v ev => hc_some ?_))) (fun x1 => hc_if (fun x2 => hc_cd (ch_tally PR TR d2 (by omega)) (fun s2 v ev => hc_some ?_)) (fun x2 => hc_if (fun x3 => hc_cd (ch_tally PR TR d2 (by omega)) (fun s2 v ev => ?_)) (fun x3 => hc_if (fun x4 => hc_cd (ch_tally PR TR d2 (by omega)) (fun s2 v ev => ?_)) (fun x4 => hc_if (fun x5 => hc_ck (fun _ _ => hc_lt (fun v ev => hc_some ?_))) (fun x5 => hc_some ?_))))))
      · unfold gb_qpa
        rw [if_pos d1, if_pos x0, ev, c1.1]
      · unfold gb_qpa
        rw [if_pos d1, if_neg x0, if_pos x1, ev, c1.2.1]
      · unfold gb_qpa
        rw [if_pos d1, if_neg x0, if_neg x1, if_pos x2, ev.2]
      · obtain ⟨z1, z2⟩ := ev
        subst s2
        refine hc_cd (ch_padded PC.2.1 y4 d2 d3) (fun s3 u eu => hc_some ?_)
        unfold gb_qpa
        rw [if_pos d1, if_neg x0, if_neg x1, if_neg x2, if_pos x3, eu.2, z2]
      · obtain ⟨z1, z2⟩ := ev
        subst s2
        refine hc_cd (ch_payOf PC.2.1 y4 d2 d3) (fun s3 u eu => hc_some ?_)
        unfold gb_qpa
        rw [if_pos d1, if_neg x0, if_neg x1, if_neg x2, if_neg x3, if_pos x4, eu.2, z2]
      · unfold gb_qpa
        rw [if_pos d1, if_neg x0, if_neg x1, if_neg x2, if_neg x3, if_neg x4, if_pos x5, ev, c1.2.2]
      · unfold gb_qpa
        rw [if_pos d1, if_neg x0, if_neg x1, if_neg x2, if_neg x3, if_neg x4, if_neg x5]
theorem e_path {σ σ2 : gb_S} {f f2 : gb_F} {w w2 : Int64} {p1 p2 p3 p4 p5 ra qa : Int32} (hT : gb_TC σ) (hM : gb_TM f) (h : gb_R σ f) (ec : cs_Face_path gb_N σ p1 p2 p3 p4 p5 = some (σ2, ra)) (em : ms_path gb_N f w p1 p2 p3 p4 p5 = some (f2, w2, qa)) : ra = qa := c_path (Nat.le_refl _) hT h hM (m_path (Nat.le_refl _) hM _ _ _ em) _ _ ec
