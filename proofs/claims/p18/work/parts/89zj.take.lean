/-! HONEST, TAKE, REST -/
theorem c_out {n k0 : Nat} {σ : gb_S} {f : gb_F} {p1 p2 q no : Int32} {V : gb_F → Int32} {k : gb_S → gb_CR Int32} {k2 : gb_S → gb_CR Int32} (h : gb_R σ f) (hM : gb_TM f) (i1 : gb_i0 p1 (f 1 0)) (hb : gb_cbx k0 (gb_Rs 0 f p1) σ) (hR : gb_rB (gb_Rs 0 f p1)) (k9 : k0 + 1 < 109) (H0 : ¬ gb_two f p1 p2 → q = no) (H1 : gb_two f p1 p2 → ∃ f2, gb_ran n (gb_Rs 0 f p1) (gb_Rs 1 f p2) 24 (-1) f2 ∧ q = V f2) (K : ∀ (s : gb_S) (k1 : Nat) (f2 : gb_F), gb_PC k0 k1 (gb_Rs 0 f p1) (gb_Rs 1 f p2) s → gb_PR (gb_Rs 0 f p1) True s f2 → gb_tr 100000 f2 → gb_hc (k s) (fun _ r => r = V f2)) : gb_hc (gb_cd (cs_Face_nightAt n σ p2) (fun s_12 r_13 => (if r_13 = 0 then gb_cd (cs_Face_playedOut_B_n n s_12 k0) (fun s_17 r_18 => (if r_18 = 0 then some (s_17, no) else k2 s_17)) else gb_kk (gb_kN r_13) (gb_cd (cs_Face_playedOut_B_N n s_12 k0 r_13) (fun s_35 r_36 => (if r_36 = 0 then some (s_35, no) else k s_35)))))) (fun _ r => r = q) := by
  refine hc_cd (cy_night h hM) (fun s r2 g2 => ?_)
  obtain ⟨g0, g2⟩ := g2
  subst s
  refine hc_if (fun c2 => ?_) (fun c2 => hc_kk (fun _ => ?_))
  · have nb : ¬ gb_two f p1 p2 := fun z => by
      rcases g2 with y | y
      · exact y.2 z.2
      · exact y.1 c2
    unfold cs_Face_playedOut_B_n
    exact hc_cd (hc_kk (fun _ => hc_some (Q := fun _ r => r = (0 : Int32)) rfl)) (fun s r e => hc_if (fun _ => hc_some (H0 nb).symm) (fun c => absurd e c))
  · rcases g2 with z | ⟨z1, z2, z3, z4, z5⟩
    · exact absurd z.1 c2
    obtain ⟨f2, ran, eq⟩ := H1 ⟨i1, z2⟩
    refine hc_cd (r_out hR z4 k9 z5 hb z3 ran) (fun s r e => hc_if (fun c => absurd c (by rw [e.1]; decide)) (fun _ => ?_))
    rw [eq]
    exact K s r2 f2 e.2.1 e.2.2.1 e.2.2.2.2
def gb_qho (R : Nat → Int32) (f2 : gb_F) (p3 : Int32) : Int32 := gb_py R p3.toInt.toNat (gb_tal f2 p3.toInt.toNat) - R (3 + 3 * p3.toInt.toNat + 1) * gb_tal f2 p3.toInt.toNat
def gb_H (n : Nat) (f : gb_F) (p1 p2 q no : Int32) (C : Prop) (V : gb_F → Int32) : Prop := (¬ (gb_two f p1 p2 ∧ C) ∧ q = no) ∨ ((gb_two f p1 p2 ∧ C) ∧ ∃ f2, gb_ran n (gb_Rs 0 f p1) (gb_Rs 1 f p2) 24 (-1) f2 ∧ q = V f2)
theorem H_n {n : Nat} {f : gb_F} {p1 p2 q no : Int32} {C : Prop} {V : gb_F → Int32} (H : gb_H n f p1 p2 q no C V) (z : ¬ (gb_two f p1 p2 ∧ C)) : no = q := by
  rcases H with y | y
  · exact y.2.symm
  · exact absurd y.1 z
theorem H_y {n : Nat} {f : gb_F} {p1 p2 q no : Int32} {C : Prop} {V : gb_F → Int32} (H : gb_H n f p1 p2 q no C V) (z : gb_two f p1 p2 ∧ C) : ∃ f2, gb_ran n (gb_Rs 0 f p1) (gb_Rs 1 f p2) 24 (-1) f2 ∧ q = V f2 := by
  rcases H with y | y
  · exact absurd z y.1
  · exact y.2
theorem m_honest {n : Nat} {f : gb_F} {w : Int64} {p1 p2 p3 : Int32} (hn : gb_N ≤ n) (hM : gb_TM f) : gb_hm (ms_honest n f w p1 p2 p3) (fun _ _ q => gb_H n f p1 p2 q (-1) (gb_i0 p3 (gb_Rs 0 f p1 0)) (fun f2 => gb_qho (gb_Rs 0 f p1) f2 p3)) := by
  unfold ms_honest
  refine hm_bd (mh_areTold hM) (fun f1 w1 r g => hm_if (fun c => hm_some (Or.inl ⟨fun z => (yn_0 g c) z.1, rfl⟩)) (fun c => ?_))
  obtain ⟨a, b1, b2, b3, b4, m, b5⟩ := yn_1 g c
  have h5 := (rB_nP (mbx_rB b5.1)).2
  refine hm_bd (mbx_has b5.1) (fun f2 w2 r2 g2 => ?_)
  obtain ⟨q1, q2, g2⟩ := g2
  subst f2
  subst w2
  refine hm_if (fun d => hm_some (Or.inl ⟨fun z => (yn_0 g2 d) z.2, rfl⟩)) (fun d => ?_)
  obtain ⟨d1, d2, d3⟩ := yn_1 g2 d
  refine hm_bd (mh_ran hn b5 b2 b3 b1) (fun f2 w2 u k => ?_)
  obtain ⟨m2, pm⟩ := ran_PM k.1
  refine hm_bd (mh_pay pm.1 d2 (by omega)) (fun f3 w3 v3 e3 => ?_)
  obtain ⟨q1, q2, e3⟩ := e3
  subst f3
  subst w3
  refine hm_bd (mx_ofPath pm.1 d2 (by omega) (j := 1) (by decide) (by decide)) (fun f3 w3 v4 e4 => ?_)
  obtain ⟨q1, q2, e4⟩ := e4
  subst f3
  subst w3
  refine hm_bd (mh_tally d2) (fun f3 w3 v5 e5 => hm_some (Or.inr ⟨⟨a, d1⟩, f2, k.1, ?_⟩))
  rw [e3, e4, e5.2.2]
  rfl
theorem c_honest {n : Nat} {σ : gb_S} {f : gb_F} {p1 p2 p3 q : Int32} (h : gb_R σ f) (hM : gb_TM f) (H : gb_H n f p1 p2 q (-1) (gb_i0 p3 (gb_Rs 0 f p1 0)) (fun f2 => gb_qho (gb_Rs 0 f p1) f2 p3)) : gb_hc (cs_Face_honest n σ p1 p2 p3) (fun _ r => r = q) := by
  unfold cs_Face_honest
  refine hc_cd (cy_border h hM) (fun s r g => ?_)
  obtain ⟨g0, g⟩ := g
  subst s
  refine hc_if (fun c => hc_some (H_n H (fun z => ?_))) (fun c => ?_)
  · rcases g with y | y
    · exact y.2 z.1.1
    · exact y.1 c
  · rcases g with y | ⟨y1, y2, y3, y4, y5⟩
    · exact absurd y.1 c
    have h5 := (rB_nP y4).2
    refine hc_kk (fun _ => hc_cd (cbx_has y3) (fun s r2 g2 => ?_))
    obtain ⟨g0, g2⟩ := g2
    subst s
    refine hc_if (fun d => hc_some (H_n H (fun z => (yn_0 g2 d) z.2))) (fun d => ?_)
    obtain ⟨d1, d2, d3⟩ := yn_1 g2 d
    refine c_out h hM y2 y3 y4 y5 (fun z => (H_n H (fun u => z u.1)).symm) (fun z => H_y H ⟨z, d1⟩) (fun s k1 f2 PC PR TR => ?_)
    refine hc_cd (ch_tally PR TR d2 (by omega)) (fun s2 v e => ?_)
    obtain ⟨q1, e⟩ := e
    subst s2
    refine hc_cd (ch_payOf PC.2.1 y4 d2 d3) (fun s2 v2 e2 => ?_)
    obtain ⟨q1, e2⟩ := e2
    subst s2
    refine hc_cd (ch_rate PC.2.1 y4 d2 d3) (fun s2 v3 e3 => hc_some ?_)
    rw [e2, e3.2, e]
    rfl
theorem e_honest {σ σ2 : gb_S} {f f2 : gb_F} {w w2 : Int64} {p1 p2 p3 ra qa : Int32} (_ : gb_TC σ) (hM : gb_TM f) (h : gb_R σ f) (ec : cs_Face_honest gb_N σ p1 p2 p3 = some (σ2, ra)) (em : ms_honest gb_N f w p1 p2 p3 = some (f2, w2, qa)) : ra = qa := c_honest h hM (m_honest (Nat.le_refl _) hM _ _ _ em) _ _ ec
/-! take -/
def gb_tke (R : Nat → Int32) (f : gb_F) (x : Int32) (p : Nat) : Int32 := if gb_tbt x p = true then (if R 2 = -1 then gb_pt R f x p else if gb_pb R f x (gb_nP R) ≤ R 2 then gb_pt R f x p else 0) else gb_pt R f x p
theorem ch_capP {n : Nat} {σ : gb_S} {k0 k1 : Nat} {R NR : Nat → Int32} (h : gb_PC k0 k1 R NR σ) : gb_hc (cs_Border_cap_B n σ (σ.2.1 1)) (fun s r => s = σ ∧ r = R 2) := by
  rw [h.1]
  refine hc_mono ch_cap (fun s r g => ⟨g.1, ?_⟩)
  rw [g.2]
  exact (h.2.1.2.1 rfl).2.1
theorem ch_taken {n k0 k1 p : Nat} {σ : gb_S} {f : gb_F} {R NR : Nat → Int32} {t : Prop} {x v : Int32} (h : gb_PC k0 k1 R NR σ) (hR : gb_rB R) (hP : gb_PR R t σ f) (hT : gb_tr 100000 f) (e : v.toInt = p) (hp : p < gb_nP R) : gb_hc (cs_Play_taken n σ x v) (fun s r => s = σ ∧ r = gb_tke R f x p) := by
  have h5 := (rB_nP hR).2
  have z00 : (0 : Int32) = 0 := rfl
  unfold cs_Play_taken cs_Play_taken_14
  refine hc_if (fun c => ?_) (fun c => ?_)
  · have b := (tb_bit e (by omega)).mp c
    rw [if_neg (by decide)]
    refine hc_kk (fun _ => hc_cd (ch_capP h) (fun s r g => ?_))
    obtain ⟨g1, g2⟩ := g
    subst s
    subst g2
    refine hc_if (fun d => ?_) (fun d => ?_)
    · rw [if_pos z00]
      refine hc_cd (ch_payTold h hR hP hT e hp) (fun s r g => hc_some ⟨g.1, ?_⟩)
      unfold gb_tke
      rw [g.2, if_pos b, if_pos d]
    · refine hc_cd (ch_payBy h hR hP hT) (fun s r g => ?_)
      obtain ⟨g1, g2⟩ := g
      subst s
      subst g2
      refine hc_kk (fun _ => hc_cd (ch_capP h) (fun s r g => ?_))
      obtain ⟨g1, g2⟩ := g
      subst s
      subst g2
      refine hc_if (fun d2 => ?_) (fun d2 => ?_)
      · rw [if_pos z00]
        refine hc_cd (ch_payTold h hR hP hT e hp) (fun s r g => hc_some ⟨g.1, ?_⟩)
        unfold gb_tke
        rw [g.2, if_pos b, if_neg d, if_pos d2]
      · rw [if_neg (by decide)]
        refine hc_some ⟨rfl, ?_⟩
        unfold gb_tke
        rw [if_pos b, if_neg d, if_neg d2]
  · rw [if_pos z00, if_pos z00]
    refine hc_cd (ch_payTold h hR hP hT e hp) (fun s r g => hc_some ⟨g.1, ?_⟩)
    unfold gb_tke
    rw [g.2, if_neg (fun z => c ((tb_bit e (by omega)).mpr z))]
theorem mh_takeOf {n m p : Nat} {f : gb_F} {w : Int64} {R : Nat → Int32} {x v : Int32} (h : gb_mbx m R f) (e : v.toInt = p) (hp : p < gb_nP R) : gb_hm (ms_takeOf n f w x v) (fun f2 w2 r => f2 = f ∧ w2 = w ∧ r = gb_tke R f x p) := by
  have hR := mbx_rB h
  have h5 := (rB_nP hR).2
  have pE := (rB_nP hR).1
  have l97 : ∀ t0 : Int32, (t0 = 0 ↔ ¬ gb_tbt x p = true) → gb_hm (ms_takeOf_97 n f w v t0) (fun f2 w2 r => f2 = f ∧ w2 = w ∧ r = gb_pt R f x p) := by
    intro t0 ht
    unfold ms_takeOf_97
    refine hm_if (fun c => hm_bd (mx_ofPath h e (by omega) (j := 1) (by decide) (by decide)) (fun f1 w1 r g => ?_)) (fun c => hm_bd (mh_pay h e (by omega)) (fun f1 w1 r g => hm_some ⟨g.1, g.2.1, ?_⟩))
    · obtain ⟨g1, g2, g3⟩ := g
      subst f1
      subst w1
      refine hm_bd (mh_tally e) (fun f1 w1 r2 g => hm_some ⟨g.1, g.2.1, ?_⟩)
      unfold gb_pt
      rw [if_neg (ht.mp c), g3, g.2.2]
    · unfold gb_pt
      rw [if_pos (Classical.byContradiction (fun z => c (ht.mpr z))), g.2.2]
  have l70 : ∀ t0 : Int32, (t0 = 0 ↔ ¬ gb_tbt x p = true) → gb_hm (ms_takeOf_70 n f w v (gb_pb R f x (gb_nP R)) t0) (fun f2 w2 r => f2 = f ∧ w2 = w ∧ r = gb_tke R f x p) := by
    intro t0 ht
    unfold ms_takeOf_70
    refine hm_bd (mx_of h (j := 2) (by decide) (by decide)) (fun f1 w1 r g => ?_)
    obtain ⟨g1, g2, g3⟩ := g
    subst f1
    subst w1
    subst g3
    refine hm_if (fun c => hm_mono (l97 t0 ht) (fun f2 w2 r g => ⟨g.1, g.2.1, ?_⟩)) (fun c => hm_bd (mx_of h (j := 2) (by decide) (by decide)) (fun f1 w1 r g => ?_))
    · unfold gb_tke
      rw [g.2.2]
      by_cases b : gb_tbt x p = true
      · rw [if_pos b, if_pos c]
      · rw [if_neg b]
    · obtain ⟨g1, g2, g3⟩ := g
      subst f1
      subst w1
      subst g3
      refine hm_if (fun d => hm_mono (l97 t0 ht) (fun f2 w2 r g => ⟨g.1, g.2.1, ?_⟩)) (fun d => hm_if (fun q => hm_mono (l97 t0 ht) (fun f2 w2 r g => ⟨g.1, g.2.1, ?_⟩)) (fun q => hm_some ⟨rfl, rfl, ?_⟩))
      · unfold gb_tke
        rw [g.2.2]
        by_cases b : gb_tbt x p = true
        · rw [if_pos b, if_neg c, if_pos d]
        · rw [if_neg b]
      · unfold gb_tke
        rw [g.2.2, if_neg (ht.mp q)]
      · unfold gb_tke
        rw [if_pos (Classical.byContradiction (fun z => q (ht.mpr z))), if_neg c, if_neg d]
  have go : ∀ (mm : Nat) (a y : Int32) (k : Nat), y.toInt = k → k ≤ gb_nP R → a = gb_pb R f x k → gb_hm (ms_takeOf_5 n mm f w x v a y) (fun f2 w2 r => f2 = f ∧ w2 = w ∧ r = gb_tke R f x p) := by
    intro mm
    induction mm with
    | zero =>
      intros
      exact hm_none
    | succ mm ih =>
      intro a y k ey hk ea
      rw [ms_takeOf_5]
      refine hm_bd (mx_paths h) (fun f1 w1 r g => ?_)
      obtain ⟨g1, g2, g3⟩ := g
      subst f1
      subst w1
      subst g3
      refine hm_if (fun c => ?_) (fun c => ?_)
      · have := gi_le c
        rw [ea, show k = gb_nP R by omega]
        exact hm_if (fun d => l70 1 ⟨fun z => absurd z (by decide), fun z => absurd ((tb_bit e (by omega)).mp d) z⟩) (fun d => l70 0 ⟨fun _ z => d ((tb_bit e (by omega)).mpr z), fun _ => rfl⟩)
      · have c' := gi_nle c
        have st : gb_pb R f x (k + 1) = gb_pb R f x k + gb_pt R f x k := rfl
        refine hm_if (fun d => hm_bd (mh_pay h ey (by omega)) (fun f1 w1 r g => ?_)) (fun d => hm_bd (mx_ofPath h ey (by omega) (j := 1) (by decide) (by decide)) (fun f1 w1 r g => ?_))
        · obtain ⟨g1, g2, g3⟩ := g
          subst f1
          subst w1
          refine hm_lt (fun a2 ea2 => hm_lt (fun x2 ex2 => ih a2 x2 (k + 1) (gi_1 ey (by omega) ex2) (by omega) ?_))
          rw [st, ea2, ea, g3]
          unfold gb_pt
          rw [if_pos ((tb_bit ey (by omega)).mp d)]
        · obtain ⟨g1, g2, g3⟩ := g
          subst f1
          subst w1
          refine hm_bd (mh_tally ey) (fun f1 w1 r2 g => ?_)
          obtain ⟨g1, g2, g4⟩ := g
          subst f1
          subst w1
          refine hm_lt (fun a2 ea2 => hm_lt (fun x2 ex2 => ih a2 x2 (k + 1) (gi_1 ey (by omega) ex2) (by omega) ?_))
          rw [st, ea2, ea, g3, g4]
          unfold gb_pt
          rw [if_neg (fun z => d ((tb_bit ey (by omega)).mpr z))]
  unfold ms_takeOf
  exact go n 0 0 0 (by decide) (Nat.zero_le _) rfl
theorem sh_p : ∀ k : Fin 6, (((1 : Int32) <<< (Int32.ofNat k.val &&& 31)).toInt = 2 ^ k.val) ∧ (((1 : Int32) <<< (Int32.ofNat k.val &&& 31)) - 1).toInt = 2 ^ k.val - 1 := by decide
theorem sh_q {x : Int32} {k : Nat} (e : x.toInt = k) (hk : k ≤ 5) : ((1 : Int32) <<< (x &&& 31)).toInt = 2 ^ k ∧ (((1 : Int32) <<< (x &&& 31)) - 1).toInt = 2 ^ k - 1 := by
  have ex : x = Int32.ofNat k := gi_nI e (by omega)
  rw [ex]
  exact sh_p ⟨k, by omega⟩
theorem m_take {n : Nat} {f : gb_F} {w : Int64} {p1 p2 p3 p4 : Int32} (hn : gb_N ≤ n) (hM : gb_TM f) : gb_hm (ms_take n f w p1 p2 p3 p4) (fun _ _ q => gb_H n f p1 p2 q (-1) (gb_i0 p4 (gb_Rs 0 f p1 0) ∧ 0 ≤ p3.toInt ∧ p3.toInt < 2 ^ gb_nP (gb_Rs 0 f p1)) (fun f2 => gb_tke (gb_Rs 0 f p1) f2 p3 p4.toInt.toNat)) := by
  have c0 : (0 : Int32).toInt = 0 := by decide
  unfold ms_take
  refine hm_bd (mh_areTold hM) (fun f1 w1 r g => hm_if (fun c => hm_some (Or.inl ⟨fun z => (yn_0 g c) z.1, rfl⟩)) (fun c => ?_))
  obtain ⟨a, b1, b2, b3, b4, m, b5⟩ := yn_1 g c
  have hR := mbx_rB b5.1
  have h5 := (rB_nP hR).2
  have pE := (rB_nP hR).1
  refine hm_bd (mbx_has b5.1) (fun f2 w2 r2 g2 => ?_)
  obtain ⟨q1, q2, g2⟩ := g2
  subst f2
  subst w2
  refine hm_if (fun d => hm_some (Or.inl ⟨fun z => (yn_0 g2 d) z.2.1, rfl⟩)) (fun d => ?_)
  obtain ⟨d1, d2, d3⟩ := yn_1 g2 d
  refine hm_bd (mx_paths b5.1) (fun f2 w2 r3 g3 => ?_)
  obtain ⟨q1, q2, q3⟩ := g3
  subst f2
  subst w2
  subst q3
  have sq := sh_q pE h5
  refine hm_bd mh_isIn (fun f2 w2 r4 g4 => ?_)
  obtain ⟨q1, q2, g4⟩ := g4
  subst f2
  subst w2
  rw [c0, sq.2] at g4
  refine hm_if (fun z => hm_some (Or.inl ⟨fun u => ?_, rfl⟩)) (fun z => ?_)
  · rcases g4 with y | y
    · rw [z] at y
      exact absurd y.1 (by decide)
    · have := u.2.2
      omega
  · have rg : 0 ≤ p3.toInt ∧ p3.toInt < 2 ^ gb_nP (gb_Rs 0 f p1) := by
      rcases g4 with y | y
      · have := y.2
        exact ⟨by omega, by omega⟩
      · exact absurd y.1 z
    refine hm_bd (mh_ran hn b5 b2 b3 b1) (fun f2 w2 u k => ?_)
    obtain ⟨m2, pm⟩ := ran_PM k.1
    exact hm_bd (mh_takeOf pm.1 d2 d3) (fun f3 w3 v3 e3 => hm_some (Or.inr ⟨⟨a, d1, rg⟩, f2, k.1, e3.2.2⟩))
theorem c_take {n : Nat} {σ : gb_S} {f : gb_F} {p1 p2 p3 p4 q : Int32} (h : gb_R σ f) (hM : gb_TM f) (H : gb_H n f p1 p2 q (-1) (gb_i0 p4 (gb_Rs 0 f p1 0) ∧ 0 ≤ p3.toInt ∧ p3.toInt < 2 ^ gb_nP (gb_Rs 0 f p1)) (fun f2 => gb_tke (gb_Rs 0 f p1) f2 p3 p4.toInt.toNat)) : gb_hc (cs_Face_take n σ p1 p2 p3 p4) (fun _ r => r = q) := by
  have c0 : (0 : Int32).toInt = 0 := by decide
  unfold cs_Face_take
  refine hc_cd (cy_border h hM) (fun s r g => ?_)
  obtain ⟨g0, g⟩ := g
  subst s
  refine hc_if (fun c => hc_some (H_n H (fun z => ?_))) (fun c => ?_)
  · rcases g with y | y
    · exact y.2 z.1.1
    · exact y.1 c
  · rcases g with y | ⟨y1, y2, y3, y4, y5⟩
    · exact absurd y.1 c
    have h5 := (rB_nP y4).2
    have pE := (rB_nP y4).1
    refine hc_kk (fun _ => hc_cd (cbx_has y3) (fun s r2 g2 => ?_))
    obtain ⟨g0, g2⟩ := g2
    subst s
    refine hc_if (fun d => hc_some (H_n H (fun z => (yn_0 g2 d) z.2.1))) (fun d => ?_)
    obtain ⟨d1, d2, d3⟩ := yn_1 g2 d
    refine hc_if (fun e => hc_some (H_n H (fun z => ?_))) (fun e => hc_cd ch_paths (fun s r3 g3 => ?_))
    · have := gi_lt e
      have := z.2.2.1
      omega
    · obtain ⟨g0, g3⟩ := g3
      subst s
      have eR : σ.1 (r + 1) 0 = gb_Rs 0 f p1 0 := y3.1
      rw [eR] at g3
      have sq := (sh_q (x := r3) (by rw [g3]; exact pE) h5).1
      refine hc_if (fun e2 => ?_) (fun e2 => hc_some (H_n H (fun z => ?_)))
      · have e' := gi_nlt e
        have e2' := gi_lt e2
        rw [sq] at e2'
        refine c_out h hM y2 y3 y4 y5 (fun z => (H_n H (fun u => z u.1)).symm) (fun z => H_y H ⟨z, d1, by omega, e2'⟩) (fun s k1 f2 PC PR TR => ?_)
        exact hc_cd (ch_taken PC y4 PR TR d2 d3) (fun s2 v e => hc_some e.2)
      · have e2' := gi_nlt e2
        rw [sq] at e2'
        have := z.2.2.2
        omega
theorem e_take {σ σ2 : gb_S} {f f2 : gb_F} {w w2 : Int64} {p1 p2 p3 p4 ra qa : Int32} (_ : gb_TC σ) (hM : gb_TM f) (h : gb_R σ f) (ec : cs_Face_take gb_N σ p1 p2 p3 p4 = some (σ2, ra)) (em : ms_take gb_N f w p1 p2 p3 p4 = some (f2, w2, qa)) : ra = qa := c_take h hM (m_take (Nat.le_refl _) hM _ _ _ em) _ _ ec
/-! rest -/
def gb_ar (R : Nat → Int32) (f : gb_F) (x : Int32) : Nat → Prop
  | 0 => True
  | p + 1 => gb_ar R f x p ∧ gb_tke R f (x ^^^ ((1 : Int32) <<< (Int32.ofNat p &&& 31))) p ≤ gb_tke R f x p
theorem ar_m {R : Nat → Int32} {f : gb_F} {x : Int32} : ∀ (d k : Nat), gb_ar R f x (k + d) → gb_ar R f x k := by
  intro d
  induction d with
  | zero => exact fun _ h => h
  | succ d ih => exact fun k h => ih k h.1
theorem ch_atRest {n k0 k1 : Nat} {σ : gb_S} {f : gb_F} {R NR : Nat → Int32} {t : Prop} {x : Int32} (h : gb_PC k0 k1 R NR σ) (hR : gb_rB R) (hP : gb_PR R t σ f) (hT : gb_tr 100000 f) : gb_hc (cs_Play_isAtRest n σ x) (fun s r => s = σ ∧ ((r = 0 ∧ ¬ gb_ar R f x (gb_nP R)) ∨ (r = 1 ∧ gb_ar R f x (gb_nP R)))) := by
  have h5 := (rB_nP hR).2
  have pE := (rB_nP hR).1
  have go : ∀ (mm : Nat) (v : Int32) (k : Nat), v.toInt = k → k ≤ gb_nP R → gb_ar R f x k → gb_hc (cs_Play_isAtRest_2 n mm σ x v) (fun s r => s = σ ∧ ((r = 0 ∧ ¬ gb_ar R f x (gb_nP R)) ∨ (r = 1 ∧ gb_ar R f x (gb_nP R)))) := by
    intro mm
    induction mm with
    | zero =>
      intros
      exact hc_none
    | succ mm ih =>
      intro v k e hk ha
      rw [cs_Play_isAtRest_2, h.1]
      refine hc_kk (fun _ => hc_cd ch_paths (fun s r g => ?_))
      obtain ⟨g1, g2⟩ := g
      subst s
      have eR : σ.1 (k0 + 1) 0 = R 0 := h.2.1.1
      rw [eR] at g2
      subst g2
      refine hc_if (fun c => hc_some ⟨rfl, Or.inr ⟨rfl, ?_⟩⟩) (fun c => ?_)
      · have := gi_le c
        rw [show gb_nP R = k by omega]
        exact ha
      · have c' := gi_nle c
        have hkc : k < gb_nP R := by omega
        have ev : v = Int32.ofNat k := gi_nI e (by omega)
        refine hc_cd (ch_taken h hR hP hT e hkc) (fun s r g => ?_)
        obtain ⟨g1, g2⟩ := g
        subst s
        refine hc_cd (ch_taken h hR hP hT e hkc) (fun s r2 g => ?_)
        obtain ⟨g1, g3⟩ := g
        subst s
        rw [ev] at g2
        refine hc_if (fun d => hc_lt (fun v2 ev2 => ih v2 (k + 1) (gi_1 e (by omega) ev2) (by omega) ⟨ha, by rw [← g2, ← g3]; exact d⟩)) (fun d => hc_some ⟨rfl, Or.inl ⟨rfl, fun z => d ?_⟩⟩)
        have := ar_m (gb_nP R - (k + 1)) (k + 1) (by rw [show k + 1 + (gb_nP R - (k + 1)) = gb_nP R by omega]; exact z)
        rw [g2, g3]
        exact this.2
  unfold cs_Play_isAtRest
  exact go n 0 0 (by decide) (Nat.zero_le _) trivial
theorem mh_isRest {n m : Nat} {f : gb_F} {w : Int64} {R : Nat → Int32} {x : Int32} (h : gb_mbx m R f) : gb_hm (ms_isRest n f w x) (fun f2 w2 r => f2 = f ∧ w2 = w ∧ ((r = 0 ∧ ¬ gb_ar R f x (gb_nP R)) ∨ (r = 1 ∧ gb_ar R f x (gb_nP R)))) := by
  have hR := mbx_rB h
  have h5 := (rB_nP hR).2
  have pE := (rB_nP hR).1
  have go : ∀ (mm : Nat) (a v : Int32) (k : Nat), v.toInt = k → k ≤ gb_nP R → ((a = 0 ∧ ¬ gb_ar R f x k) ∨ (a = 1 ∧ gb_ar R f x k)) → gb_hm (ms_isRest_4 n mm f w x a v) (fun f2 w2 r => f2 = f ∧ w2 = w ∧ ((r = 0 ∧ ¬ gb_ar R f x (gb_nP R)) ∨ (r = 1 ∧ gb_ar R f x (gb_nP R)))) := by
    intro mm
    induction mm with
    | zero =>
      intros
      exact hm_none
    | succ mm ih =>
      intro a v k e hk ha
      rw [ms_isRest_4]
      refine hm_bd (mx_paths h) (fun f1 w1 r g => ?_)
      obtain ⟨g1, g2, g3⟩ := g
      subst f1
      subst w1
      subst g3
      refine hm_if (fun c => hm_cb (fun _ => hm_some ⟨rfl, rfl, ?_⟩)) (fun c => ?_)
      · have := gi_le c
        rw [show gb_nP R = k by omega]
        exact ha
      · have c' := gi_nle c
        have hkc : k < gb_nP R := by omega
        have ev : v = Int32.ofNat k := gi_nI e (by omega)
        refine hm_if (fun d => hm_lt (fun v2 ev2 => ih 0 v2 (k + 1) (gi_1 e (by omega) ev2) (by omega) (Or.inl ⟨rfl, fun z => (yn_0 ha d) z.1⟩))) (fun d => ?_)
        have yes := yn_1 ha d
        refine hm_bd (mh_takeOf h e hkc) (fun f1 w1 r g => ?_)
        obtain ⟨g1, g2, g3⟩ := g
        subst f1
        subst w1
        refine hm_bd (mh_takeOf h e hkc) (fun f1 w1 r2 g => ?_)
        obtain ⟨g1, g2, g4⟩ := g
        subst f1
        subst w1
        have g3' : r = gb_tke R f (x ^^^ ((1 : Int32) <<< (Int32.ofNat k &&& 31))) k := by
          rw [g3, ev]
        refine hm_if (fun q => hm_lt (fun v2 ev2 => ih 0 v2 (k + 1) (gi_1 e (by omega) ev2) (by omega) (Or.inl ⟨rfl, fun z => ?_⟩))) (fun q => hm_lt (fun v2 ev2 => ih 1 v2 (k + 1) (gi_1 e (by omega) ev2) (by omega) (Or.inr ⟨rfl, yes, ?_⟩)))
        · have z2 := gi_le z.2
          have q' := gi_lt q
          rw [← g3', ← g4] at z2
          omega
        · rw [← g3', ← g4]
          exact Int32.le_iff_toInt_le.mpr (gi_nlt q)
  unfold ms_isRest
  exact go n 1 0 0 (by decide) (Nat.zero_le _) (Or.inr ⟨rfl, trivial⟩)
def gb_arb (R : Nat → Int32) (f : gb_F) (x : Int32) : Nat → Bool
  | 0 => true
  | p + 1 => gb_arb R f x p && decide (gb_tke R f (x ^^^ ((1 : Int32) <<< (Int32.ofNat p &&& 31))) p ≤ gb_tke R f x p)
theorem arb_E {R : Nat → Int32} {f : gb_F} {x : Int32} : ∀ k, gb_arb R f x k = true ↔ gb_ar R f x k := by
  intro k
  induction k with
  | zero => exact ⟨fun _ => trivial, fun _ => rfl⟩
  | succ k ih =>
    show (gb_arb R f x k && decide (gb_tke R f (x ^^^ ((1 : Int32) <<< (Int32.ofNat k &&& 31))) k ≤ gb_tke R f x k)) = true ↔ (gb_ar R f x k ∧ gb_tke R f (x ^^^ ((1 : Int32) <<< (Int32.ofNat k &&& 31))) k ≤ gb_tke R f x k)
    rw [Bool.and_eq_true, ih, decide_eq_true_iff]
/-- the rests from k on, and the one that is asked for -/
def gb_rsf (R : Nat → Int32) (f : gb_F) (v3 : Int32) : Nat → Int32 → Nat → Int32
  | 0, a, _ => if v3 = -1 then a else -2
  | d + 1, a, k => if gb_arb R f (Int32.ofNat k) (gb_nP R) = true then (if a = v3 then Int32.ofNat k else gb_rsf R f v3 d (a + 1) (k + 1)) else gb_rsf R f v3 d a (k + 1)
theorem rs_y {R : Nat → Int32} {f : gb_F} {v3 a : Int32} {d k : Nat} (h : gb_ar R f (Int32.ofNat k) (gb_nP R)) : gb_rsf R f v3 (d + 1) a k = if a = v3 then Int32.ofNat k else gb_rsf R f v3 d (a + 1) (k + 1) := by
  rw [gb_rsf, if_pos ((arb_E _).mpr h)]
theorem rs_n {R : Nat → Int32} {f : gb_F} {v3 a : Int32} {d k : Nat} (h : ¬ gb_ar R f (Int32.ofNat k) (gb_nP R)) : gb_rsf R f v3 (d + 1) a k = gb_rsf R f v3 d a (k + 1) := by
  rw [gb_rsf, if_neg (fun z => h ((arb_E _).mp z))]
theorem ch_rest49 {n k0 k1 : Nat} {σ : gb_S} {f : gb_F} {R NR : Nat → Int32} {t : Prop} {v3 v5 : Int32} {M : Nat} (h : gb_PC k0 k1 R NR σ) (hR : gb_rB R) (hP : gb_PR R t σ f) (hT : gb_tr 100000 f) (e5 : v5.toInt = M) (hM : M ≤ 1000) : ∀ (mm : Nat) (a x : Int32) (k d : Nat), x.toInt = k → k + d = M → gb_hc (cs_Face_rest_49 n mm σ v3 v5 a x) (fun _ r => r = gb_rsf R f v3 d a k) := by
  intro mm
  induction mm with
  | zero =>
    intros
    exact hc_none
  | succ mm ih =>
    intro a x k d e hk
    rw [cs_Face_rest_49]
    have ex : x = Int32.ofNat k := gi_nI e (by omega)
    refine hc_if (fun c => ?_) (fun c => ?_)
    · have := gi_le c
      have d0 : d = 0 := by omega
      subst d0
      exact hc_if (fun q => hc_some (by rw [gb_rsf, if_pos q])) (fun q => hc_some (by rw [gb_rsf, if_neg q]))
    · have c' := gi_nle c
      obtain ⟨d2, rfl⟩ : ∃ d2, d = d2 + 1 := ⟨d - 1, by omega⟩
      refine hc_cd (ch_atRest h hR hP hT) (fun s r g => ?_)
      obtain ⟨g1, g2⟩ := g
      subst s
      refine hc_if (fun q => hc_lt (fun x2 ex2 => ?_)) (fun q => ?_)
      · have no := yn_0 g2 q
        rw [ex] at no
        rw [rs_n no]
        exact ih a x2 (k + 1) d2 (gi_1 e (by omega) ex2) (by omega)
      · have yes := yn_1 g2 q
        rw [ex] at yes
        rw [rs_y yes]
        refine hc_if (fun z => hc_some ?_) (fun z => hc_lt (fun a2 ea2 => hc_lt (fun x2 ex2 => ?_)))
        · rw [if_pos z, ex]
        · rw [if_neg z, ← ea2]
          exact ih a2 x2 (k + 1) d2 (gi_1 e (by omega) ex2) (by omega)
theorem mh_rest29 {n m : Nat} {f : gb_F} {w : Int64} {R : Nat → Int32} {v3 : Int32} (h : gb_mbx m R f) : ∀ (mm : Nat) (a x : Int32) (k d : Nat), x.toInt = k → k + d = 2 ^ gb_nP R → gb_hm (ms_rest_29 n mm f w v3 a x) (fun _ _ r => r = gb_rsf R f v3 d a k) := by
  have hR := mbx_rB h
  have h5 := (rB_nP hR).2
  have pE := (rB_nP hR).1
  have sq := (sh_q pE h5).1
  have M32 : 2 ^ gb_nP R ≤ 32 := by
    have := Nat.pow_le_pow_right (show 0 < 2 by decide) h5
    omega
  have cast : ((2 : Int) ^ gb_nP R) = ((2 ^ gb_nP R : Nat) : Int) := by
    rw [Int.natCast_pow]
    rfl
  rw [cast] at sq
  intro mm
  induction mm with
  | zero =>
    intros
    exact hm_none
  | succ mm ih =>
    intro a x k d e hk
    rw [ms_rest_29]
    have ex : x = Int32.ofNat k := gi_nI e (by omega)
    refine hm_bd (mx_paths h) (fun f1 w1 r g => ?_)
    obtain ⟨g1, g2, g3⟩ := g
    subst f1
    subst w1
    subst g3
    refine hm_if (fun c => ?_) (fun c => ?_)
    · have := gi_le c
      have d0 : d = 0 := by omega
      subst d0
      exact hm_if (fun q => hm_some (by rw [gb_rsf, if_pos q])) (fun q => hm_some (by rw [gb_rsf, if_neg q]))
    · have c' := gi_nle c
      obtain ⟨d2, rfl⟩ : ∃ d2, d = d2 + 1 := ⟨d - 1, by omega⟩
      refine hm_bd (mh_isRest h) (fun f1 w1 r g => ?_)
      obtain ⟨g1, g2, g3⟩ := g
      subst f1
      subst w1
      refine hm_if (fun q => hm_lt (fun x2 ex2 => ?_)) (fun q => ?_)
      · have no := yn_0 g3 q
        rw [ex] at no
        rw [rs_n no]
        exact ih a x2 (k + 1) d2 (gi_1 e (by omega) ex2) (by omega)
      · have yes := yn_1 g3 q
        rw [ex] at yes
        rw [rs_y yes]
        refine hm_if (fun z => hm_some ?_) (fun z => hm_lt (fun a2 ea2 => hm_lt (fun x2 ex2 => ?_)))
        · rw [if_pos z, ex]
        · rw [if_neg z, ← ea2]
          exact ih a2 x2 (k + 1) d2 (gi_1 e (by omega) ex2) (by omega)
theorem m_rest {n : Nat} {f : gb_F} {w : Int64} {p1 p2 p3 : Int32} (hn : gb_N ≤ n) (hM : gb_TM f) : gb_hm (ms_rest n f w p1 p2 p3) (fun _ _ q => gb_H n f p1 p2 q (-2) (-1 ≤ p3.toInt) (fun f2 => gb_rsf (gb_Rs 0 f p1) f2 p3 (2 ^ gb_nP (gb_Rs 0 f p1)) 0 0)) := by
  have c1 : (-1 : Int32).toInt = -1 := by decide
  unfold ms_rest
  refine hm_bd (mh_areTold hM) (fun f1 w1 r g => hm_if (fun c => hm_some (Or.inl ⟨fun z => (yn_0 g c) z.1, rfl⟩)) (fun c => ?_))
  obtain ⟨a, b1, b2, b3, b4, m, b5⟩ := yn_1 g c
  refine hm_if (fun d => hm_bd (mh_ran hn b5 b2 b3 b1) (fun f2 w2 u k => ?_)) (fun d => hm_some (Or.inl ⟨fun z => ?_, rfl⟩))
  · obtain ⟨m2, pm⟩ := ran_PM k.1
    have d' := gi_le d
    refine hm_mono (mh_rest29 pm.1 n 0 0 0 (2 ^ gb_nP (gb_Rs 0 f p1)) (by decide) (Nat.zero_add _)) (fun f3 w3 r3 e3 => Or.inr ⟨⟨a, by omega⟩, f2, k.1, e3⟩)
  · have d' := gi_nle d
    have := z.2
    omega
theorem c_rest {n : Nat} {σ : gb_S} {f : gb_F} {p1 p2 p3 q : Int32} (h : gb_R σ f) (hM : gb_TM f) (H : gb_H n f p1 p2 q (-2) (-1 ≤ p3.toInt) (fun f2 => gb_rsf (gb_Rs 0 f p1) f2 p3 (2 ^ gb_nP (gb_Rs 0 f p1)) 0 0)) : gb_hc (cs_Face_rest n σ p1 p2 p3) (fun _ r => r = q) := by
  have c1 : (-1 : Int32).toInt = -1 := by decide
  unfold cs_Face_rest
  refine hc_cd (cy_border h hM) (fun s r g => ?_)
  obtain ⟨g0, g⟩ := g
  subst s
  refine hc_if (fun c => ?_) (fun c => ?_)
  · have nb : ¬ (gb_two f p1 p2 ∧ -1 ≤ p3.toInt) := fun z => by
      rcases g with y | y
      · exact y.2 z.1.1
      · exact y.1 c
    exact hc_if (fun _ => hc_some (H_n H nb)) (fun _ => hc_some (H_n H nb))
  · rcases g with y | ⟨y1, y2, y3, y4, y5⟩
    · exact absurd y.1 c
    have h5 := (rB_nP y4).2
    have pE := (rB_nP y4).1
    refine hc_kk (fun _ => hc_if (fun d => hc_some (H_n H (fun z => ?_))) (fun d => ?_))
    · have d' := gi_lt d
      have := z.2
      omega
    · have d' := gi_nlt d
      refine c_out h hM y2 y3 y4 y5 (fun z => (H_n H (fun u => z u.1)).symm) (fun z => H_y H ⟨z, by omega⟩) (fun s k1 f2 PC PR TR => ?_)
      refine hc_cd ch_paths (fun s2 r2 g2 => ?_)
      obtain ⟨q1, q2⟩ := g2
      subst s2
      have eR : s.1 (r + 1) 0 = gb_Rs 0 f p1 0 := PC.2.1.1
      rw [eR] at q2
      have sq := (sh_q (x := r2) (by rw [q2]; exact pE) h5).1
      have cast : ((2 : Int) ^ gb_nP (gb_Rs 0 f p1)) = ((2 ^ gb_nP (gb_Rs 0 f p1) : Nat) : Int) := by
        rw [Int.natCast_pow]
        rfl
      rw [cast] at sq
      have M32 : 2 ^ gb_nP (gb_Rs 0 f p1) ≤ 32 := by
        have := Nat.pow_le_pow_right (show 0 < 2 by decide) h5
        omega
      refine hc_lt (fun v5 e5 => ?_)
      exact ch_rest49 PC y4 PR TR (by rw [e5]; exact sq) (by omega) n 0 0 0 (2 ^ gb_nP (gb_Rs 0 f p1)) (by decide) (Nat.zero_add _)
theorem e_rest {σ σ2 : gb_S} {f f2 : gb_F} {w w2 : Int64} {p1 p2 p3 ra qa : Int32} (_ : gb_TC σ) (hM : gb_TM f) (h : gb_R σ f) (ec : cs_Face_rest gb_N σ p1 p2 p3 = some (σ2, ra)) (em : ms_rest gb_N f w p1 p2 p3 = some (f2, w2, qa)) : ra = qa := c_rest h hM (m_rest (Nat.le_refl _) hM _ _ _ em) _ _ ec
