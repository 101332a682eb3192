/-! EVERY DEED -/
theorem in_G {R : Nat → Int32} {x : Int32} (h : gb_i0 x (R 1)) : x.toInt = x.toInt.toNat ∧ x.toInt.toNat < gb_nG R := by
  have h1 := h.1
  have h2 := h.2
  unfold gb_nG
  omega
theorem in_P {R : Nat → Int32} {x : Int32} (h : gb_i0 x (R 0)) : x.toInt = x.toInt.toNat ∧ x.toInt.toNat < gb_nP R := by
  have h1 := h.1
  have h2 := h.2
  unfold gb_nP
  omega
theorem mk_E {R : Nat → Int32} {t : Prop} {σ : gb_S} {f : gb_F} {g p : Nat} (hP : gb_PR R t σ f) (hg : g < 8) : (gb_mk (gb_toe R g) (R (3 + 3 * p)) (σ.1 113 g) (R (18 + 5 * g + 3)) (σ.1 109 10)) = (gb_mk (gb_toe R g) (R (3 + 3 * p)) (f 5 g) (R (18 + 5 * g + 3)) (f 0 22)) := by
  rw [(hP.1 g hg).2.1, hP.2.2.2.2.1.1]
theorem bo_E {a m : Int32} (ha : gb_iv (-1) 60 a) (hm : gb_iv 0 20 m) : (if (0 : Int32) < (a - m) then (a - m) else (0 : Int32)) = (if a ≤ m then 0 else a - m) ∧ gb_iv (-1) 60 (if a ≤ m then 0 else a - m) := by
  have a1 := ha.1
  have a2 := ha.2
  have m1 := hm.1
  have m2 := hm.2
  have e : (a - m).toInt = a.toInt - m.toInt := gb_tsub (by omega) (by omega)
  have z : (0 : Int32).toInt = 0 := by decide
  by_cases c : a ≤ m
  · have c' := gi_le c
    rw [if_pos c, if_neg (fun q => by have := gi_lt q; omega)]
    exact ⟨rfl, by unfold gb_iv; rw [z]; omega⟩
  · have c' := gi_nle c
    rw [if_neg c, if_pos (Int32.lt_iff_toInt_lt.mpr (by omega))]
    exact ⟨rfl, by unfold gb_iv; rw [e]; omega⟩
theorem DE_go {R : Nat → Int32} {t : Prop} {σ s : gb_S} {f f2 : gb_F} {g p : Nat} {y z v5 d10 d11 : Int32} {T6 T7 : Nat → Int32} (hP : gb_PR R t σ f) (hR : gb_rB R) (hg : g < 8) (hp : p < 5) (hz : gb_iv 0 23 z) (A : gb_goP σ s g p y z (if (0 : Int32) < (σ.1 113 g - R (3 + 3 * p)) then (σ.1 113 g - R (3 + 3 * p)) else (0 : Int32)) (gb_mk (gb_toe R g) (R (3 + 3 * p)) (σ.1 113 g) (R (18 + 5 * g + 3)) (σ.1 109 10)) (if σ.1 112 g = 0 then 1 else 0) T6 T7) (B : gb_wkP f f2 g p z y v5 (if f 5 g ≤ R (3 + 3 * p) then 0 else f 5 g - R (3 + 3 * p)) (gb_mk (gb_toe R g) (R (3 + 3 * p)) (f 5 g) (R (18 + 5 * g + 3)) (f 0 22)) d10 d11) (ea : (if f 4 g = 0 then (1 : Int32) else 0) = v5) (H : (z = f 0 24 ∧ ¬ t ∧ T6 = σ.1 116 ∧ T7 = σ.1 117) ∨ (z ≠ f 0 24 ∧ T6 = upd (σ.1 116) p (σ.1 116 p + d10) ∧ T7 = upd (σ.1 117) p (σ.1 117 p + d11))) : gb_DE R t σ s f f2 := by
  have q := bo_E (hP.2.1 g hg).2 (rB_mi hR hp)
  refine ⟨PR_go hP hg hp hz A B ?_ q.2 ?_ ?_ (mk_E hP hg) H, ?_, ?_, ?_⟩
  · rw [(hP.1 g hg).2.1]
    exact q.1
  · rw [(hP.1 g hg).1]
    exact ea
  · rw [← ea]
    by_cases c : f 4 g = 0
    · rw [if_pos c]
      exact by unfold gb_iv; decide
    · rw [if_neg c]
      exact by unfold gb_iv; decide
  · exact ⟨A.1, fun k hk => A.2.1 k (by omega)⟩
  · exact ⟨B.2.1, by rw [B.1], by rw [B.1], by rw [B.1], B.2.2.1⟩
  · rw [B.1]
theorem ch_eat {n : Nat} {σ : gb_S} {k0 k1 g : Nat} {R NR : Nat → Int32} {x : Int32} (h : gb_PC k0 k1 R NR σ) (e : x.toInt = g) (hg : g < gb_nG R) : gb_hc (cs_Play_eat n σ x) (fun s _ => s = gb_su σ 112 (upd (σ.1 112) g 2)) := by
  unfold cs_Play_eat
  rw [h.1]
  refine hc_kk (fun _ => hc_cd (cbx_hasG h.2.1) (fun s r q => ?_))
  obtain ⟨q1, q2⟩ := q
  subst s
  refine hc_if (fun c => ?_) (fun c => hc_ck (fun _ _ => hc_lt (fun s2 e2 => hc_some ?_)))
  · exact absurd (show gb_i0 x (R 1) from ⟨by omega, by unfold gb_nG at hg; omega⟩) (yn_0 q2 c)
  · rw [e2, gi_tn e]
theorem r_does {n m k0 k1 k : Nat} {R NR : Nat → Int32} {t : Prop} {σ : gb_S} {f : gb_F} {x p3 : Int32} (h : gb_PC k0 k1 R NR σ) (hM : gb_PM m R NR f) (hP : gb_PR R t σ f) (e : x.toInt = k) (hk : k < gb_nD NR) (hc : gb_can1 R NR f k) (h0 : p3 = 0 → x = f 0 24 ∧ ¬ t ∧ NR (1 + 4 * k) = 0) (h1 : ¬ p3 = 0 → x ≠ f 0 24) : gb_hc (cs_Play_doDeed_N n σ k1 x p3) (fun s _ => ∀ w : Int64, gb_hm (ms_does n f w x) (fun f2 _ _ => gb_DE R t σ s f f2)) := by
  have hR := mbx_rB hM.1
  have hN := hM.2.2
  have hk2 : k < 24 := by
    have := (rN_0 hN).2
    omega
  have hp5 := (rB_nP hR).2
  have hg8 := (rB_nG hR).2
  have hz : gb_iv 0 23 x := ⟨by omega, by omega⟩
  have ns : ¬ NR (1 + 4 * k) = 0 → x ≠ f 0 24 := fun q => h1 (fun z => q (h0 z).2.2)
  unfold cs_Play_doDeed_N
  refine hc_kk (fun _ => hc_cd (ch_dN h e hk hk2 (j := 1) (by decide) (by decide)) (fun s r g => ?_))
  obtain ⟨g1, g2⟩ := g
  subst s
  subst g2
  refine hc_cd (ch_dN h e hk hk2 (j := 2) (by decide) (by decide)) (fun s r g => ?_)
  obtain ⟨g1, g2⟩ := g
  subst s
  subst g2
  refine hc_cd (ch_kN h e hk hk2) (fun s r g => ?_)
  obtain ⟨g1, g2⟩ := g
  subst s
  subst g2
  refine hc_if (fun c0 => ?_) (fun c0 => ?_)
  · have cc := (can_0 c0).mp hc
    obtain ⟨⟨ia, ea⟩, ib⟩ := cc
    obtain ⟨a1, a2⟩ := in_G ia
    obtain ⟨b1, b2⟩ := in_P ib
    refine hc_if (fun d => hc_cd (ch_go_n h hR a1 a2 b1 b2) (fun s u A1 => hc_some ?_)) (fun d => hc_cd (ch_go_c116 h hR a1 a2 b1 b2) (fun s u A1 => hc_some ?_))
    · skip
      intro w
      unfold ms_does
      refine hm_bd (mx_deedOf hM.2.1 e (by omega) (j := 1) (by decide) (by decide)) (fun f1 w1 r1 g1 => ?_)
      obtain ⟨g1, g2, g3⟩ := g1
      subst f1
      subst w1
      subst g3
      refine hm_bd (mx_deedOf hM.2.1 e (by omega) (j := 2) (by decide) (by decide)) (fun f1 w1 r1 g1 => ?_)
      obtain ⟨g1, g2, g3⟩ := g1
      subst f1
      subst w1
      subst g3
      refine hm_bd (mx_deedOf hM.2.1 e (by omega) (j := 0) (by decide) (by decide)) (fun f1 w1 r1 g1 => ?_)
      obtain ⟨g1, g2, g3⟩ := g1
      subst f1
      subst w1
      subst g3
      rw [Nat.add_zero, if_pos c0]
      refine hm_bd (mh_walks hM.1 a1 (by omega) b1 (by omega)) (fun f2 w2 u2 B1 => hm_some ?_)
      exact DE_go hP hR (by omega) (by omega) hz A1 B1 (by rw [if_pos ea]) (Or.inl ⟨(h0 d).1, (h0 d).2.1, rfl, rfl⟩)
    · skip
      intro w
      unfold ms_does
      refine hm_bd (mx_deedOf hM.2.1 e (by omega) (j := 1) (by decide) (by decide)) (fun f1 w1 r1 g1 => ?_)
      obtain ⟨g1, g2, g3⟩ := g1
      subst f1
      subst w1
      subst g3
      refine hm_bd (mx_deedOf hM.2.1 e (by omega) (j := 2) (by decide) (by decide)) (fun f1 w1 r1 g1 => ?_)
      obtain ⟨g1, g2, g3⟩ := g1
      subst f1
      subst w1
      subst g3
      refine hm_bd (mx_deedOf hM.2.1 e (by omega) (j := 0) (by decide) (by decide)) (fun f1 w1 r1 g1 => ?_)
      obtain ⟨g1, g2, g3⟩ := g1
      subst f1
      subst w1
      subst g3
      rw [Nat.add_zero, if_pos c0]
      refine hm_bd (mh_walks hM.1 a1 (by omega) b1 (by omega)) (fun f2 w2 u2 B1 => hm_some ?_)
      exact DE_go hP hR (by omega) (by omega) hz A1 B1 (by rw [if_pos ea]) (Or.inr ⟨h1 d, by rw [if_pos rfl, mk_E hP (by omega)], by rw [if_pos rfl]; exact upd_0⟩)
  refine hc_if (fun c1 => ?_) (fun c1 => ?_)
  · have cc := (can_1 c1).mp hc
    obtain ⟨⟨ia, ea⟩, ib⟩ := cc
    obtain ⟨a1, a2⟩ := in_G ia
    obtain ⟨b1, b2⟩ := in_P ib
    refine hc_cd (ch_go_c117 h hR a1 a2 b1 b2) (fun s u A1 => hc_some ?_)
    · skip
      intro w
      unfold ms_does
      refine hm_bd (mx_deedOf hM.2.1 e (by omega) (j := 1) (by decide) (by decide)) (fun f1 w1 r1 g1 => ?_)
      obtain ⟨g1, g2, g3⟩ := g1
      subst f1
      subst w1
      subst g3
      refine hm_bd (mx_deedOf hM.2.1 e (by omega) (j := 2) (by decide) (by decide)) (fun f1 w1 r1 g1 => ?_)
      obtain ⟨g1, g2, g3⟩ := g1
      subst f1
      subst w1
      subst g3
      refine hm_bd (mx_deedOf hM.2.1 e (by omega) (j := 0) (by decide) (by decide)) (fun f1 w1 r1 g1 => ?_)
      obtain ⟨g1, g2, g3⟩ := g1
      subst f1
      subst w1
      subst g3
      rw [Nat.add_zero, if_neg c0, if_pos c1]
      refine hm_bd (mh_walks hM.1 a1 (by omega) b1 (by omega)) (fun f2 w2 u2 B1 => hm_some ?_)
      exact DE_go hP hR (by omega) (by omega) hz A1 B1 (by rw [if_pos ea]) (Or.inr ⟨ns (by rw [c1]; decide), by rw [if_neg (by decide)]; exact upd_0, by rw [if_neg (by decide), mk_E hP (by omega)]⟩)
  refine hc_if (fun c2 => ?_) (fun c2 => ?_)
  · have cc := (can_2 c2).mp hc
    obtain ⟨⟨ia, ea⟩, ib⟩ := cc
    obtain ⟨a1, a2⟩ := in_G ia
    obtain ⟨b1, b2⟩ := in_P ib
    refine hc_cd (ch_go_c117 h hR a1 a2 b1 b2) (fun s u A1 => hc_some ?_)
    · skip
      intro w
      unfold ms_does
      refine hm_bd (mx_deedOf hM.2.1 e (by omega) (j := 1) (by decide) (by decide)) (fun f1 w1 r1 g1 => ?_)
      obtain ⟨g1, g2, g3⟩ := g1
      subst f1
      subst w1
      subst g3
      refine hm_bd (mx_deedOf hM.2.1 e (by omega) (j := 2) (by decide) (by decide)) (fun f1 w1 r1 g1 => ?_)
      obtain ⟨g1, g2, g3⟩ := g1
      subst f1
      subst w1
      subst g3
      refine hm_bd (mx_deedOf hM.2.1 e (by omega) (j := 0) (by decide) (by decide)) (fun f1 w1 r1 g1 => ?_)
      obtain ⟨g1, g2, g3⟩ := g1
      subst f1
      subst w1
      subst g3
      rw [Nat.add_zero, if_neg c0, if_neg c1, if_pos c2]
      refine hm_bd (mh_walks hM.1 a1 (by omega) b1 (by omega)) (fun f2 w2 u2 B1 => hm_some ?_)
      exact DE_go hP hR (by omega) (by omega) hz A1 B1 (by rw [ea, if_neg (by decide)]) (Or.inr ⟨ns (by rw [c2]; decide), by rw [if_neg (by decide)]; exact upd_0, by rw [if_neg (by decide), mk_E hP (by omega)]⟩)
  refine hc_if (fun c3 => ?_) (fun c3 => ?_)
  · have cc := (can_3 c3).mp hc
    obtain ⟨⟨ia, ea⟩, ⟨ib, eb⟩, ic⟩ := cc
    obtain ⟨a1, a2⟩ := in_G ia
    obtain ⟨b1, b2⟩ := in_G ib
    obtain ⟨d1, d2⟩ := in_P ic
    refine hc_cd (ch_dN h e hk hk2 (j := 3) (by decide) (by decide)) (fun s r g => ?_)
    obtain ⟨g1, g2⟩ := g
    subst s
    subst g2
    refine hc_cd (ch_go_c116 h hR a1 a2 d1 d2) (fun s u A1 => ?_)
    have hs : gb_pfr σ s := ⟨A1.1, fun j hj => A1.2.1 j (by omega)⟩
    rw [gi_tn b1]
    refine hc_ck (fun _ _ => hc_lt (fun s2 e2 => ?_))
    have hs2 : gb_pfr σ s2 := by
      rw [e2]
      exact pfr_t hs (pfr_u (by decide))
    refine hc_cd (ch_dN (PC_k h hs2) e hk hk2 (j := 3) (by decide) (by decide)) (fun s3 r g => ?_)
    obtain ⟨g1, g2⟩ := g
    subst s3
    subst g2
    refine hc_ck (fun _ _ => hc_lt (fun s4 e4 => hc_some ?_))
    intro w
    unfold ms_does
    refine hm_bd (mx_deedOf hM.2.1 e (by omega) (j := 1) (by decide) (by decide)) (fun f1 w1 r1 g1 => ?_)
    obtain ⟨g1, g2, g3⟩ := g1
    subst f1
    subst w1
    subst g3
    refine hm_bd (mx_deedOf hM.2.1 e (by omega) (j := 2) (by decide) (by decide)) (fun f1 w1 r1 g1 => ?_)
    obtain ⟨g1, g2, g3⟩ := g1
    subst f1
    subst w1
    subst g3
    refine hm_bd (mx_deedOf hM.2.1 e (by omega) (j := 0) (by decide) (by decide)) (fun f1 w1 r1 g1 => ?_)
    obtain ⟨g1, g2, g3⟩ := g1
    subst f1
    subst w1
    subst g3
    rw [Nat.add_zero, if_neg c0, if_neg c1, if_neg c2, if_pos c3]
    refine hm_bd (mx_deedOf hM.2.1 e (by omega) (j := 3) (by decide) (by decide)) (fun f1 w1 r1 g1 => ?_)
    obtain ⟨g1, g2, g3⟩ := g1
    subst f1
    subst w1
    subst g3
    refine hm_bd (mh_walks hM.1 a1 (by omega) d1 (by omega)) (fun f2 w2 u2 B1 => ?_)
    have D1 : gb_DE R t σ s f f2 := DE_go hP hR (by omega) (by omega) hz A1 B1 (by rw [if_pos ea]) (Or.inr ⟨ns (by rw [c3]; decide), by rw [if_pos rfl, mk_E hP (by omega)], by rw [if_pos rfl]; exact upd_0⟩)
    rw [gi_tn b1]
    refine hm_ck (fun _ _ => hm_lt (fun f3 e3 => ?_))
    have mf : gb_mfr f f3 := by
      rw [e3]
      exact mfr_t D1.2.2.1 (mfr_u (by decide))
    refine hm_bd (mx_deedOf (PM_k hM mf).2.1 e (by omega) (j := 3) (by decide) (by decide)) (fun f1 w1 r1 g1 => ?_)
    obtain ⟨g1, g2, g3⟩ := g1
    subst f1
    subst w1
    subst g3
    refine hm_ck (fun _ _ => hm_lt (fun f4 e5 => hm_some ?_))
    subst e5
    subst e4
    subst e3
    subst e2
    refine ⟨PR_la (PR_at D1.1 (by unfold gb_iv; decide)), pfr_t hs2 (pfr_u (by decide)), mfr_t mf (mfr_u (by decide)), ?_⟩
    rw [gb_un (by decide), gb_un (by decide)]
    exact D1.2.2.2
  refine hc_if (fun c4 => ?_) (fun c4 => ?_)
  · have cc := (can_4 c4).mp hc
    have ia : gb_i0 (NR (1 + 4 * k + 1)) (R 1) := cc.elim (fun z => z.1) (fun z => z.1)
    obtain ⟨a1, a2⟩ := in_G ia
    rw [gi_tn a1]
    refine hc_ck (fun _ _ => hc_lt (fun s1 e1 => hc_lt (fun s2 e2 => hc_some ?_)))
    intro w
    unfold ms_does
    refine hm_bd (mx_deedOf hM.2.1 e (by omega) (j := 1) (by decide) (by decide)) (fun f1 w1 r1 g1 => ?_)
    obtain ⟨g1, g2, g3⟩ := g1
    subst f1
    subst w1
    subst g3
    refine hm_bd (mx_deedOf hM.2.1 e (by omega) (j := 2) (by decide) (by decide)) (fun f1 w1 r1 g1 => ?_)
    obtain ⟨g1, g2, g3⟩ := g1
    subst f1
    subst w1
    subst g3
    refine hm_bd (mx_deedOf hM.2.1 e (by omega) (j := 0) (by decide) (by decide)) (fun f1 w1 r1 g1 => ?_)
    obtain ⟨g1, g2, g3⟩ := g1
    subst f1
    subst w1
    subst g3
    rw [Nat.add_zero, if_neg c0, if_neg c1, if_neg c2, if_neg c3, if_pos c4]
    rw [gi_tn a1]
    refine hm_ck (fun _ _ => hm_lt (fun f1 d1 => hm_ck (fun _ _ => hm_lt (fun f2 d2 => hm_some ?_))))
    have i2 := rN_d (i := 2) hN hk2 (by decide)
    have E2 : s2 = gb_su (gb_su σ 113 (upd (σ.1 113) (NR (1 + 4 * k + 1)).toInt.toNat (NR (1 + 4 * k + 2)))) 109 (upd (σ.1 109) 9 ((σ.1 109 9) ||| ((1 : Int32) <<< ((NR (1 + 4 * k + 1)) &&& 31)))) := by
      rw [e2, e1, gb_sun (by decide)]
    have F2 : f2 = gb_u (gb_u f 5 (upd (f 5) (NR (1 + 4 * k + 1)).toInt.toNat (NR (1 + 4 * k + 2)))) 8 (upd (f 8) (NR (1 + 4 * k + 1)).toInt.toNat (vp_nar .boolean 1)) := by
      rw [d2, d1, gb_un (by decide)]
    rw [E2, F2]
    refine ⟨PR_bo hP hR i2 a1 (by omega), pfr_t (pfr_u (by decide)) (pfr_u (by decide)), mfr_t (mfr_u (by decide)) (mfr_u (by decide)), ?_⟩
    rw [gb_un (by decide), gb_un (by decide)]
  refine hc_if (fun c5 => ?_) (fun c5 => ?_)
  · have cc := (can_5 c5).mp hc
    refine hc_cd (r_rain n σ f 0 0 h hM hP (by decide) (by decide)) (fun s u H => hc_some ?_)
    intro w
    unfold ms_does
    refine hm_bd (mx_deedOf hM.2.1 e (by omega) (j := 1) (by decide) (by decide)) (fun f1 w1 r1 g1 => ?_)
    obtain ⟨g1, g2, g3⟩ := g1
    subst f1
    subst w1
    subst g3
    refine hm_bd (mx_deedOf hM.2.1 e (by omega) (j := 2) (by decide) (by decide)) (fun f1 w1 r1 g1 => ?_)
    obtain ⟨g1, g2, g3⟩ := g1
    subst f1
    subst w1
    subst g3
    refine hm_bd (mx_deedOf hM.2.1 e (by omega) (j := 0) (by decide) (by decide)) (fun f1 w1 r1 g1 => ?_)
    obtain ⟨g1, g2, g3⟩ := g1
    subst f1
    subst w1
    subst g3
    rw [Nat.add_zero, if_neg c0, if_neg c1, if_neg c2, if_neg c3, if_neg c4, if_pos c5]
    exact hm_bd (H n w) (fun f2 w2 u2 k2 => hm_some k2)
  refine hc_if (fun c6 => ?_) (fun c6 => ?_)
  · have cc := (can_6 c6).mp hc
    refine hc_lt (fun s e2 => hc_some ?_)
    intro w
    unfold ms_does
    refine hm_bd (mx_deedOf hM.2.1 e (by omega) (j := 1) (by decide) (by decide)) (fun f1 w1 r1 g1 => ?_)
    obtain ⟨g1, g2, g3⟩ := g1
    subst f1
    subst w1
    subst g3
    refine hm_bd (mx_deedOf hM.2.1 e (by omega) (j := 2) (by decide) (by decide)) (fun f1 w1 r1 g1 => ?_)
    obtain ⟨g1, g2, g3⟩ := g1
    subst f1
    subst w1
    subst g3
    refine hm_bd (mx_deedOf hM.2.1 e (by omega) (j := 0) (by decide) (by decide)) (fun f1 w1 r1 g1 => ?_)
    obtain ⟨g1, g2, g3⟩ := g1
    subst f1
    subst w1
    subst g3
    rw [Nat.add_zero, if_neg c0, if_neg c1, if_neg c2, if_neg c3, if_neg c4, if_neg c5, if_pos c6]
    refine hm_lt (fun f2 d2 => hm_some ?_)
    subst e2
    subst d2
    refine ⟨PR_fr hP, pfr_u (by decide), mfr_0 (by decide), ?_⟩
    rw [gb_us, pk_un (by decide)]
  refine hc_if (fun c7 => ?_) (fun c7 => ?_)
  · have cc := (can_7 c7).mp hc
    refine hc_lt (fun s e2 => hc_some ?_)
    intro w
    unfold ms_does
    refine hm_bd (mx_deedOf hM.2.1 e (by omega) (j := 1) (by decide) (by decide)) (fun f1 w1 r1 g1 => ?_)
    obtain ⟨g1, g2, g3⟩ := g1
    subst f1
    subst w1
    subst g3
    refine hm_bd (mx_deedOf hM.2.1 e (by omega) (j := 2) (by decide) (by decide)) (fun f1 w1 r1 g1 => ?_)
    obtain ⟨g1, g2, g3⟩ := g1
    subst f1
    subst w1
    subst g3
    refine hm_bd (mx_deedOf hM.2.1 e (by omega) (j := 0) (by decide) (by decide)) (fun f1 w1 r1 g1 => ?_)
    obtain ⟨g1, g2, g3⟩ := g1
    subst f1
    subst w1
    subst g3
    rw [Nat.add_zero, if_neg c0, if_neg c1, if_neg c2, if_neg c3, if_neg c4, if_neg c5, if_neg c6, if_pos c7]
    refine hm_lt (fun f2 d2 => hm_some ?_)
    subst e2
    subst d2
    refine ⟨PR_fr hP, pfr_u (by decide), mfr_0 (by decide), ?_⟩
    rw [gb_us, pk_un (by decide)]
  refine hc_if (fun c8 => ?_) (fun c8 => ?_)
  · have cc := (can_8 c8).mp hc
    obtain ⟨ia, ne⟩ := cc
    obtain ⟨a1, a2⟩ := in_P ia
    have fb := fox_b f (NR (1 + 4 * k + 1)).toInt.toNat (fun g hg => (hP.2.2.2.1 g _ hg (by omega)).2) (gb_nG R) (by omega)
    rcases fb with fb | fb
    · exact absurd fb.1 ne
    refine hc_cd (ch_goer h hR hP a1 (by omega)) (fun s r g => ?_)
    obtain ⟨g1, g2⟩ := g
    subst s
    have er : r.toInt = ((gb_fox f (NR (1 + 4 * k + 1)).toInt.toNat (gb_nG R)).1.toNat : Int) := by
      rw [g2]
      omega
    refine hc_cd (ch_eat h er (by omega)) (fun s u e2 => hc_some ?_)
    intro w
    unfold ms_does
    refine hm_bd (mx_deedOf hM.2.1 e (by omega) (j := 1) (by decide) (by decide)) (fun f1 w1 r1 g1 => ?_)
    obtain ⟨g1, g2, g3⟩ := g1
    subst f1
    subst w1
    subst g3
    refine hm_bd (mx_deedOf hM.2.1 e (by omega) (j := 2) (by decide) (by decide)) (fun f1 w1 r1 g1 => ?_)
    obtain ⟨g1, g2, g3⟩ := g1
    subst f1
    subst w1
    subst g3
    refine hm_bd (mx_deedOf hM.2.1 e (by omega) (j := 0) (by decide) (by decide)) (fun f1 w1 r1 g1 => ?_)
    obtain ⟨g1, g2, g3⟩ := g1
    subst f1
    subst w1
    subst g3
    rw [Nat.add_zero, if_neg c0, if_neg c1, if_neg c2, if_neg c3, if_neg c4, if_neg c5, if_neg c6, if_neg c7]
    refine hm_bd (mh_foxed hM.1 (fun g hg => (hP.2.2.2.1 g _ hg (by omega)).2) a1 (by omega)) (fun f1 w1 r1 k1 => ?_)
    obtain ⟨q1, q2, q3⟩ := k1
    subst f1
    subst w1
    have er1 : r1.toInt = ((gb_fox f (NR (1 + 4 * k + 1)).toInt.toNat (gb_nG R)).1.toNat : Int) := by
      rw [q3]
      omega
    rw [gi_tn er1]
    refine hm_ck (fun _ _ => hm_lt (fun f2 d2 => hm_some ?_))
    subst e2
    subst d2
    refine ⟨PR_at hP (by unfold gb_iv; decide), pfr_u (by decide), mfr_u (by decide), ?_⟩
    rw [gb_un (by decide)]
  exfalso
  have i0 := rN_d (i := 0) hN hk2 (by decide)
  rw [if_pos rfl, Nat.add_zero] at i0
  have i1 := i0.1
  have i2 := i0.2
  have nk : ∀ (v : Int32) (z : Int), v.toInt = z → ¬ NR (1 + 4 * k) = v → (NR (1 + 4 * k)).toInt ≠ z := fun v z ez q y => q (gi_eq y ez)
  have n0 := nk 0 0 (by decide) c0
  have n1 := nk 1 1 (by decide) c1
  have n2 := nk 2 2 (by decide) c2
  have n3 := nk 3 3 (by decide) c3
  have n4 := nk 4 4 (by decide) c4
  have n5 := nk 5 5 (by decide) c5
  have n6 := nk 6 6 (by decide) c6
  have n7 := nk 7 7 (by decide) c7
  have n8 := nk 8 8 (by decide) c8
  change (0 : Int) ≤ (NR (1 + 4 * k)).toInt at i1
  change (NR (1 + 4 * k)).toInt ≤ 8 at i2
  omega
