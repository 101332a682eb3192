/-! THE TALLIES STAY SMALL -/
def gb_tr (b : Int) (f : gb_F) : Prop := ∀ p, p < 5 → gb_iv (-b) b (f 10 p) ∧ gb_iv (-b) b (f 11 p)
def gb_nb (b : Int) : Int := b + b / 10 + 501
theorem tr_w {b : Int} {f f2 : gb_F} (h0 : 0 ≤ b) (h : gb_tr b f) (e1 : f2 10 = f 10) (e2 : f2 11 = f 11) : gb_tr (gb_nb b) f2 := fun p hp => by
  rw [e1, e2]
  unfold gb_nb
  exact ⟨gb_iw (h p hp).1 ⟨by omega, by omega⟩, gb_iw (h p hp).2 ⟨by omega, by omega⟩⟩
theorem mk_b {toe mi bo li fr : Int32} (h1 : gb_iv 0 8 toe) (h2 : gb_iv 0 20 mi) (h3 : gb_iv (-1) 60 bo) : gb_iv (-500) 500 (gb_mk toe mi bo li fr) := by
  have it : gb_iv (-1) 20 (if bo < mi then bo else mi) := by
    by_cases c : bo < mi
    · rw [if_pos c]
      have := gi_lt c
      exact ⟨h3.1, by have := h2.2; omega⟩
    · rw [if_neg c]
      exact gb_iw h2 (by decide)
  have im : (if bo < mi then bo else mi).toInt ≤ mi.toInt := by
    by_cases c : bo < mi
    · rw [if_pos c]
      have := gi_lt c
      omega
    · rw [if_neg c]
      exact Int.le_refl _
  unfold gb_mk
  generalize (if bo < mi then bo else mi) = tt at it im ⊢
  have c2 : (2 : Int32).toInt = 2 := by decide
  have dbl : ∀ (x : Int32) (a b : Int), gb_iv a b x → -100000 ≤ a → b ≤ 100000 → gb_iv (2 * a) (2 * b) (2 * x) := fun x a b h ha hb => by
    have h1 := h.1
    have h2 := h.2
    unfold gb_iv
    rw [gb_tmul (by rw [c2]; omega) (by rw [c2]; omega), c2]
    omega
  have i1 : gb_iv (-2) 40 (if fr = 0 then 2 * tt else 0) := gb_iite (dbl tt (-1) 20 it (by decide) (by decide)) (by unfold gb_iv; decide)
  have i2 : gb_iv 0 21 (mi - tt) := by
    have q1 := it.1
    have q2 := it.2
    have q3 := h2.1
    have q4 := h2.2
    unfold gb_iv
    rw [gb_tsub (by omega) (by omega)]
    omega
  have i3 : gb_iv 0 168 (toe * (mi - tt)) := gb_imul h1 i2 (by decide)
  have i4 := gb_iadd (lo := -2) (hi := 208) i1 i3 (by decide)
  exact gb_iite (gb_iw (dbl _ _ _ i4 (by decide) (by decide)) (by decide)) (gb_iw i4 (by decide))
theorem rain_b {x v : Int32} {b : Int} (hx : gb_iv (-b) b x) (hb : 0 ≤ b) (hb2 : b ≤ 100000) (hv : gb_iv (-1) 10 v) : gb_iv (-(gb_nb b)) (gb_nb b) (x - x * v / 10) := by
  have x1 := hx.1
  have x2 := hx.2
  have v1 := hv.1
  have v2 := hv.2
  have c10 : (10 : Int32).toInt = 10 := by decide
  have go : ∀ c : Int, v.toInt = c → -1000001 ≤ x.toInt * c → x.toInt * c ≤ 1000001 → (∀ d : Int, (x.toInt * c = 10 * d + (x.toInt * c) % 10 ∧ 0 ≤ (x.toInt * c) % 10 ∧ (x.toInt * c) % 10 < 10 ∧ 0 ≤ x.toInt * c) ∨ (∃ r : Int, -(x.toInt * c) = 10 * (-d) + r ∧ 0 ≤ r ∧ r < 10 ∧ x.toInt * c < 0) → -(gb_nb b) ≤ x.toInt - d ∧ x.toInt - d ≤ gb_nb b) → gb_iv (-(gb_nb b)) (gb_nb b) (x - x * v / 10) := by
    intro c ec m1 m2 H
    have m : (x * v).toInt = x.toInt * c := by rw [gb_tmul (by rw [ec]; omega) (by rw [ec]; omega), ec]
    have d : (x * v / 10).toInt = (x.toInt * c).tdiv 10 := by rw [gb_tdiv (gb_it _) (gb_ic c10) (by decide), m, c10]
    have K := H ((x.toInt * c).tdiv 10) (by
      by_cases s : 0 ≤ x.toInt * c
      · refine Or.inl ⟨?_, by omega, by omega, s⟩
        rw [Int.tdiv_eq_ediv_of_nonneg s]
        omega
      · refine Or.inr ⟨(-(x.toInt * c)) % 10, ?_, by omega, by omega, by omega⟩
        have e : (x.toInt * c).tdiv 10 = -((-(x.toInt * c)).tdiv 10) := by rw [Int.neg_tdiv, Int.neg_neg]
        rw [e, Int.tdiv_eq_ediv_of_nonneg (by omega)]
        omega)
    have k1 := K.1
    have k2 := K.2
    unfold gb_nb at k1 k2 ⊢
    unfold gb_iv
    rw [gb_tsub (by rw [d]; omega) (by rw [d]; omega), d]
    omega
  have cs : v.toInt = -1 ∨ v.toInt = 0 ∨ v.toInt = 1 ∨ v.toInt = 2 ∨ v.toInt = 3 ∨ v.toInt = 4 ∨ v.toInt = 5 ∨ v.toInt = 6 ∨ v.toInt = 7 ∨ v.toInt = 8 ∨ v.toInt = 9 ∨ v.toInt = 10 := by omega
  rcases cs with e | e | e | e | e | e | e | e | e | e | e | e
  all_goals
    refine go _ e (by omega) (by omega) (fun d hd => ?_)
    unfold gb_nb
    rcases hd with ⟨q1, q2, q3, q4⟩ | ⟨r, q1, q2, q3, q4⟩ <;> omega
theorem mh_rains_tr {n m : Nat} {R NR : Nat → Int32} {v1 : Int32} {b : Int} (hb : 0 ≤ b) (hb2 : b ≤ 100000) (hv : gb_iv (-1) 10 v1) : ∀ (mm : Nat) (f : gb_F) (w : Int64) (x : Int32) (k : Nat), gb_PM m R NR f → x.toInt = k → k ≤ 5 → (∀ p, p < 5 → (p < k → gb_iv (-(gb_nb b)) (gb_nb b) (f 10 p) ∧ gb_iv (-(gb_nb b)) (gb_nb b) (f 11 p)) ∧ (k ≤ p → gb_iv (-b) b (f 10 p) ∧ gb_iv (-b) b (f 11 p))) → gb_hm (ms_rains_2 n mm f w v1 x) (fun f2 _ _ => gb_tr (gb_nb b) f2) := by
  intro mm
  induction mm with
  | zero =>
    intros
    exact hm_none
  | succ mm ih =>
    intro f w x k hM e hk H
    have hR := mbx_rB hM.1
    have hp5 := (rB_nP hR).2
    have hpE := (rB_nP hR).1
    have tx := gi_tn e
    rw [ms_rains_2]
    refine hm_bd (mx_paths hM.1) (fun f1 w1 r g => ?_)
    obtain ⟨g1, g2, g3⟩ := g
    subst f1
    subst w1
    subst g3
    refine hm_if (fun c => hm_some (fun p hp => ?_)) (fun c => ?_)
    · by_cases q : p < k
      · exact (H p hp).1 q
      · have := (H p hp).2 (by omega)
        unfold gb_nb
        exact ⟨gb_iw this.1 ⟨by omega, by omega⟩, gb_iw this.2 ⟨by omega, by omega⟩⟩
    · have := gi_nle c
      have hkc : k < 5 := by omega
      rw [tx]
      refine hm_ck (fun _ _ => hm_lt (fun z1 d1 => hm_lt (fun z2 d2 => hm_ck (fun _ _ => hm_lt (fun z3 d3 => hm_lt (fun z4 d4 => hm_ck (fun _ _ => hm_lt (fun z5 d5 => hm_ck (fun _ _ => hm_lt (fun s6 d6 => hm_ck (fun _ _ => hm_lt (fun z7 d7 => hm_ck (fun _ _ => hm_lt (fun s8 d8 => hm_ck (fun _ _ => hm_lt (fun z9 d9 => hm_ck (fun _ _ => hm_lt (fun s11 d11 => hm_lt (fun x3 dx3 => ?_)))))))))))))))))))
      have a10 : s11 10 = upd (f 10) k (f 10 k - f 10 k * v1 / 10) := by rw [d11, gb_un (by decide), d8, gb_un (by decide), d6, gb_us, d5, d2, d1]
      have a11 : s11 11 = upd (f 11) k (f 11 k - f 11 k * v1 / 10) := by rw [d11, gb_un (by decide), d8, gb_us, d7, d6, gb_un (by decide), d4, d3]
      have mf : gb_mfr f s11 := by
        rw [d11, d8, d6]
        exact mfr_t (mfr_t (mfr_u (by decide)) (mfr_u (by decide))) (mfr_u (by decide))
      refine ih s11 w x3 (k + 1) (PM_k hM mf) (gi_1 e (by omega) dx3) (by omega) (fun p hp => ⟨fun q => ?_, fun q => ?_⟩)
      · rw [a10, a11]
        rcases lt_sk q with z | z
        · rw [pk_un (by omega), pk_un (by omega)]
          exact (H p hp).1 z
        · subst z
          rw [pk_us, pk_us]
          have := (H p hp).2 (Nat.le_refl _)
          exact ⟨rain_b this.1 hb hb2 hv, rain_b this.2 hb hb2 hv⟩
      · rw [a10, a11, pk_un (by omega), pk_un (by omega)]
        exact (H p hp).2 (by omega)
theorem tr_walk {f f2 : gb_F} {g p : Nat} {v1 v3 v5 bo mk d10 d11 : Int32} {b : Int} (hb : 0 ≤ b) (hb2 : b ≤ 100000) (B : gb_wkP f f2 g p v1 v3 v5 bo mk d10 d11) (i10 : gb_iv (-500) 500 d10) (i11 : gb_iv (-500) 500 d11) (h : gb_tr b f) : gb_tr (gb_nb b) f2 := by
  obtain ⟨-, -, -, -, -, -, -, -, -, bb⟩ := B
  rcases bb with bb | bb
  · exact tr_w hb h bb.2.2.1 bb.2.2.2
  · intro q hq
    have sm : ∀ (F : Nat → Int32) (d : Int32), gb_iv (-500) 500 d → (∀ x, x < 5 → gb_iv (-b) b (F x)) → p < 5 ∨ ¬ p < 5 → gb_iv (-(gb_nb b)) (gb_nb b) (upd F p (F p + d) q) := by
      intro F d hd hF _
      by_cases c : q = p
      · subst c
        rw [pk_us]
        exact gb_iadd (hF q hq) hd ⟨⟨by unfold gb_nb; omega, by unfold gb_nb; omega⟩, by unfold gb_nb; omega, by unfold gb_nb; omega⟩
      · rw [pk_un c]
        exact gb_iw (hF q hq) ⟨by unfold gb_nb; omega, by unfold gb_nb; omega⟩
    rw [bb.2.2.1, bb.2.2.2]
    exact ⟨sm (f 10) d10 i10 (fun x hx => (h x hx).1) (Classical.em _), sm (f 11) d11 i11 (fun x hx => (h x hx).2) (Classical.em _)⟩
theorem mf_foxed {n m : Nat} {R : Nat → Int32} {f : gb_F} {w : Int64} {v1 : Int32} (h : gb_mbx m R f) : gb_hm (ms_foxed n f w v1) (fun f2 w2 _ => f2 = f ∧ w2 = w) := by
  unfold ms_foxed
  have go : ∀ (mm : Nat) (v2 v3 : Int32), gb_hm (ms_foxed_4 n mm f w v1 v2 v3) (fun f2 w2 _ => f2 = f ∧ w2 = w) := by
    intro mm
    induction mm with
    | zero =>
      intros
      exact hm_none
    | succ mm ih =>
      intro v2 v3
      rw [ms_foxed_4]
      refine hm_bd (mx_geese h) (fun f1 w1 r k => ?_)
      obtain ⟨k1, k2, k3⟩ := k
      subst f1
      subst w1
      refine hm_if (fun _ => hm_some ⟨rfl, rfl⟩) (fun _ => hm_ck (fun _ _ => hm_lt (fun _ _ => hm_if (fun _ => hm_lt (fun _ _ => ih _ _)) (fun _ => hm_ck (fun _ _ => hm_lt (fun _ _ => hm_if (fun _ => hm_lt (fun _ _ => ih _ _)) (fun _ => hm_if (fun _ => hm_lt (fun _ _ => ih _ _)) (fun _ => hm_ck (fun _ _ => hm_lt (fun _ _ => hm_ck (fun _ _ => hm_lt (fun _ _ => hm_if (fun _ => hm_lt (fun _ _ => ih _ _)) (fun _ => hm_lt (fun _ _ => ih _ _))))))))))))))
  exact go n (-1) 0
theorem mh_does_tr {n m k : Nat} {R NR : Nat → Int32} {f : gb_F} {x : Int32} {b : Int} (hM : gb_PM m R NR f) (h5 : ∀ g, g < 8 → gb_iv (-1) 60 (f 5 g)) (e : x.toInt = k) (hk : k < gb_nD NR) (hc : gb_can1 R NR f k) (hb : 0 ≤ b) (hb2 : b ≤ 100000) (ht : gb_tr b f) (w : Int64) : gb_hm (ms_does n f w x) (fun f2 _ _ => gb_tr (gb_nb b) f2) := by
  have hR := mbx_rB hM.1
  have hN := hM.2.2
  have hk2 : k < 24 := by
    have := (rN_0 hN).2
    omega
  have hp5 := (rB_nP hR).2
  have hg8 := (rB_nG hR).2
  have z5 : gb_iv (-500) 500 (0 : Int32) := by unfold gb_iv; decide
  have toe8 : ∀ g, g < 8 → gb_iv 0 8 (gb_toe R g) := fun g hg => by
    have t0 := rB_to (i := 0) hR hg (by decide)
    have t1 := rB_to (i := 1) hR hg (by decide)
    rw [Nat.add_zero] at t0
    exact gb_iadd t0 t1 (by decide)
  have mb : ∀ g p, g < 8 → p < 5 → gb_iv (-500) 500 (gb_mk (gb_toe R g) (R (3 + 3 * p)) (f 5 g) (R (18 + 5 * g + 3)) (f 0 22)) := fun g p hg hp => mk_b (toe8 g hg) (rB_mi hR hp) (h5 g hg)
  unfold ms_does
  refine hm_bd (mx_deedOf hM.2.1 e (by omega) (j := 1) (by decide) (by decide)) (fun f1 w1 r1 g1 => ?_)
  obtain ⟨g1, g2, g3⟩ := g1
  subst f1
  subst w1
  subst g3
  refine hm_bd (mx_deedOf hM.2.1 e (by omega) (j := 2) (by decide) (by decide)) (fun f1 w1 r1 g1 => ?_)
  obtain ⟨g1, g2, g3⟩ := g1
  subst f1
  subst w1
  subst g3
  refine hm_bd (mx_deedOf hM.2.1 e (by omega) (j := 0) (by decide) (by decide)) (fun f1 w1 r1 g1 => ?_)
  obtain ⟨g1, g2, g3⟩ := g1
  subst f1
  subst w1
  subst g3
  rw [Nat.add_zero]
  refine hm_if (fun c0 => ?_) (fun c0 => ?_)
  · have cc := (can_0 c0).mp hc
    obtain ⟨a1, a2⟩ := in_G cc.1.1
    obtain ⟨b1, b2⟩ := in_P cc.2
    exact hm_bd (mh_walks hM.1 a1 (by omega) b1 (by omega)) (fun f2 w2 u2 B1 => hm_some (tr_walk hb hb2 B1 (gb_iite (mb _ _ (by omega) (by omega)) z5) (gb_iite z5 (mb _ _ (by omega) (by omega))) ht))
  refine hm_if (fun c1 => ?_) (fun c1 => ?_)
  · have cc := (can_1 c1).mp hc
    obtain ⟨a1, a2⟩ := in_G cc.1.1
    obtain ⟨b1, b2⟩ := in_P cc.2
    exact hm_bd (mh_walks hM.1 a1 (by omega) b1 (by omega)) (fun f2 w2 u2 B1 => hm_some (tr_walk hb hb2 B1 (gb_iite (mb _ _ (by omega) (by omega)) z5) (gb_iite z5 (mb _ _ (by omega) (by omega))) ht))
  refine hm_if (fun c2 => ?_) (fun c2 => ?_)
  · have cc := (can_2 c2).mp hc
    obtain ⟨a1, a2⟩ := in_G cc.1.1
    obtain ⟨b1, b2⟩ := in_P cc.2
    exact hm_bd (mh_walks hM.1 a1 (by omega) b1 (by omega)) (fun f2 w2 u2 B1 => hm_some (tr_walk hb hb2 B1 (gb_iite (mb _ _ (by omega) (by omega)) z5) (gb_iite z5 (mb _ _ (by omega) (by omega))) ht))
  refine hm_if (fun c3 => ?_) (fun c3 => ?_)
  · have cc := (can_3 c3).mp hc
    obtain ⟨a1, a2⟩ := in_G cc.1.1
    obtain ⟨b1, b2⟩ := in_P cc.2.2
    refine hm_bd (mx_deedOf hM.2.1 e (by omega) (j := 3) (by decide) (by decide)) (fun f1 w1 r1 g1 => ?_)
    obtain ⟨g1, g2, g3⟩ := g1
    subst f1
    subst w1
    subst g3
    refine hm_bd (mh_walks hM.1 a1 (by omega) b1 (by omega)) (fun f2 w2 u2 B1 => ?_)
    have T := tr_walk hb hb2 B1 (gb_iite (mb _ _ (by omega) (by omega)) z5) (gb_iite z5 (mb _ _ (by omega) (by omega))) ht
    have mf : gb_mfr f f2 := ⟨B1.2.1, by rw [B1.1], by rw [B1.1], by rw [B1.1], B1.2.2.1⟩
    refine hm_ck (fun _ _ => hm_lt (fun f3 e3 => ?_))
    have mf3 : gb_mfr f f3 := by
      rw [e3]
      exact mfr_t mf (mfr_u (by decide))
    refine hm_bd (mx_deedOf (PM_k hM mf3).2.1 e (by omega) (j := 3) (by decide) (by decide)) (fun f1 w1 r1 g1 => ?_)
    obtain ⟨g1, g2, g3⟩ := g1
    subst f1
    subst w1
    subst g3
    refine hm_ck (fun _ _ => hm_lt (fun f4 e5 => hm_some (fun p hp => ?_)))
    rw [e5, gb_un (by decide), gb_un (by decide), e3, gb_un (by decide), gb_un (by decide)]
    exact T p hp
  refine hm_if (fun c4 => ?_) (fun c4 => ?_)
  · refine hm_ck (fun _ _ => hm_lt (fun f1 d1 => hm_ck (fun _ _ => hm_lt (fun f2 d2 => hm_some (tr_w hb ht ?_ ?_)))))
    · rw [d2, gb_un (by decide), d1, gb_un (by decide)]
    · rw [d2, gb_un (by decide), d1, gb_un (by decide)]
  refine hm_if (fun c5 => ?_) (fun c5 => ?_)
  · have i1 := rN_d (i := 1) hN hk2 (by decide)
    exact hm_bd (mh_rains_tr hb hb2 i1 n f w 0 0 hM (by decide) (by decide) (fun p hp => ⟨fun z => absurd z (by omega), fun _ => ht p hp⟩)) (fun f2 w2 u2 k2 => hm_some k2)
  refine hm_if (fun c6 => ?_) (fun c6 => ?_)
  · refine hm_lt (fun f2 d2 => hm_some (tr_w hb ht ?_ ?_))
    · rw [d2, gb_un (by decide)]
    · rw [d2, gb_un (by decide)]
  refine hm_if (fun c7 => ?_) (fun c7 => ?_)
  · refine hm_lt (fun f2 d2 => hm_some (tr_w hb ht ?_ ?_))
    · rw [d2, gb_un (by decide)]
    · rw [d2, gb_un (by decide)]
  refine hm_bd (mf_foxed hM.1) (fun f1 w1 r1 k1 => ?_)
  obtain ⟨q1, q2⟩ := k1
  subst f1
  subst w1
  refine hm_ck (fun _ _ => hm_lt (fun f2 d2 => hm_some (tr_w hb ht ?_ ?_)))
  · rw [d2, gb_un (by decide)]
  · rw [d2, gb_un (by decide)]
