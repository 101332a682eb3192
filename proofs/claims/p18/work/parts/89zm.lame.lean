/-! LAME -/
theorem mk_1 {toe mi bo fr : Int32} : gb_mk toe mi bo 1 fr = 2 * gb_mk toe mi bo 0 fr := by
  unfold gb_mk
  rw [if_pos rfl, if_neg (show ¬ (0 : Int32) = 1 by decide)]
theorem mk_p {toe mi bo fr : Int32} (h1 : gb_iv 0 8 toe) (h2 : gb_iv 0 20 mi) (h3 : gb_iv 0 60 bo) : gb_iv 0 208 (gb_mk toe mi bo 0 fr) := by
  have it : gb_iv 0 20 (if bo < mi then bo else mi) := by
    by_cases c : bo < mi
    · rw [if_pos c]
      have := gi_lt c
      exact ⟨h3.1, by have := h2.2; omega⟩
    · rw [if_neg c]
      exact h2
  have im : (if bo < mi then bo else mi).toInt ≤ mi.toInt := by
    by_cases c : bo < mi
    · rw [if_pos c]
      have := gi_lt c
      omega
    · rw [if_neg c]
      exact Int.le_refl _
  unfold gb_mk
  rw [if_neg (show ¬ (0 : Int32) = 1 by decide)]
  generalize (if bo < mi then bo else mi) = tt at it im ⊢
  have i1 : gb_iv 0 40 (if fr = 0 then 2 * tt else 0) := gb_iite (gb_imul (a := 2) (b := 2) (by unfold gb_iv; decide) it (by decide)) (by unfold gb_iv; decide)
  have i2 : gb_iv 0 20 (mi - tt) := by
    have q1 := it.1
    have q2 := it.2
    have q3 := h2.1
    have q4 := h2.2
    unfold gb_iv
    rw [gb_tsub (by omega) (by omega)]
    omega
  have i3 : gb_iv 0 160 (toe * (mi - tt)) := gb_imul h1 i2 (by decide)
  exact gb_iadd i1 i3 (by decide)
theorem toe_8 {R : Nat → Int32} {g : Nat} (hR : gb_rB R) (hg : g < 8) : gb_iv 0 8 (gb_toe R g) := by
  have t0 := rB_to (i := 0) hR hg (by decide)
  have t1 := rB_to (i := 1) hR hg (by decide)
  rw [Nat.add_zero] at t0
  exact gb_iadd t0 t1 (by decide)
def gb_fb (R : Nat → Int32) (g p : Nat) : Int32 := gb_mk (gb_toe R g) (R (3 + 3 * p)) (R (18 + 5 * g + 2)) 0 0
theorem fb_i {R : Nat → Int32} {g p : Nat} (hR : gb_rB R) (hg : g < 8) (hp : p < 5) : gb_iv 0 208 (gb_fb R g p) := mk_p (toe_8 hR hg) (rB_mi hR hp) (rB_bo hR hg)
theorem fm_E {R : Nat → Int32} {g p : Nat} (hR : gb_rB R) (hg : g < 8) : gb_fm R g p = if R (18 + 5 * g + 3) = 1 then 2 * gb_fb R g p else gb_fb R g p := by
  unfold gb_fm gb_fb
  rcases gb_01 (rB_li hR hg) with e | e
  · rw [e, if_neg (by decide)]
  · rw [e, if_pos rfl, mk_1]
theorem fm_i {R : Nat → Int32} {g p : Nat} (hR : gb_rB R) (hg : g < 8) (hp : p < 5) : gb_iv 0 416 (gb_fm R g p) := by
  rw [fm_E hR hg]
  exact gb_iite (gb_imul (a := 2) (b := 2) (by unfold gb_iv; decide) (fb_i hR hg hp) (by decide)) (gb_iw (fb_i hR hg hp) (by decide))
theorem half_E {x : Int32} (h : gb_iv 0 208 x) : 2 * x / 2 = x := by
  have h1 := h.1
  have h2 := h.2
  have c2 : (2 : Int32).toInt = 2 := by decide
  have m : (2 * x).toInt = 2 * x.toInt := by rw [gb_tmul (by rw [c2]; omega) (by rw [c2]; omega), c2]
  apply gb_ieq
  rw [gb_tdiv (gb_it _) (gb_ic c2) (by decide), m, c2, Int.tdiv_eq_ediv_of_nonneg (by omega)]
  omega
def gb_ls1 (R : Nat → Int32) (p : Nat) : Nat → Int32
  | 0 => 0
  | g + 1 => gb_ls1 R p g + gb_fm R g p
def gb_ls0 (R : Nat → Int32) (p : Nat) : Nat → Int32
  | 0 => 0
  | g + 1 => gb_ls0 R p g + gb_fb R g p
def gb_lm (R : Nat → Int32) (p : Nat) : Int32 := gb_py R p (gb_ls1 R p (gb_nG R)) - gb_py R p (gb_ls0 R p (gb_nG R))
theorem ch_lame64 {n k0 p : Nat} {σ : gb_S} {R : Nat → Int32} {v2 : Int32} (hb : gb_cbx k0 R σ) (hR : gb_rB R) (e2 : v2.toInt = p) (hp : p < gb_nP R) : ∀ (mm : Nat) (a b x : Int32) (k : Nat), x.toInt = k → k ≤ gb_nG R → a = gb_ls1 R p k → b = gb_ls0 R p k → gb_hc (cs_Face_lame_64 n mm σ v2 k0 a b x) (fun _ r => r = gb_lm R p) := by
  have h8 := (rB_nG hR).2
  have gE := (rB_nG hR).1
  have h5 := (rB_nP hR).2
  intro mm
  induction mm with
  | zero =>
    intros
    exact hc_none
  | succ mm ih =>
    intro a b x k e hk ea eb
    rw [cs_Face_lame_64]
    refine hc_kk (fun _ => hc_cd ch_geese (fun s r g => ?_))
    obtain ⟨g1, g2⟩ := g
    subst s
    have eR : σ.1 (k0 + 1) 1 = R 1 := (hb.2.1 rfl).1
    rw [eR] at g2
    subst g2
    refine hc_if (fun c => ?_) (fun c => ?_)
    · have := gi_le c
      refine hc_cd (ch_payOf hb hR e2 hp) (fun s r g => ?_)
      obtain ⟨g1, g2⟩ := g
      subst s
      refine hc_cd (ch_payOf hb hR e2 hp) (fun s r2 g => hc_some ?_)
      unfold gb_lm
      rw [g2, g.2, ea, eb, show k = gb_nG R by omega]
    · have c' := gi_nle c
      have hkc : k < gb_nG R := by omega
      refine hc_cd (ch_marksFirst hb hR e hkc e2 hp) (fun s r g => ?_)
      obtain ⟨g1, g2⟩ := g
      subst s
      subst g2
      refine hc_lt (fun a2 ea2 => hc_cd (ch_limps hb hR e hkc) (fun s r g => ?_))
      obtain ⟨g1, g2⟩ := g
      subst s
      have s1 : gb_ls1 R p (k + 1) = gb_ls1 R p k + gb_fm R k p := rfl
      have s0 : gb_ls0 R p (k + 1) = gb_ls0 R p k + gb_fb R k p := rfl
      refine hc_if (fun d => hc_lt (fun b2 eb2 => hc_lt (fun x2 ex2 => ih a2 b2 x2 (k + 1) (gi_1 e (by omega) ex2) (by omega) (by rw [ea2, ea, s1]) ?_))) (fun d => hc_lt (fun y ey => hc_lt (fun b2 eb2 => hc_lt (fun x2 ex2 => ih a2 b2 x2 (k + 1) (gi_1 e (by omega) ex2) (by omega) (by rw [ea2, ea, s1]) ?_))))
      · rcases g2 with q | q
        · rw [d] at q
          exact absurd q.1 (by decide)
        · rw [eb2, eb, s0, fm_E hR (by omega), if_neg q.2]
      · rcases g2 with q | q
        · rw [eb2, eb, s0, ey, fm_E hR (by omega), if_pos q.2, half_E (fb_i hR (by omega) (by omega))]
        · exact absurd q.1 d
theorem mh_lamePay {n m p : Nat} {f : gb_F} {w : Int64} {R : Nat → Int32} {x y : Int32} (h : gb_mbx m R f) (e : x.toInt = p) (hp : p < 5) : gb_hm (ms_lamePay n f w x y) (fun f2 w2 r => f2 = f ∧ w2 = w ∧ r = gb_py R p (if y = 0 then gb_ls0 R p (gb_nG R) else gb_ls1 R p (gb_nG R))) := by
  have hR := mbx_rB h
  have h8 := (rB_nG hR).2
  have gE := (rB_nG hR).1
  have go : ∀ (mm : Nat) (a v : Int32) (k : Nat), v.toInt = k → k ≤ gb_nG R → a = (if y = 0 then gb_ls0 R p k else gb_ls1 R p k) → gb_hm (ms_lamePay_5 n mm f w x y a v) (fun f2 w2 r => f2 = f ∧ w2 = w ∧ r = gb_py R p (if y = 0 then gb_ls0 R p (gb_nG R) else gb_ls1 R p (gb_nG R))) := by
    intro mm
    induction mm with
    | zero =>
      intros
      exact hm_none
    | succ mm ih =>
      intro a v k ev hk ea
      rw [ms_lamePay_5]
      refine hm_bd (mx_geese h) (fun f1 w1 r g => ?_)
      obtain ⟨g1, g2, g3⟩ := g
      subst f1
      subst w1
      subst g3
      refine hm_if (fun c => ?_) (fun c => ?_)
      · have := gi_le c
        refine hm_bd (mx_ofPath h e (by omega) (j := 1) (by decide) (by decide)) (fun f1 w1 r g => ?_)
        obtain ⟨g1, g2, g3⟩ := g
        subst f1
        subst w1
        refine hm_bd (mx_padded h e (by omega)) (fun f1 w1 r2 g => hm_some ⟨g.1, g.2.1, ?_⟩)
        rw [g.2.2, g3, ea, show k = gb_nG R by omega]
        rfl
      · have c' := gi_nle c
        refine hm_bd (mx_ofPath h e (by omega) (j := 0) (by decide) (by decide)) (fun f1 w1 r g => ?_)
        obtain ⟨g1, g2, g3⟩ := g
        subst f1
        subst w1
        rw [Nat.add_zero] at g3
        subst g3
        refine hm_bd (mx_ofGoose h ev (by omega) (j := 2) (by decide) (by decide)) (fun f1 w1 r g => ?_)
        obtain ⟨g1, g2, g3⟩ := g
        subst f1
        subst w1
        subst g3
        refine hm_if (fun d => hm_bd (mx_left h ev (by omega) (by unfold gb_iv; decide)) (fun f1 w1 r g => ?_)) (fun d => hm_bd (mx_ofGoose h ev (by omega) (j := 3) (by decide) (by decide)) (fun f1 w1 r g => ?_))
        · obtain ⟨g1, g2, g3⟩ := g
          subst f1
          subst w1
          refine hm_lt (fun a2 ea2 => hm_lt (fun x2 ex2 => ih a2 x2 (k + 1) (gi_1 ev (by omega) ex2) (by omega) ?_))
          rw [if_pos d] at ea ⊢
          rw [ea2, ea, g3]
          rfl
        · obtain ⟨g1, g2, g3⟩ := g
          subst f1
          subst w1
          subst g3
          refine hm_bd (mx_left h ev (by omega) (rB_li hR (by omega))) (fun f1 w1 r g => ?_)
          obtain ⟨g1, g2, g3⟩ := g
          subst f1
          subst w1
          refine hm_lt (fun a2 ea2 => hm_lt (fun x2 ex2 => ih a2 x2 (k + 1) (gi_1 ev (by omega) ex2) (by omega) ?_))
          rw [if_neg d] at ea ⊢
          rw [ea2, ea, g3]
          rfl
  unfold ms_lamePay
  refine go n 0 0 0 (by decide) (Nat.zero_le _) ?_
  by_cases c : y = 0
  · rw [if_pos c]
    rfl
  · rw [if_neg c]
    rfl
/-! the best path of one -/
theorem py_i {R : Nat → Int32} {p : Nat} {x : Int32} (hR : gb_rB R) (hp : p < 5) (h : gb_iv 0 416 x) : gb_iv 0 10000 (gb_py R p x) := by
  have i1 : gb_iv 0 3744 (x * R (3 + 3 * p + 2)) := gb_imul h (rB_pa hR hp) (by decide)
  have i2 : gb_iv 0 374 (x * R (3 + 3 * p + 2) / 10) := gb_idivc i1 (v := 10) (by decide) (by decide)
  have i3 : gb_iv 0 790 (gb_pd R p x) := gb_iadd h i2 (by decide)
  exact gb_imul (rB_ra hR hp) i3 (by decide)
def gb_bpv (R : Nat → Int32) (g : Nat) : Nat → Int × Int32
  | 0 => (-1, -1)
  | k + 1 => if gb_py R k (gb_fm R g k) ≤ (gb_bpv R g k).2 then gb_bpv R g k else ((k : Int), gb_py R k (gb_fm R g k))
theorem bpv_b {R : Nat → Int32} {g : Nat} : ∀ k, ((gb_bpv R g k).1 = -1 ∧ (gb_bpv R g k).2 = -1) ∨ 0 ≤ (gb_bpv R g k).1 := by
  intro k
  induction k with
  | zero => exact Or.inl ⟨rfl, rfl⟩
  | succ k ih =>
    have e : gb_bpv R g (k + 1) = if gb_py R k (gb_fm R g k) ≤ (gb_bpv R g k).2 then gb_bpv R g k else ((k : Int), gb_py R k (gb_fm R g k)) := rfl
    by_cases c : gb_py R k (gb_fm R g k) ≤ (gb_bpv R g k).2
    · rw [if_pos c] at e
      rw [e]
      exact ih
    · rw [if_neg c] at e
      rw [e]
      exact Or.inr (Int.natCast_nonneg k)
theorem ch_bestPath {n k0 g : Nat} {σ : gb_S} {R : Nat → Int32} {v1 : Int32} (hb : gb_cbx k0 R σ) (hR : gb_rB R) (e1 : v1.toInt = g) (hg : g < gb_nG R) : gb_hc (cs_Face_bestPath_B n σ k0 v1) (fun _ r => r.toInt = (gb_bpv R g (gb_nP R)).1) := by
  have h8 := (rB_nG hR).2
  have h5 := (rB_nP hR).2
  have pE := (rB_nP hR).1
  have go : ∀ (mm : Nat) (a b x : Int32) (k : Nat), x.toInt = k → k ≤ gb_nP R → a = (gb_bpv R g k).2 → b.toInt = (gb_bpv R g k).1 → gb_hc (cs_Face_bestPath_B_7 n mm σ k0 v1 a b x) (fun _ r => r.toInt = (gb_bpv R g (gb_nP R)).1) := by
    intro mm
    induction mm with
    | zero =>
      intros
      exact hc_none
    | succ mm ih =>
      intro a b x k e hk ea eb
      rw [cs_Face_bestPath_B_7]
      refine hc_kk (fun _ => hc_cd ch_paths (fun s r q => ?_))
      obtain ⟨g1, g2⟩ := q
      subst s
      have eR : σ.1 (k0 + 1) 0 = R 0 := hb.1
      rw [eR] at g2
      subst g2
      refine hc_if (fun c => hc_some ?_) (fun c => ?_)
      · have := gi_le c
        rw [eb, show k = gb_nP R by omega]
      · have c' := gi_nle c
        have hkc : k < gb_nP R := by omega
        have st : gb_bpv R g (k + 1) = if gb_py R k (gb_fm R g k) ≤ (gb_bpv R g k).2 then gb_bpv R g k else ((k : Int), gb_py R k (gb_fm R g k)) := rfl
        refine hc_cd (ch_marksFirst hb hR e1 hg e hkc) (fun s r q => ?_)
        obtain ⟨g1, g2⟩ := q
        subst s
        subst g2
        refine hc_cd (ch_payOf hb hR e hkc) (fun s r q => ?_)
        obtain ⟨g1, g2⟩ := q
        subst s
        subst g2
        refine hc_if (fun d => hc_lt (fun x2 ex2 => ih a b x2 (k + 1) (gi_1 e (by omega) ex2) (by omega) ?_ ?_)) (fun d => hc_lt (fun x2 ex2 => ih _ x x2 (k + 1) (gi_1 e (by omega) ex2) (by omega) ?_ ?_))
        · rw [st, if_pos (by rw [← ea]; exact d)]
          exact ea
        · rw [st, if_pos (by rw [← ea]; exact d)]
          exact eb
        · rw [st, if_neg (by rw [← ea]; exact d)]
        · rw [st, if_neg (by rw [← ea]; exact d)]
          exact e
  unfold cs_Face_bestPath_B
  exact hc_kk (fun _ => go n (-1) (-1) 0 0 (by decide) (Nat.zero_le _) rfl (show ((-1 : Int32)).toInt = (-1 : Int) by decide))
theorem mh_bestPath {n m g : Nat} {f : gb_F} {w : Int64} {R : Nat → Int32} {v1 : Int32} (h : gb_mbx m R f) (e1 : v1.toInt = g) (hg : g < gb_nG R) : gb_hm (ms_bestPath n f w v1) (fun _ _ r => r.toInt = (gb_bpv R g (gb_nP R)).1) := by
  have hR := mbx_rB h
  have h8 := (rB_nG hR).2
  have h5 := (rB_nP hR).2
  have pE := (rB_nP hR).1
  have z0 : (0 : Int32).toInt = 0 := by decide
  have z1 : (-1 : Int32).toInt = -1 := by decide
  have go : ∀ (mm : Nat) (a b x : Int32) (k : Nat), x.toInt = k → k ≤ gb_nP R → b.toInt = (gb_bpv R g k).1 → (0 ≤ (gb_bpv R g k).1 → a = (gb_bpv R g k).2) → gb_hm (ms_bestPath_7 n mm f w v1 b a x) (fun _ _ r => r.toInt = (gb_bpv R g (gb_nP R)).1) := by
    intro mm
    induction mm with
    | zero =>
      intros
      exact hm_none
    | succ mm ih =>
      intro a b x k e hk eb ea
      rw [ms_bestPath_7]
      refine hm_bd (mx_paths h) (fun f1 w1 r q => ?_)
      obtain ⟨g1, g2, g3⟩ := q
      subst f1
      subst w1
      subst g3
      refine hm_if (fun c => hm_some ?_) (fun c => ?_)
      · have := gi_le c
        rw [eb, show k = gb_nP R by omega]
      · have c' := gi_nle c
        have hkc : k < gb_nP R := by omega
        have st : gb_bpv R g (k + 1) = if gb_py R k (gb_fm R g k) ≤ (gb_bpv R g k).2 then gb_bpv R g k else ((k : Int), gb_py R k (gb_fm R g k)) := rfl
        have pi := py_i hR (p := k) (by omega) (fm_i hR (g := g) (p := k) (by omega) (by omega))
        have p0 := pi.1
        refine hm_bd (mx_ofPath h e (by omega) (j := 1) (by decide) (by decide)) (fun f1 w1 r q => ?_)
        obtain ⟨g1, g2, g3⟩ := q
        subst f1
        subst w1
        refine hm_bd (mx_firstMarks h e1 (by omega) e (by omega)) (fun f1 w1 r2 q => ?_)
        obtain ⟨g1, g2, g4⟩ := q
        subst f1
        subst w1
        refine hm_bd (mx_padded h e (by omega)) (fun f1 w1 r3 q => ?_)
        obtain ⟨g1, g2, g5⟩ := q
        subst f1
        subst w1
        refine hm_lt (fun y ey => ?_)
        have eY : y = gb_py R k (gb_fm R g k) := by
          rw [ey, g3, g5, g4]
          rfl
        have take : ¬ gb_py R k (gb_fm R g k) ≤ (gb_bpv R g k).2 → ∀ x2 : Int32, x2 = x + 1 → gb_hm (ms_bestPath_7 n mm f w v1 x y x2) (fun _ _ r => r.toInt = (gb_bpv R g (gb_nP R)).1) := by
          intro q x2 ex2
          refine ih y x x2 (k + 1) (gi_1 e (by omega) ex2) (by omega) ?_ (fun _ => ?_)
          · rw [st, if_neg q]
            exact e
          · rw [st, if_neg q]
            exact eY
        refine hm_if (fun d => hm_lt (fun x2 ex2 => take ?_ x2 ex2)) (fun d => hm_if (fun d2 => hm_lt (fun x2 ex2 => take ?_ x2 ex2)) (fun d2 => hm_lt (fun x2 ex2 => ?_)))
        · have := gi_lt d
          rcases bpv_b (R := R) (g := g) k with u | u
          · intro q
            have q' := gi_le q
            rw [u.2] at q'
            omega
          · omega
        · have dn := gi_nlt d
          have a' := ea (by omega)
          intro q
          have q' := gi_le q
          have d2' := gi_lt d2
          rw [a', eY] at d2'
          omega
        · have dn := gi_nlt d
          have a' := ea (by omega)
          have q : gb_py R k (gb_fm R g k) ≤ (gb_bpv R g k).2 := by
            have d2' := gi_nlt d2
            rw [a', eY] at d2'
            exact Int32.le_iff_toInt_le.mpr d2'
          refine ih a b x2 (k + 1) (gi_1 e (by omega) ex2) (by omega) ?_ (fun u => ?_)
          · rw [st, if_pos q]
            exact eb
          · rw [st, if_pos q]
            exact a'
  unfold ms_bestPath
  exact go n 0 (-1) 0 0 (by decide) (Nat.zero_le _) (show ((-1 : Int32)).toInt = (-1 : Int) by decide) (fun u => absurd u (show ¬ (0 : Int) ≤ -1 by decide))
/-! lame -/
def gb_LM (f : gb_F) (p1 p2 p3 q : Int32) : Prop := (¬ gb_i0 p1 (f 1 0) ∧ q = -1) ∨ (gb_i0 p1 (f 1 0) ∧ ((¬ (0 ≤ p3.toInt ∧ p3.toInt ≤ 7) ∧ ((¬ gb_i0 p2 (gb_Rs 0 f p1 0) ∧ q = -1) ∨ (gb_i0 p2 (gb_Rs 0 f p1 0) ∧ q = gb_lm (gb_Rs 0 f p1) p2.toInt.toNat))) ∨ ((0 ≤ p3.toInt ∧ p3.toInt ≤ 7) ∧ ((¬ gb_i0 p3 (gb_Rs 0 f p1 1) ∧ q = -1) ∨ (gb_i0 p3 (gb_Rs 0 f p1 1) ∧ q.toInt = (gb_bpv (gb_Rs 0 f p1) p3.toInt.toNat (gb_nP (gb_Rs 0 f p1))).1)))))
theorem L_uq {f : gb_F} {p1 p2 p3 q r : Int32} (a : gb_LM f p1 p2 p3 q) (b : gb_LM f p1 p2 p3 r) : q = r := by
  rcases a with a | ⟨a0, a⟩
  · rcases b with b | b
    · rw [a.2, b.2]
    · exact absurd b.1 a.1
  · rcases b with b | ⟨b0, b⟩
    · exact absurd a0 b.1
    · rcases a with ⟨a1, a⟩ | ⟨a1, a⟩
      · rcases b with ⟨b1, b⟩ | ⟨b1, b⟩
        · rcases a with a | a
          · rcases b with b | b
            · rw [a.2, b.2]
            · exact absurd b.1 a.1
          · rcases b with b | b
            · exact absurd a.1 b.1
            · rw [a.2, b.2]
        · exact absurd b1 a1
      · rcases b with ⟨b1, b⟩ | ⟨b1, b⟩
        · exact absurd a1 b1
        · rcases a with a | a
          · rcases b with b | b
            · rw [a.2, b.2]
            · exact absurd b.1 a.1
          · rcases b with b | b
            · exact absurd a.1 b.1
            · exact gb_ieq (a.2.trans b.2.symm)
theorem c_lame {n : Nat} {σ : gb_S} {f : gb_F} {p1 p2 p3 : Int32} (h : gb_R σ f) (hM : gb_TM f) : gb_hc (cs_Face_lame n σ p1 p2 p3) (fun _ r => gb_LM f p1 p2 p3 r) := by
  have z0 : (0 : Int32).toInt = 0 := by decide
  have z8 : (8 : Int32).toInt = 8 := by decide
  unfold cs_Face_lame
  refine hc_cd (cy_border h hM) (fun s r g => ?_)
  obtain ⟨g0, g⟩ := g
  subst s
  refine hc_if (fun c => hc_some (Or.inl ⟨fun z => ?_, rfl⟩)) (fun c => ?_)
  · rcases g with y | y
    · exact y.2 z
    · exact y.1 c
  · rcases g with y | ⟨y1, y2, y3, y4, y5⟩
    · exact absurd y.1 c
    have path : ¬ (0 ≤ p3.toInt ∧ p3.toInt ≤ 7) → gb_hc (gb_cd (cs_Border_hasPath_B n σ r p2) (fun s_8 r_9 => (if r_9 = 0 then some (s_8, (-1)) else cs_Face_lame_64 n n s_8 p2 r 0 0 0))) (fun _ r => gb_LM f p1 p2 p3 r) := by
      intro nn
      refine hc_cd (cbx_has y3) (fun s r2 g2 => ?_)
      obtain ⟨g0, g2⟩ := g2
      subst s
      refine hc_if (fun d => hc_some (Or.inr ⟨y2, Or.inl ⟨nn, Or.inl ⟨yn_0 g2 d, rfl⟩⟩⟩)) (fun d => ?_)
      obtain ⟨d1, d2, d3⟩ := yn_1 g2 d
      exact hc_mono (ch_lame64 y3 y4 d2 d3 n 0 0 0 0 (by decide) (Nat.zero_le _) rfl rfl) (fun s r e => Or.inr ⟨y2, Or.inl ⟨nn, Or.inr ⟨d1, e⟩⟩⟩)
    refine hc_kk (fun _ => hc_if (fun d => path (fun z => by have := gi_lt d; omega)) (fun d => hc_if (fun d2 => path (fun z => by have := gi_le d2; omega)) (fun d2 => ?_)))
    have i7 : 0 ≤ p3.toInt ∧ p3.toInt ≤ 7 := by
      have := gi_nlt d
      have := gi_nle d2
      omega
    refine hc_cd (cbx_hasG y3) (fun s r2 g2 => ?_)
    obtain ⟨g0, g2⟩ := g2
    subst s
    refine hc_if (fun e => hc_some (Or.inr ⟨y2, Or.inr ⟨i7, Or.inl ⟨yn_0 g2 e, rfl⟩⟩⟩)) (fun e => ?_)
    obtain ⟨e1, e2, e3⟩ := yn_1 g2 e
    exact hc_cd (ch_bestPath y3 y4 e2 e3) (fun s r q => hc_some (Or.inr ⟨y2, Or.inr ⟨i7, Or.inr ⟨e1, q⟩⟩⟩))
theorem m_lame {n : Nat} {f : gb_F} {w : Int64} {p1 p2 p3 : Int32} (hM : gb_TM f) : gb_hm (ms_lame n f w p1 p2 p3) (fun _ _ q => gb_LM f p1 p2 p3 q) := by
  have z0 : (0 : Int32).toInt = 0 := by decide
  have z7 : (7 : Int32).toInt = 7 := by decide
  unfold ms_lame
  refine hm_bd (mx_isBorder hM) (fun f1 w1 r g => ?_)
  obtain ⟨-, -, hM1, g⟩ := g
  refine hm_if (fun c => hm_some (Or.inl ⟨yn_0 g c, rfl⟩)) (fun c => ?_)
  obtain ⟨g2, m, g3⟩ := yn_1 g c
  have g4 := mbx_rB g3
  have h5 := (rB_nP g4).2
  refine hm_bd mh_isIn (fun f2 w2 r2 q => ?_)
  obtain ⟨q1, q2, q3⟩ := q
  subst f2
  subst w2
  rw [z0, z7] at q3
  refine hm_if (fun d => ?_) (fun d => ?_)
  · have nn : ¬ (0 ≤ p3.toInt ∧ p3.toInt ≤ 7) := fun z => by
      rcases q3 with y | y
      · rw [d] at y
        exact absurd y.1 (by decide)
      · omega
    refine hm_bd (mbx_has g3) (fun f2 w2 r3 k => ?_)
    obtain ⟨k1, k2, k⟩ := k
    subst f2
    subst w2
    refine hm_if (fun e => hm_some (Or.inr ⟨g2, Or.inl ⟨nn, Or.inl ⟨yn_0 k e, rfl⟩⟩⟩)) (fun e => ?_)
    obtain ⟨e1, e2, e3⟩ := yn_1 k e
    refine hm_bd (mh_lamePay g3 e2 (by omega)) (fun f2 w2 r4 u => ?_)
    obtain ⟨u1, u2, u3⟩ := u
    subst f2
    subst w2
    refine hm_bd (mh_lamePay g3 e2 (by omega)) (fun f2 w2 r5 v => hm_some (Or.inr ⟨g2, Or.inl ⟨nn, Or.inr ⟨e1, ?_⟩⟩⟩))
    rw [u3, v.2.2, if_neg (by decide), if_pos rfl]
    rfl
  · have i7 : 0 ≤ p3.toInt ∧ p3.toInt ≤ 7 := by
      rcases q3 with y | y
      · exact y.2
      · exact absurd y.1 d
    refine hm_bd (mbx_hasG g3) (fun f2 w2 r3 k => ?_)
    obtain ⟨k1, k2, k⟩ := k
    subst f2
    subst w2
    refine hm_if (fun e => hm_some (Or.inr ⟨g2, Or.inr ⟨i7, Or.inl ⟨yn_0 k e, rfl⟩⟩⟩)) (fun e => ?_)
    obtain ⟨e1, e2, e3⟩ := yn_1 k e
    exact hm_bd (mh_bestPath g3 e2 e3) (fun f2 w2 r4 u => hm_some (Or.inr ⟨g2, Or.inr ⟨i7, Or.inr ⟨e1, u⟩⟩⟩))
theorem e_lame {σ σ2 : gb_S} {f f2 : gb_F} {w w2 : Int64} {p1 p2 p3 ra qa : Int32} (_ : gb_TC σ) (hM : gb_TM f) (h : gb_R σ f) (ec : cs_Face_lame gb_N σ p1 p2 p3 = some (σ2, ra)) (em : ms_lame gb_N f w p1 p2 p3 = some (f2, w2, qa)) : ra = qa := L_uq (c_lame h hM _ _ ec) (m_lame hM _ _ _ em)
