/-! A NIGHT THAT WAS RUN, AND WHAT IS ASKED OF IT -/
theorem o_lt {s m : Nat} (hs : s < 4) (hm : m < 2) : gb_o s m + 1 < 109 := by
  unfold gb_o
  omega
theorem raN_of {f : gb_F} {p1 : Int32} (hM : gb_TM f) (h : gb_i0 p1 (f 1 1)) : gb_raN (gb_Rs 1 f p1) := fun j hj => by
  have i := (hl_0 hM.2 (s := 1) (by decide)).2
  have g := hM.2 (gb_pl 1 p1.toInt.toNat + j)
  rw [(gt_1R (s := 1) (k := p1.toInt.toNat) (by decide) (by have := h.1; have := h.2; omega) (show j < gb_sz 1 from hj)).1] at g
  exact g
theorem cy_border {n : Nat} {σ : gb_S} {f : gb_F} {p1 : Int32} (h : gb_R σ f) (hM : gb_TM f) : gb_hc (cs_Face_borderAt n σ p1) (fun s r => s = σ ∧ ((r = 0 ∧ ¬ gb_i0 p1 (f 1 0)) ∨ (r ≠ 0 ∧ gb_i0 p1 (f 1 0) ∧ gb_cbx r (gb_Rs 0 f p1) σ ∧ gb_rB (gb_Rs 0 f p1) ∧ r + 1 < 109))) := by
  refine hc_mono (hc_and (cx_border h hM) ch_borderAt) (fun s r g => ⟨g.1.1, ?_⟩)
  obtain ⟨⟨-, g1⟩, -, g2⟩ := g
  rcases g1 with z | z
  · exact Or.inl z
  · rcases g2 with y | ⟨m, y1, y2, y3, y4⟩
    · exact absurd y.1 z.1
    · exact Or.inr ⟨z.1, z.2.1, z.2.2.1, z.2.2.2, by rw [y3]; exact o_lt (by decide) y2⟩
theorem cy_night {n : Nat} {σ : gb_S} {f : gb_F} {p1 : Int32} (h : gb_R σ f) (hM : gb_TM f) : gb_hc (cs_Face_nightAt n σ p1) (fun s r => s = σ ∧ ((r = 0 ∧ ¬ gb_i0 p1 (f 1 1)) ∨ (r ≠ 0 ∧ gb_i0 p1 (f 1 1) ∧ gb_RS 1 (σ.1 (r + 1)) (gb_Rs 1 f p1) ∧ gb_raN (gb_Rs 1 f p1) ∧ r + 1 < 109))) := by
  refine hc_mono (hc_and (cx_night h hM) ch_nightAt) (fun s r g => ⟨g.1.1, ?_⟩)
  obtain ⟨⟨-, g1⟩, -, g2⟩ := g
  rcases g1 with z | z
  · exact Or.inl z
  · rcases g2 with y | ⟨m, y1, y2, y3, y4⟩
    · exact absurd y.1 z.1
    · exact Or.inr ⟨z.1, z.2.1, z.2.2.1, raN_of hM z.2.1, by rw [y3]; exact o_lt (by decide) y2⟩
def gb_ran (n : Nat) (R NR : Nat → Int32) (v1 sp : Int32) (f2 : gb_F) : Prop := ∃ (m : Nat) (f1 : gb_F) (w w2 : Int64), gb_PM m R NR f1 ∧ gb_TM f1 ∧ f1 0 24 = sp ∧ gb_KM f1 f2 ∧ gb_TM f2 ∧ ms_runs n f1 w v1 = some (f2, w2, ())
theorem ran_PM {n : Nat} {R NR : Nat → Int32} {v1 sp : Int32} {f2 : gb_F} (h : gb_ran n R NR v1 sp f2) : ∃ m, gb_PM m R NR f2 := by
  obtain ⟨m, f1, w, w2, ⟨⟨a1, a2, a3, a4⟩, ⟨m2, b1, b2, b3⟩, h3⟩, -, -, k, -⟩ := h
  obtain ⟨k1, k2, k3, -⟩ := k
  have e11 : (f2 0 11).toInt = gb_pl 0 m := by rw [k2]; exact a3
  have e12 : (f2 0 12).toInt = gb_pl 1 m2 := by rw [k3]; exact b2
  exact ⟨m, ⟨a1, a2, e11, fun j => by rw [k1]; exact a4 j⟩, ⟨m2, b1, e12, fun j => by rw [k1]; exact b3 j⟩, h3⟩
theorem mh_ran {n m : Nat} {R NR : Nat → Int32} {f : gb_F} {w : Int64} {v1 sp : Int32} (hn : gb_N ≤ n) (hM : gb_PM m R NR f) (hT : gb_TM f) (hN : gb_NN f) (hv : f 0 24 = sp) : gb_hm (ms_runs n f w v1) (fun f2 _ _ => gb_ran n R NR v1 sp f2 ∧ gb_KM f f2 ∧ gb_NN f2) := by
  intro f2 w2 u e
  have x := (hm_of (mt_runs hn hT hN)) f2 w2 u e
  exact ⟨⟨m, f, w, w2, hM, hT, hv, x.1.2, x.1.1, e⟩, x.1.2, gb_NNx x.1 hN⟩
theorem r_run {n k0 k1 : Nat} {R NR : Nat → Int32} {t : Prop} {σ : gb_S} {f2 : gb_F} {p3 v1 sp : Int32} (hR : gb_rB R) (k9 : k0 + 1 < 109) (k9' : k1 + 1 < 109) (hb : gb_cbx k0 R σ) (hS : gb_RS 1 (σ.1 (k1 + 1)) NR) (hl : (if NR 0 < p3 then NR 0 else p3).toInt = if (NR 0).toInt < v1.toInt then (NR 0).toInt else v1.toInt) (hs : (t ∧ sp = -1) ∨ (¬ t ∧ ∀ k : Nat, sp.toInt = k → NR (1 + 4 * k) = 0)) (ran : gb_ran n R NR v1 sp f2) : gb_hc (cs_Play_run_B_N n σ k0 k1 p3 sp) (fun s _ => gb_PC k0 k1 R NR s ∧ gb_PR R t s f2 ∧ (f2 0 23).toInt ≤ gb_nD NR ∧ gb_pfr (gb_sq σ 1 k0) s ∧ gb_tr 100000 f2) := by
  obtain ⟨m, f1, w, w2, hM, hT, hv, -, -, em⟩ := ran
  unfold cs_Play_run_B_N
  refine hc_kk (fun _ => hc_kk (fun _ => hc_cd (ch_begin hR k9 hb) (fun s u A => hc_cd ch_sizeN (fun s2 r g => ?_))))
  obtain ⟨g1, g2⟩ := g
  subst s2
  have e0 : s.1 (k1 + 1) 0 = NR 0 := by
    rw [A.2.1 _ k9']
    exact hS.1
  rw [e0] at g2
  subst g2
  refine hc_lt (fun x ex => ?_)
  intro s3 u3 e3
  have PCs : gb_PC k0 k1 R NR s := by
    refine ⟨by rw [A.1]; show (if 1 = 1 then k0 else σ.2.1 1) = k0; exact if_pos rfl, ?_, ?_, k9, k9'⟩
    · unfold gb_cbx
      rw [A.2.1 _ k9]
      exact hb
    · rw [A.2.1 _ k9']
      exact hS
  have key : gb_hm (ms_runs n f1 w v1) (fun f2 _ _ => gb_RU R NR t s s3 f1 f2) := by
    unfold ms_runs
    refine hm_bd (mh_begins hM.1) (fun f3 w3 u4 B => ?_)
    have P0 : gb_PR R t s f3 := PR_0 hR A B
    have T0 : gb_tr (gb_Mb 0) f3 := fun p hp => by
      rw [(B.2.2.1 p hp).1, (B.2.2.1 p hp).2.1]
      unfold gb_iv
      decide
    have := r_run18 (v1 := v1) (v4 := sp) (v5 := x) (m := m) (by rw [ex]; exact hl) hs n s f3 0 0 PCs (PM_k hM B.1) P0 (by rw [B.1.2.2.2.1]; exact hv) (by decide) B.2.2.2.2 (Nat.zero_le _) T0 s3 u3 e3 n w3
    exact hm_mono this (fun f4 w4 u5 E => ⟨E.1, E.2.1, mfr_t B.1 E.2.2.1, E.2.2.2⟩)
  have K := key f2 w2 () em
  exact ⟨PC_k PCs K.2.1, K.1, K.2.2.2.1, pfr_t ⟨A.1, A.2.1⟩ K.2.1, K.2.2.2.2⟩
/-- played to the end -/
theorem r_out {n k0 k1 : Nat} {R NR : Nat → Int32} {σ : gb_S} {f2 : gb_F} (hR : gb_rB R) (hN : gb_raN NR) (k9 : k0 + 1 < 109) (k9' : k1 + 1 < 109) (hb : gb_cbx k0 R σ) (hS : gb_RS 1 (σ.1 (k1 + 1)) NR) (ran : gb_ran n R NR 24 (-1) f2) : gb_hc (cs_Face_playedOut_B_N n σ k0 k1) (fun s r => r = 1 ∧ gb_PC k0 k1 R NR s ∧ gb_PR R True s f2 ∧ gb_pfr (gb_sq σ 1 k0) s ∧ gb_tr 100000 f2) := by
  unfold cs_Face_playedOut_B_N
  refine hc_kk (fun _ => hc_kk (fun _ => hc_cd ch_sizeN (fun s r g => ?_)))
  obtain ⟨g1, g2⟩ := g
  subst s
  have e0 : σ.1 (k1 + 1) 0 = NR 0 := hS.1
  rw [e0] at g2
  subst g2
  have n1 := (rN_0 hN).1
  have n2 := (rN_0 hN).2
  have c24 : (24 : Int32).toInt = 24 := by decide
  refine hc_cd (r_run (t := True) (v1 := 24) hR k9 k9' hb hS ?_ (Or.inl ⟨trivial, rfl⟩) ran) (fun s u K => hc_some ⟨rfl, K.1, K.2.1, K.2.2.2.1, K.2.2.2.2⟩)
  rw [if_neg (fun z => by have := gi_lt z; omega), c24]
  by_cases c : (NR 0).toInt < 24
  · rw [if_pos c]
  · rw [if_neg c]
    omega
/-- both chosen -/
theorem mh_areTold {n : Nat} {f : gb_F} {w : Int64} {p1 p2 : Int32} (hM : gb_TM f) : gb_hm (ms_areTold n f w p1 p2) (fun f2 _ r => (r = 0 ∧ ¬ (gb_i0 p1 (f 1 0) ∧ gb_i0 p2 (f 1 1))) ∨ (r = 1 ∧ (gb_i0 p1 (f 1 0) ∧ gb_i0 p2 (f 1 1)) ∧ f2 0 24 = -1 ∧ gb_TM f2 ∧ gb_NN f2 ∧ f2 1 = f 1 ∧ ∃ m, gb_PM m (gb_Rs 0 f p1) (gb_Rs 1 f p2) f2)) := by
  refine hm_mono (hm_and ?_ (hm_of (mt_areTold hM))) (fun f2 w2 r g => ?_) (P := fun f2 w2 r => (((r = 0 ∧ ¬ (gb_i0 p1 (f 1 0) ∧ gb_i0 p2 (f 1 1))) ∨ (r = 1 ∧ (gb_i0 p1 (f 1 0) ∧ gb_i0 p2 (f 1 1)) ∧ f2 0 24 = -1 ∧ f2 1 = f 1 ∧ ∃ m, gb_PM m (gb_Rs 0 f p1) (gb_Rs 1 f p2) f2))) ∧ (gb_TM f2 ∧ (gb_iv 0 1 r ∧ (¬ r = 0 → gb_NN f2))))
  · unfold ms_areTold
    refine hm_bd (mx_isBorder hM) (fun f1 w1 r g => ?_)
    obtain ⟨-, e1, hM1, g⟩ := g
    refine hm_if (fun c => hm_some (Or.inl ⟨rfl, fun z => (yn_0 g c) z.1⟩)) (fun c => ?_)
    obtain ⟨ia, m, mb⟩ := yn_1 g c
    refine hm_bd (mh_isOf hM1 (s := 1) (by decide) (by decide)) (fun f3 w3 r3 hg => ?_)
    obtain ⟨q1, q2, hg⟩ := hg
    subst f3
    subst w3
    rw [e1] at hg
    refine hm_if (fun c2 => hm_some (Or.inl ⟨rfl, fun z => ?_⟩)) (fun c2 => ?_)
    · rcases hg with y | ⟨m2, y, -⟩
      · exact in_Nk y.2 z.2
      · rw [c2] at y
        exact absurd y (by decide)
    · rcases hg with y | ⟨m2, z1, z2, z3⟩
      · exact absurd y.1 c2
      · refine hm_bd (hm_of (mt_placeOfE (s := 1) (by decide) (by decide) z2.1 (by omega))) (fun g2 u2 r2 hh => hm_lt (fun y ey => hm_lt (fun y2 ey2 => hm_some (Or.inr ⟨rfl, ⟨ia, in_Lk z2⟩, ?_, ?_, m, ?_, ?_, ?_⟩))))
        · rw [ey2, gb_us, pk_us]
        · obtain ⟨q1, q2, q3⟩ := hh
          rw [ey2, gb_un (by decide), ey, gb_un (by decide), q1, e1]
        · obtain ⟨q1, q2, q3⟩ := hh
          obtain ⟨a1, a2, a3, a4⟩ := mb
          refine ⟨a1, a2, ?_, fun j => ?_⟩
          · unfold gb_mb at a3 ⊢
            rw [ey2, gb_us, pk_un (by decide), ey, gb_us, pk_un (by decide), q1]
            exact a3
          · rw [ey2, gb_un (by decide), ey, gb_un (by decide), q1]
            exact a4 j
        · obtain ⟨q1, q2, q3⟩ := hh
          refine ⟨m2, z3, ?_, fun j => ?_⟩
          · unfold gb_mb
            rw [ey2, gb_us, pk_un (by decide), ey, gb_us, pk_us]
            exact q3
          · rw [ey2, gb_un (by decide), ey, gb_un (by decide), q1, e1, Rs_E z2]
        · exact raN_of hM (in_Lk z2)
  · obtain ⟨g1, g2, g3, g4⟩ := g
    rcases g1 with z | ⟨z1, z2, z3, z4, z5⟩
    · exact Or.inl z
    · exact Or.inr ⟨z1, z2, z3, g2, g4 (by rw [z1]; decide), z4, z5⟩
/-! stop -/
def gb_two (f : gb_F) (p1 p2 : Int32) : Prop := gb_i0 p1 (f 1 0) ∧ gb_i0 p2 (f 1 1)
theorem m_stop {n : Nat} {f : gb_F} {w : Int64} {p1 p2 : Int32} (hn : gb_N ≤ n) (hM : gb_TM f) : gb_hm (ms_stop n f w p1 p2) (fun _ _ q => (¬ gb_two f p1 p2 ∧ q = -1) ∨ (gb_two f p1 p2 ∧ ∃ f2, gb_ran n (gb_Rs 0 f p1) (gb_Rs 1 f p2) 24 (-1) f2 ∧ q = f2 0 23)) := by
  unfold ms_stop
  refine hm_bd (mh_areTold hM) (fun f1 w1 r g => hm_if (fun c => hm_some (Or.inl ⟨yn_0 g c, rfl⟩)) (fun c => ?_))
  obtain ⟨a, b1, b2, b3, b4, m, b5⟩ := yn_1 g c
  exact hm_bd (mh_ran hn b5 b2 b3 b1) (fun f2 w2 u k => hm_some (Or.inr ⟨a, f2, k.1, rfl⟩))
theorem c_stop {n : Nat} {σ : gb_S} {f : gb_F} {p1 p2 q : Int32} (h : gb_R σ f) (hM : gb_TM f) (H : (¬ gb_two f p1 p2 ∧ q = -1) ∨ (gb_two f p1 p2 ∧ ∃ f2, gb_ran n (gb_Rs 0 f p1) (gb_Rs 1 f p2) 24 (-1) f2 ∧ q = f2 0 23)) : gb_hc (cs_Face_stop n σ p1 p2) (fun _ r => r = q) := by
  have no : ¬ gb_two f p1 p2 → (-1 : Int32) = q := fun z => by
    rcases H with y | y
    · exact y.2.symm
    · exact absurd y.1 z
  unfold cs_Face_stop
  refine hc_cd (cy_border h hM) (fun s r g => ?_)
  obtain ⟨g0, g⟩ := g
  subst s
  refine hc_if (fun c => ?_) (fun c => ?_)
  · have nb : ¬ gb_two f p1 p2 := fun z => by
      rcases g with y | y
      · exact y.2 z.1
      · exact y.1 c
    refine hc_cd (cy_night h hM) (fun s r2 g2 => ?_)
    obtain ⟨g0, g2⟩ := g2
    subst s
    refine hc_if (fun c2 => ?_) (fun c2 => hc_kk (fun _ => ?_))
    · unfold cs_Face_playedOut_n_n
      exact hc_cd (hc_some (Q := fun _ r => r = (0 : Int32)) rfl) (fun s r e => hc_if (fun _ => hc_some (no nb)) (fun c => absurd e c))
    · unfold cs_Face_playedOut_n_N
      exact hc_cd (hc_kk (fun _ => hc_some (Q := fun _ r => r = (0 : Int32)) rfl)) (fun s r e => hc_if (fun _ => hc_some (no nb)) (fun c => absurd e c))
  · rcases g with y | ⟨y1, y2, y3, y4, y5⟩
    · exact absurd y.1 c
    refine hc_kk (fun _ => hc_cd (cy_night h hM) (fun s r2 g2 => ?_))
    obtain ⟨g0, g2⟩ := g2
    subst s
    refine hc_if (fun c2 => ?_) (fun c2 => hc_kk (fun _ => ?_))
    · have nb : ¬ gb_two f p1 p2 := fun z => by
        rcases g2 with y | y
        · exact y.2 z.2
        · exact y.1 c2
      unfold cs_Face_playedOut_B_n
      exact hc_cd (hc_kk (fun _ => hc_some (Q := fun _ r => r = (0 : Int32)) rfl)) (fun s r e => hc_if (fun _ => hc_some (no nb)) (fun c => absurd e c))
    · rcases g2 with z | ⟨z1, z2, z3, z4, z5⟩
      · exact absurd z.1 c2
      rcases H with y | ⟨-, f2, ran, eq⟩
      · exact absurd ⟨y2, z2⟩ y.1
      refine hc_cd (r_out y4 z4 y5 z5 y3 z3 ran) (fun s r K => ?_)
      refine hc_if (fun c3 => absurd c3 (by rw [K.1]; decide)) (fun _ => hc_some ?_)
      rw [eq]
      exact K.2.2.1.2.2.2.2.1.2
theorem e_stop {σ σ2 : gb_S} {f f2 : gb_F} {w w2 : Int64} {p1 p2 ra qa : Int32} (_ : gb_TC σ) (hM : gb_TM f) (h : gb_R σ f) (ec : cs_Face_stop gb_N σ p1 p2 = some (σ2, ra)) (em : ms_stop gb_N f w p1 p2 = some (f2, w2, qa)) : ra = qa := c_stop h hM (m_stop (Nat.le_refl _) hM _ _ _ em) _ _ ec
