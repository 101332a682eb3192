/-! THE COUNT OF A RUN, AND WHO -/
def gb_r49 (f : gb_F) : Prop := (∀ x, x < 8 → gb_iv 0 2 (f 4 x)) ∧ ∀ x p, x < 8 → p < 5 → gb_iv (-1) 23 (f 9 (5 * x + p))
theorem upd_i {F : Nat → Int32} {j x : Nat} {v : Int32} {a b : Int} (h : gb_iv a b (F x)) (g : gb_iv a b v) : gb_iv a b (upd F j v x) := by
  by_cases c : x = j
  · subst c
    rw [pk_us]
    exact g
  · rw [pk_un c]
    exact h
theorem r49_e {f g : gb_F} (h : gb_r49 f) (e : gb_e49 f g) : gb_r49 g := ⟨fun x hx => by rw [← e.1 x hx]; exact h.1 x hx, fun x p hx hp => by rw [← e.2 x p hx hp]; exact h.2 x p hx hp⟩
theorem r49_s {R NR : Nat → Int32} {f f2 : gb_F} {x : Int32} {k : Nat} (h : gb_r49 f) (hx : gb_iv (-1) 23 x) (a4 : f2 4 = gb_n4 R NR f k) (a9 : f2 9 = gb_n9 R NR f x k) : gb_r49 f2 := by
  have i0 : gb_iv 0 2 (0 : Int32) := by unfold gb_iv; decide
  have i1 : gb_iv 0 2 (1 : Int32) := by unfold gb_iv; decide
  have i2 : gb_iv 0 2 (2 : Int32) := by unfold gb_iv; decide
  unfold gb_r49
  rw [a4, a9]
  by_cases c0 : NR (1 + 4 * k) = 0
  · rw [n4_0 c0, n9_0 c0]
    exact ⟨fun y hy => upd_i (h.1 y hy) i1, fun y p hy hp => upd_i (h.2 y p hy hp) hx⟩
  by_cases c1 : NR (1 + 4 * k) = 1
  · rw [n4_1 c1, n9_1 c1]
    exact ⟨fun y hy => upd_i (h.1 y hy) i1, fun y p hy hp => upd_i (h.2 y p hy hp) hx⟩
  by_cases c2 : NR (1 + 4 * k) = 2
  · rw [n4_2 c2, n9_2 c2]
    exact ⟨fun y hy => upd_i (h.1 y hy) i0, fun y p hy hp => upd_i (h.2 y p hy hp) hx⟩
  by_cases c3 : NR (1 + 4 * k) = 3
  · rw [n4_3 c3, n9_3 c3]
    exact ⟨fun y hy => upd_i (upd_i (h.1 y hy) i1) i1, fun y p hy hp => upd_i (h.2 y p hy hp) hx⟩
  by_cases c4 : NR (1 + 4 * k) = 4
  · rw [n4_4 c4, n9_4 c4]
    exact h
  by_cases c5 : NR (1 + 4 * k) = 5
  · rw [n4_5 c5, n9_5 c5]
    exact h
  by_cases c6 : NR (1 + 4 * k) = 6
  · rw [n4_6 c6, n9_6 c6]
    exact h
  by_cases c7 : NR (1 + 4 * k) = 7
  · rw [n4_7 c7, n9_7 c7]
    exact h
  by_cases c8 : NR (1 + 4 * k) = 8
  · rw [n4_8 c8, n9_8 c8]
    exact ⟨fun y hy => upd_i (h.1 y hy) i2, h.2⟩
  have n4 : gb_n4 R NR f k = f 4 := by unfold gb_n4; rw [if_neg c0, if_neg c1, if_neg c2, if_neg c3, if_neg c8]
  have n9 : gb_n9 R NR f x k = f 9 := by unfold gb_n9; rw [if_neg c0, if_neg c1, if_neg c2, if_neg c3]
  rw [n4, n9]
  exact h
theorem mh_cnt {n m m2 : Nat} {R NR : Nat → Int32} {v1 : Int32} : ∀ (mm : Nat) (f : gb_F) (w : Int64) (k : Nat), gb_PM m R NR f → gb_r49 f → (f 0 23).toInt = k → k ≤ gb_nD NR → gb_hm (ms_runs_4 n mm f w v1) (fun fA _ _ => (k : Int) ≤ (fA 0 23).toInt ∧ (fA 0 23).toInt ≤ gb_nD NR ∧ ∀ (mm2 : Nat) (g : gb_F) (w2 : Int64), gb_PM m2 R NR g → gb_e49 f g → f 0 23 = g 0 23 → gb_hm (ms_runs_4 n mm2 g w2 (fA 0 23)) (fun fB _ _ => fB 0 23 = fA 0 23)) := by
  intro mm
  induction mm with
  | zero =>
    intros
    exact hm_none
  | succ mm ih =>
    intro f w k hM h4 e hk
    have hN := hM.2.2
    have nE := (rN_0 hN).1
    have nD := (rN_0 hN).2
    have hR := mbx_rB hM.1
    have stop : (k : Int) ≤ (f 0 23).toInt ∧ (f 0 23).toInt ≤ gb_nD NR ∧ ∀ (mm2 : Nat) (g : gb_F) (w2 : Int64), gb_PM m2 R NR g → gb_e49 f g → f 0 23 = g 0 23 → gb_hm (ms_runs_4 n mm2 g w2 (f 0 23)) (fun fB _ _ => fB 0 23 = f 0 23) := by
      refine ⟨by omega, by omega, fun mm2 g w2 _ _ ee => ?_⟩
      cases mm2 with
      | zero => exact hm_none
      | succ mm2 =>
        rw [ms_runs_4, ← ee, if_pos (Int32.le_iff_toInt_le.mpr (Int.le_refl _))]
        exact hm_some ee.symm
    have dee : ∀ (q : Nat) (z : gb_F) (u : Int64), gb_PM q R NR z → gb_hm (ms_deeds n z u) (fun f2 w2 r => f2 = z ∧ w2 = u ∧ r = NR 0) := fun q z u hz => by
      unfold ms_deeds
      refine hm_ck (fun _ _ => hm_lt (fun y ey => hm_some ⟨rfl, rfl, ?_⟩))
      rw [ey]
      exact mx_nnight hz.2.1
    rw [ms_runs_4]
    refine hm_if (fun _ => hm_some stop) (fun c1 => hm_bd (dee m f w hM) (fun f1 w1 r g => ?_))
    obtain ⟨g1, g2, g3⟩ := g
    subst f1
    subst w1
    subst g3
    refine hm_if (fun _ => hm_some stop) (fun c2 => ?_)
    have c2' := gi_nle c2
    refine hm_bd (mh_can hM h4.1 h4.2 e (by omega)) (fun f1 w1 r g => ?_)
    obtain ⟨g1, g2, g3⟩ := g
    subst f1
    subst w1
    refine hm_if (fun _ => hm_some stop) (fun c3 => ?_)
    have yes := yn_1 g3 c3
    have hx : gb_iv (-1) 23 (f 0 23) := ⟨by omega, by omega⟩
    refine hm_bd (mh_does49 hM h4.2 e (by omega) yes w) (fun f2 w2 u2 D => hm_lt (fun f4 e4 => ?_))
    obtain ⟨d4, d9, dm, d23⟩ := D
    have mf : gb_mfr f f4 := by
      rw [e4]
      exact mfr_t dm (mfr_0 (by decide))
    have k1 : (f4 0 23).toInt = ((k + 1 : Nat) : Int) := by
      rw [e4, gb_us, pk_us, d23]
      exact gi_1 e (by omega) rfl
    have r4 : gb_r49 f4 := by
      have := r49_s h4 hx d4 d9
      rw [e4]
      unfold gb_r49
      rw [gb_un (by decide), gb_un (by decide)]
      exact this
    refine hm_mono (ih f4 w2 (k + 1) (PM_k hM mf) r4 k1 (by omega)) (fun fA wA uA G => ⟨by have := G.1; omega, G.2.1, fun mm2 g w3 hg ee e23 => ?_⟩)
    obtain ⟨GA, -, GB⟩ := G
    cases mm2 with
    | zero => exact hm_none
    | succ mm2 =>
      have eg : (g 0 23).toInt = k := by rw [← e23]; exact e
      rw [ms_runs_4, ← e23, if_neg (fun z => by have := gi_le z; omega)]
      refine hm_bd (dee m2 g w3 hg) (fun f1 w1 r q => ?_)
      obtain ⟨q1, q2, q3⟩ := q
      subst f1
      subst w1
      subst q3
      rw [if_neg c2, ← e23]
      have rg := r49_e h4 ee
      refine hm_bd (mh_can hg rg.1 rg.2 e (by omega)) (fun f1 w1 r q => ?_)
      obtain ⟨q1, q2, q3⟩ := q
      subst f1
      subst w1
      have yes2 := (can_e ee hR).mp yes
      refine hm_if (fun z => absurd yes2 (yn_0 q3 z)) (fun z => ?_)
      rw [← e23]
      refine hm_bd (mh_does49 hg rg.2 e (by omega) yes2 w3) (fun g2 w4 u4 D2 => hm_lt (fun g4 e5 => ?_))
      obtain ⟨b4, b9, bm, b23⟩ := D2
      have es := e49_s ee hR yes d4 d9 b4 b9
      refine GB mm2 g4 w4 ?_ ?_ ?_
      · refine PM_k hg ?_
        rw [e5]
        exact mfr_t bm (mfr_0 (by decide))
      · unfold gb_e49
        rw [e4, e5, gb_un (by decide), gb_un (by decide), gb_un (by decide), gb_un (by decide)]
        exact es
      · rw [e4, e5, gb_us, gb_us, pk_us, pk_us, d23, b23, e23]
theorem ran_cnt {n : Nat} {R NR : Nat → Int32} {v1 s1 s2 : Int32} {fA fB : gb_F} (hA : gb_ran n R NR v1 s1 fA) (hB : gb_ran n R NR (fA 0 23) s2 fB) : fB 0 23 = fA 0 23 := by
  obtain ⟨m, f1, w, w2, hM, -, -, -, -, eA⟩ := hA
  obtain ⟨m2, g1, w3, w4, hM2, -, -, -, -, eB⟩ := hB
  have key : gb_hm (ms_runs n f1 w v1) (fun fA _ _ => gb_hm (ms_runs n g1 w3 (fA 0 23)) (fun fB _ _ => fB 0 23 = fA 0 23)) := by
    unfold ms_runs
    refine hm_bd (mh_begins hM.1) (fun f2 w5 u5 P => ?_)
    have r0 : gb_r49 f2 := ⟨fun x hx => by rw [(P.2.1 x hx).1]; unfold gb_iv; decide, fun x p hx hp => by rw [(P.2.1 x hx).2.2.2.2.2 p hp]; unfold gb_iv; decide⟩
    refine hm_mono (mh_cnt (m2 := m2) n f2 w5 0 (PM_k hM P.1) r0 (by rw [P.2.2.2.2]; decide) (Nat.zero_le _)) (fun fA wA uA G => ?_)
    refine hm_bd (mh_begins hM2.1) (fun g2 w6 u6 Q => ?_)
    refine G.2.2 n g2 w6 (PM_k hM2 Q.1) ⟨fun x hx => ?_, fun x p hx hp => ?_⟩ ?_
    · rw [(P.2.1 x hx).1, (Q.2.1 x hx).1]
    · rw [(P.2.1 x hx).2.2.2.2.2 p hp, (Q.2.1 x hx).2.2.2.2.2 p hp]
    · rw [P.2.2.2.2, Q.2.2.2.2]
  exact key fA w2 () eA fB w4 () eB
theorem ran_le {n : Nat} {R NR : Nat → Int32} {v1 s1 : Int32} {fA : gb_F} (hA : gb_ran n R NR v1 s1 fA) : (fA 0 23).toInt ≤ gb_nD NR := by
  obtain ⟨m, f1, w, w2, hM, -, -, -, -, eA⟩ := hA
  have key : gb_hm (ms_runs n f1 w v1) (fun fA _ _ => (fA 0 23).toInt ≤ gb_nD NR) := by
    unfold ms_runs
    refine hm_bd (mh_begins hM.1) (fun f2 w5 u5 P => ?_)
    have r0 : gb_r49 f2 := ⟨fun x hx => by rw [(P.2.1 x hx).1]; unfold gb_iv; decide, fun x p hx hp => by rw [(P.2.1 x hx).2.2.2.2.2 p hp]; unfold gb_iv; decide⟩
    exact hm_mono (mh_cnt (m2 := m) n f2 w5 0 (PM_k hM P.1) r0 (by rw [P.2.2.2.2]; decide) (Nat.zero_le _)) (fun fA wA uA G => G.2.1)
  exact key fA w2 () eA
/-! who -/
theorem m_who34 {n k0 k1 m : Nat} {R NR : Nat → Int32} {v3 v4 : Int32} {p : Nat} {fA : gb_F} (hn : gb_N ≤ n) (hA : gb_ran n R NR 24 (-1) fA) (hN : gb_raN NR) (hD : (fA 0 23).toInt ≤ gb_nD NR) (h3 : v3.toInt = p) (hp : p < gb_nP R) (k9 : k0 + 1 < 109) (k9' : k1 + 1 < 109) : ∀ (mm2 : Nat) (f : gb_F) (w : Int64) (v6 : Int32) (k : Nat), gb_PM m R NR f → gb_TM f → gb_NN f → v6.toInt = k → gb_hm (ms_who_34 n mm2 f w v3 v4 (fA 0 23) v6) (fun _ _ q => ∀ (mm : Nat) (σ : gb_S), gb_cbx k0 R σ → gb_RS 1 (σ.1 (k1 + 1)) NR → gb_hc (cs_Face_who_58 n mm σ v3 v4 k0 k1 (fA 0 23) v6) (fun _ r => r = q)) := by
  intro mm2
  induction mm2 with
  | zero =>
    intros
    exact hm_none
  | succ mm2 ih =>
    intro f w v6 k hM hT hNN e
    have hR := mbx_rB hM.1
    have h5 := (rB_nP hR).2
    have nE := (rN_0 hN).1
    have nD := (rN_0 hN).2
    rw [ms_who_34]
    refine hm_if (fun c => hm_some (fun mm σ hb hS => ?_)) (fun c => ?_)
    · cases mm with
      | zero => exact hc_none
      | succ mm =>
        rw [cs_Face_who_58]
        refine hc_kk (fun _ => hc_kk (fun _ => ?_))
        rw [if_pos c]
        exact hc_some rfl
    · have c' := gi_nle c
      have hk : k < gb_nD NR := by omega
      have rdk : ∀ σ : gb_S, gb_RS 1 (σ.1 (k1 + 1)) NR → ∀ (j : Nat) (y : Int32), y.toInt = j → j < 4 → gb_hc (cs_Lines_cell_N n σ k1 v6 y) (fun s r => s = σ ∧ r = NR (1 + 4 * k + j)) := fun σ hS j y ey hj => by
        refine hc_mono (ch_cellN e (by omega) ey (by omega)) (fun s r g => ⟨g.1, ?_⟩)
        rw [g.2, show 1 + 4 * k + j = 1 + (4 * k + j) by omega]
        exact hS.2.2.1 (Or.inl rfl) _ (by have e : gb_wid 1 = 4 := rfl; rw [e]; unfold gb_nD at hk; omega)
      have kd : ∀ σ : gb_S, gb_RS 1 (σ.1 (k1 + 1)) NR → gb_hc (cs_Lines_kind_N n σ k1 v6) (fun s r => s = σ ∧ r = NR (1 + 4 * k)) := fun σ hS => by
        unfold cs_Lines_kind_N
        exact hc_kk (fun _ => hc_cd (rdk σ hS 0 0 (by decide) (by decide)) (fun s r g => hc_some g))
      refine hm_bd (mx_deedOf hM.2.1 e (by omega) (j := 0) (by decide) (by decide)) (fun f1 w1 r1 g1 => ?_)
      obtain ⟨g1, g2, g3⟩ := g1
      subst f1
      subst w1
      subst g3
      rw [Nat.add_zero]
      have e1 : ∀ x2 : Int32, x2 = v6 + 1 → x2.toInt = ((k + 1 : Nat) : Int) := fun x2 ex2 => gi_1 e (by omega) ex2
      refine hm_if (fun d0 => hm_bd (mx_deedOf hM.2.1 e (by omega) (j := 2) (by decide) (by decide)) (fun f1 w1 r1 g1 => ?_)) (fun d0 => hm_lt (fun x2 ex2 => ?_))
      · obtain ⟨g1, g2, g3⟩ := g1
        subst f1
        subst w1
        subst g3
        refine hm_if (fun d2 => hm_lt (fun f3 e3 => ?_)) (fun d2 => hm_lt (fun x2 ex2 => ?_))
        · have mf : f3 1 = f 1 ∧ f3 0 11 = f 0 11 ∧ f3 0 12 = f 0 12 := by
            rw [e3]
            exact ⟨gb_un (by decide), by rw [gb_us, pk_un (by decide)], by rw [gb_us, pk_un (by decide)]⟩
          have hM3 : gb_PM m R NR f3 := by
            obtain ⟨⟨a1, a2, a3, a4⟩, ⟨m2, b1, b2, b3⟩, h3⟩ := hM
            have e11 : (f3 0 11).toInt = gb_pl 0 m := by rw [mf.2.1]; exact a3
            have e12 : (f3 0 12).toInt = gb_pl 1 m2 := by rw [mf.2.2]; exact b2
            exact ⟨⟨a1, a2, e11, fun j => by rw [mf.1]; exact a4 j⟩, ⟨m2, b1, e12, fun j => by rw [mf.1]; exact b3 j⟩, h3⟩
          have hT3 : gb_TM f3 := by
            rw [e3]
            exact (gb_XKf (gb_XKr hT) (j := 24) (by decide)).1
          have hN3 : gb_NN f3 := by
            unfold gb_NN
            rw [mf.2.2]
            exact hNN
          refine hm_bd (mh_ran (sp := v6) hn hM3 hT3 hN3 (by rw [e3, gb_us, pk_us])) (fun f4 w4 u4 G => ?_)
          obtain ⟨rn, km, nn⟩ := G
          have cnt := ran_cnt hA rn
          have hM4 : gb_PM m R NR f4 := by
            obtain ⟨⟨a1, a2, a3, a4⟩, ⟨m2, b1, b2, b3⟩, h3⟩ := hM3
            have e11 : (f4 0 11).toInt = gb_pl 0 m := by rw [km.2.1]; exact a3
            have e12 : (f4 0 12).toInt = gb_pl 1 m2 := by rw [km.2.2.1]; exact b2
            exact ⟨⟨a1, a2, e11, fun j => by rw [km.1]; exact a4 j⟩, ⟨m2, b1, e12, fun j => by rw [km.1]; exact b3 j⟩, h3⟩
          have hT4 : gb_TM f4 := by
            obtain ⟨_, _, _, _, _, _, _, _, t, _⟩ := rn
            exact t
          have step : ∀ (q : Int32) (mm : Nat) (σ : gb_S), gb_cbx k0 R σ → gb_RS 1 (σ.1 (k1 + 1)) NR → (∀ (s : gb_S) (mm' : Nat), gb_cbx k0 R s → gb_RS 1 (s.1 (k1 + 1)) NR → gb_hc (if gb_tal f4 p = v4 then some (s, v6) else gb_lt (v6 + 1) (fun x_54 => cs_Face_who_58 n mm' s v3 v4 k0 k1 (fA 0 23) x_54)) (fun _ r => r = q)) → gb_hc (cs_Face_who_58 n mm σ v3 v4 k0 k1 (fA 0 23) v6) (fun _ r => r = q) := by
            intro q mm σ hb hS H
            cases mm with
            | zero => exact hc_none
            | succ mm =>
              rw [cs_Face_who_58]
              refine hc_kk (fun _ => hc_kk (fun _ => ?_))
              rw [if_neg c]
              refine hc_cd (kd σ hS) (fun s r g => ?_)
              obtain ⟨g1, g2⟩ := g
              subst s
              rw [if_pos (by rw [g2]; exact d0)]
              refine hc_cd (rdk σ hS 2 2 (by decide) (by decide)) (fun s r g => ?_)
              obtain ⟨g1, g3⟩ := g
              subst s
              rw [if_pos (by rw [g3]; exact d2)]
              refine hc_cd (r_run (t := False) (v1 := fA 0 23) hR k9 k9' hb hS min_E (Or.inr ⟨id, fun k' ek => ?_⟩) rn) (fun s u K => ?_)
              · rw [show k' = k by omega]
                exact d0
              · obtain ⟨K1, K2, K3, K4, K5⟩ := K
                refine hc_cd (ch_tally K2 K5 h3 (by omega)) (fun s2 r2 g => ?_)
                obtain ⟨g1, g4⟩ := g
                subst s2
                rw [g4]
                exact H s mm K1.2.1 K1.2.2.1
          rw [if_pos cnt]
          refine hm_bd (mh_tally h3) (fun f5 w5 r5 g5 => ?_)
          obtain ⟨q1, q2, q3⟩ := g5
          subst f5
          subst w5
          refine hm_if (fun z => hm_some (fun mm σ hb hS => step _ mm σ hb hS (fun s mm' _ _ => ?_))) (fun z => hm_lt (fun x2 ex2 => hm_mono (ih f4 w4 x2 (k + 1) hM4 hT4 nn (e1 x2 ex2)) (fun _ _ q G mm σ hb hS => step q mm σ hb hS (fun s mm' hb' hS' => ?_))))
          · rw [if_pos (by rw [← q3]; exact z)]
            exact hc_some rfl
          · rw [if_neg (by rw [← q3]; exact z)]
            refine hc_lt (fun y ey => ?_)
            rw [ey, ← ex2]
            exact G mm' s hb' hS'
        · refine hm_mono (ih f w x2 (k + 1) hM hT hNN (e1 x2 ex2)) (fun _ _ q G mm σ hb hS => ?_)
          cases mm with
          | zero => exact hc_none
          | succ mm =>
            rw [cs_Face_who_58]
            refine hc_kk (fun _ => hc_kk (fun _ => ?_))
            rw [if_neg c]
            refine hc_cd (kd σ hS) (fun s r g => ?_)
            obtain ⟨g1, g2⟩ := g
            subst s
            rw [if_pos (by rw [g2]; exact d0)]
            refine hc_cd (rdk σ hS 2 2 (by decide) (by decide)) (fun s r g => ?_)
            obtain ⟨g1, g3⟩ := g
            subst s
            rw [if_neg (by rw [g3]; exact d2)]
            refine hc_lt (fun y ey => ?_)
            rw [ey, ← ex2]
            exact G mm σ hb hS
      · refine hm_mono (ih f w x2 (k + 1) hM hT hNN (e1 x2 ex2)) (fun _ _ q G mm σ hb hS => ?_)
        cases mm with
        | zero => exact hc_none
        | succ mm =>
          rw [cs_Face_who_58]
          refine hc_kk (fun _ => hc_kk (fun _ => ?_))
          rw [if_neg c]
          refine hc_cd (kd σ hS) (fun s r g => ?_)
          obtain ⟨g1, g2⟩ := g
          subst s
          rw [if_neg (by rw [g2]; exact d0)]
          refine hc_lt (fun y ey => ?_)
          rw [ey, ← ex2]
          exact G mm σ hb hS
def gb_W (n : Nat) (f : gb_F) (p1 p2 p3 p4 q : Int32) : Prop := (¬ (gb_two f p1 p2 ∧ gb_i0 p3 (gb_Rs 0 f p1 0)) ∧ q = -1) ∨ ((gb_two f p1 p2 ∧ gb_i0 p3 (gb_Rs 0 f p1 0)) ∧ ∃ fA, gb_ran n (gb_Rs 0 f p1) (gb_Rs 1 f p2) 24 (-1) fA ∧ ∀ (k0 k1 mm : Nat) (σ : gb_S), k0 + 1 < 109 → k1 + 1 < 109 → gb_cbx k0 (gb_Rs 0 f p1) σ → gb_RS 1 (σ.1 (k1 + 1)) (gb_Rs 1 f p2) → gb_hc (cs_Face_who_58 n mm σ p3 p4 k0 k1 (fA 0 23) 0) (fun _ r => r = q))
theorem m_who {n : Nat} {f : gb_F} {w : Int64} {p1 p2 p3 p4 : Int32} (hn : gb_N ≤ n) (hM : gb_TM f) : gb_hm (ms_who n f w p1 p2 p3 p4) (fun _ _ q => gb_W n f p1 p2 p3 p4 q) := by
  unfold ms_who
  refine hm_bd (mh_areTold hM) (fun f1 w1 r g => hm_if (fun c => hm_some (Or.inl ⟨fun z => (yn_0 g c) z.1, rfl⟩)) (fun c => ?_))
  obtain ⟨a, b1, b2, b3, b4, m, b5⟩ := yn_1 g c
  refine hm_bd (mbx_has b5.1) (fun f2 w2 r2 g2 => ?_)
  obtain ⟨q1, q2, g2⟩ := g2
  subst f2
  subst w2
  refine hm_if (fun d => hm_some (Or.inl ⟨fun z => (yn_0 g2 d) z.2, rfl⟩)) (fun d => ?_)
  obtain ⟨d1, d2, d3⟩ := yn_1 g2 d
  refine hm_bd (mh_ran hn b5 b2 b3 b1) (fun fA w2 u k => hm_lt (fun v5 e5 => ?_))
  obtain ⟨rn, km, nn⟩ := k
  obtain ⟨m2, pm⟩ := ran_PM rn
  have tA : gb_TM fA := by
    obtain ⟨_, _, _, _, _, _, _, _, t, _⟩ := rn
    exact t
  rw [e5]
  have all : ∀ k0 k1 : Nat, k0 + 1 < 109 → k1 + 1 < 109 → gb_hm (ms_who_34 n n fA w2 p3 p4 (fA 0 23) 0) _ := fun k0 k1 h0 h1 => m_who34 (k0 := k0) (k1 := k1) hn rn b5.2.2 (ran_le rn) d2 d3 h0 h1 n fA w2 0 0 pm tA nn (by decide)
  intro f9 w9 q9 e9
  exact Or.inr ⟨⟨a, d1⟩, fA, rn, fun k0 k1 mm σ h0 h1 hb hS => all k0 k1 h0 h1 f9 w9 q9 e9 mm σ hb hS⟩
theorem c_who {n : Nat} {σ : gb_S} {f : gb_F} {p1 p2 p3 p4 q : Int32} (h : gb_R σ f) (hM : gb_TM f) (H : gb_W n f p1 p2 p3 p4 q) : gb_hc (cs_Face_who n σ p1 p2 p3 p4) (fun _ r => r = q) := by
  have no : ¬ (gb_two f p1 p2 ∧ gb_i0 p3 (gb_Rs 0 f p1 0)) → (-1 : Int32) = q := fun z => by
    rcases H with y | y
    · exact y.2.symm
    · exact absurd y.1 z
  unfold cs_Face_who
  refine hc_cd (cy_border h hM) (fun s r g => ?_)
  obtain ⟨g0, g⟩ := g
  subst s
  refine hc_if (fun c => ?_) (fun c => ?_)
  · have nb : ¬ (gb_two f p1 p2 ∧ gb_i0 p3 (gb_Rs 0 f p1 0)) := fun z => by
      rcases g with y | y
      · exact y.2 z.1.1
      · exact y.1 c
    refine hc_cd (cy_night h hM) (fun s r2 g2 => ?_)
    exact hc_if (fun _ => hc_some (no nb)) (fun _ => hc_kk (fun _ => hc_some (no nb)))
  · rcases g with y | ⟨y1, y2, y3, y4, y5⟩
    · exact absurd y.1 c
    refine hc_kk (fun _ => hc_cd (cy_night h hM) (fun s r2 g2 => ?_))
    obtain ⟨g0, g2⟩ := g2
    subst s
    refine hc_if (fun c2 => hc_some (no (fun z => ?_))) (fun c2 => hc_kk (fun _ => ?_))
    · rcases g2 with y | y
      · exact y.2 z.1.2
      · exact y.1 c2
    · rcases g2 with z | ⟨z1, z2, z3, z4, z5⟩
      · exact absurd z.1 c2
      refine hc_cd (cbx_has y3) (fun s r3 g3 => ?_)
      obtain ⟨g0, g3⟩ := g3
      subst s
      refine hc_if (fun d => hc_some (no (fun z => (yn_0 g3 d) z.2))) (fun d => ?_)
      obtain ⟨d1, d2, d3⟩ := yn_1 g3 d
      rcases H with u | ⟨-, fA, rn, K⟩
      · exact absurd ⟨⟨y2, z2⟩, d1⟩ u.1
      refine hc_cd (r_out y4 z4 y5 z5 y3 z3 rn) (fun s r4 e => hc_if (fun c => absurd c (by rw [e.1]; decide)) (fun _ => hc_lt (fun v ev => ?_)))
      rw [e.2.2.1.2.2.2.2.1.2] at ev
      rw [ev]
      exact K r r2 n s y5 z5 e.2.1.2.1 e.2.1.2.2.1
theorem e_who {σ σ2 : gb_S} {f f2 : gb_F} {w w2 : Int64} {p1 p2 p3 p4 ra qa : Int32} (_ : gb_TC σ) (hM : gb_TM f) (h : gb_R σ f) (ec : cs_Face_who gb_N σ p1 p2 p3 p4 = some (σ2, ra)) (em : ms_who gb_N f w p1 p2 p3 p4 = some (f2, w2, qa)) : ra = qa := c_who h hM (m_who (Nat.le_refl _) hM _ _ _ em) _ _ ec
