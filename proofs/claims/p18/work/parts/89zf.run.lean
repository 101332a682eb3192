/-! the run -/
def gb_Mb : Nat → Int
  | 0 => 0
  | k + 1 => gb_nb (gb_Mb k)
theorem Mb_0 : ∀ k, 0 ≤ gb_Mb k := by
  intro k
  induction k with
  | zero => exact Int.le_refl _
  | succ k ih =>
    show 0 ≤ gb_nb (gb_Mb k)
    unfold gb_nb
    omega
theorem Mb_s (k : Nat) : gb_Mb k ≤ gb_Mb (k + 1) := by
  show gb_Mb k ≤ gb_nb (gb_Mb k)
  have := Mb_0 k
  unfold gb_nb
  omega
theorem Mb_m : ∀ (d k : Nat), gb_Mb k ≤ gb_Mb (k + d) := by
  intro d
  induction d with
  | zero => exact fun _ => Int.le_refl _
  | succ d ih => exact fun k => Int.le_trans (ih k) (Mb_s (k + d))
theorem Mb_24 : gb_Mb 24 ≤ 100000 := by decide
theorem Mb_le {k : Nat} (h : k ≤ 24) : gb_Mb k ≤ 100000 := by
  have := Mb_m (24 - k) k
  rw [show k + (24 - k) = 24 by omega] at this
  exact Int.le_trans this Mb_24
theorem tr_24 {k : Nat} {f : gb_F} (h : k ≤ 24) (g : gb_tr (gb_Mb k) f) : gb_tr 100000 f := fun p hp => by
  have := Mb_le h
  exact ⟨gb_iw (g p hp).1 ⟨by omega, by omega⟩, gb_iw (g p hp).2 ⟨by omega, by omega⟩⟩
def gb_RU (R NR : Nat → Int32) (t : Prop) (σ s : gb_S) (f f2 : gb_F) : Prop := gb_PR R t s f2 ∧ gb_pfr σ s ∧ gb_mfr f f2 ∧ (f2 0 23).toInt ≤ gb_nD NR ∧ gb_tr 100000 f2
theorem r_run18 {n m k0 k1 : Nat} {R NR : Nat → Int32} {t : Prop} {v1 v4 v5 : Int32} (h5 : v5.toInt = if (NR 0).toInt < v1.toInt then (NR 0).toInt else v1.toInt) (hs : (t ∧ v4 = -1) ∨ (¬ t ∧ ∀ k : Nat, v4.toInt = k → NR (1 + 4 * k) = 0)) : ∀ (mm : Nat) (σ : gb_S) (f : gb_F) (v6 : Int32) (k : Nat), gb_PC k0 k1 R NR σ → gb_PM m R NR f → gb_PR R t σ f → f 0 24 = v4 → v6.toInt = k → f 0 23 = v6 → k ≤ gb_nD NR → gb_tr (gb_Mb k) f → gb_hc (cs_Play_run_B_N_18 n mm σ k1 v4 v5 v6) (fun s _ => ∀ (mm2 : Nat) (w : Int64), gb_hm (ms_runs_4 n mm2 f w v1) (fun f2 _ _ => gb_RU R NR t σ s f f2)) := by
  intro mm
  induction mm with
  | zero =>
    intros
    exact hc_none
  | succ mm ih =>
    intro σ f v6 k h hM hP hv e hd hk ht
    have hN := hM.2.2
    have nE := (rN_0 hN).1
    have nD := (rN_0 hN).2
    have hR := mbx_rB hM.1
    have dee : ∀ w : Int64, gb_hm (ms_deeds n f w) (fun f2 w2 r => f2 = f ∧ w2 = w ∧ r = NR 0) := fun w => by
      unfold ms_deeds
      refine hm_ck (fun _ _ => hm_lt (fun y ey => hm_some ⟨rfl, rfl, ?_⟩))
      rw [ey]
      exact mx_nnight hM.2.1
    rw [cs_Play_run_B_N_18]
    refine hc_kk (fun _ => hc_if (fun c => hc_some ?_) (fun c => ?_))
    · have c' := gi_le c
      intro mm2 w
      cases mm2 with
      | zero => exact hm_none
      | succ mm2 =>
        rw [ms_runs_4, hd]
        refine hm_if (fun _ => hm_some ⟨hP, pfr_r, mfr_r, by rw [hd]; omega, tr_24 (by omega) ht⟩) (fun d => hm_bd (dee w) (fun f1 w1 r g => ?_))
        obtain ⟨g1, g2, g3⟩ := g
        subst f1
        subst w1
        subst g3
        refine hm_if (fun _ => hm_some ⟨hP, pfr_r, mfr_r, by rw [hd]; omega, tr_24 (by omega) ht⟩) (fun d2 => ?_)
        have := gi_nle d
        have := gi_nle d2
        exfalso
        split at h5 <;> omega
    · have c' := gi_nle c
      have hkc : k < gb_nD NR := by
        split at h5 <;> omega
      have d1 : ¬ v1 ≤ v6 := fun z => by
        have := gi_le z
        split at h5 <;> omega
      have d2 : ¬ NR 0 ≤ v6 := fun z => by
        have := gi_le z
        split at h5 <;> omega
      have refr : ∀ (s : gb_S) (D : Prop) (mm2 : Nat) (w : Int64), (∀ w2 : Int64, gb_can1 R NR f k → gb_hm (gb_bd (ms_does n f w2 v6) (fun f_19 wl_20 _ => gb_lt (gb_u f_19 0 (upd (f_19 0) 23 ((f_19 0 23) + 1))) (fun f_24 => ms_runs_4 n mm2 f_24 wl_20 v1))) (fun f2 _ _ => gb_RU R NR t σ s f f2)) → (¬ gb_can1 R NR f k → gb_RU R NR t σ s f f) → gb_hm (ms_runs_4 n (mm2 + 1) f w v1) (fun f2 _ _ => gb_RU R NR t σ s f f2) := by
        intro s D mm2 w H1 H0
        rw [ms_runs_4, hd, if_neg d1]
        refine hm_bd (dee w) (fun f1 w1 r g => ?_)
        obtain ⟨g1, g2, g3⟩ := g
        subst f1
        subst w1
        subst g3
        rw [if_neg d2, hd]
        refine hm_bd (mh_can hM (fun g hg => (hP.2.1 g hg).1) (fun g p hg hp => (hP.2.2.2.1 g p hg hp).2) e (by omega)) (fun f1 w1 r g => ?_)
        obtain ⟨g1, g2, g3⟩ := g
        subst f1
        subst w1
        refine hm_if (fun z => hm_some (H0 (yn_0 g3 z))) (fun z => ?_)
        rw [hd]
        exact H1 w (yn_1 g3 z)
      refine hc_cd (ch_mayBe h hR hN hP e hkc) (fun s r g => ?_)
      obtain ⟨g1, g2⟩ := g
      subst s
      refine hc_if (fun z => hc_some ?_) (fun z => ?_)
      · have no := yn_0 g2 z
        intro mm2 w
        cases mm2 with
        | zero => exact hm_none
        | succ mm2 => exact refr σ True mm2 w (fun _ q => absurd q no) (fun _ => ⟨hP, pfr_r, mfr_r, by rw [hd]; omega, tr_24 (by omega) ht⟩)
      · have yes := yn_1 g2 z
        have step : ∀ p3 : Int32, (p3 = 0 → v6 = f 0 24 ∧ ¬ t ∧ NR (1 + 4 * k) = 0) → (¬ p3 = 0 → v6 ≠ f 0 24) → gb_hc (gb_cd (cs_Play_doDeed_N n σ k1 v6 p3) (fun s_20 _ => gb_lt (gb_su s_20 109 (upd (s_20.1 109) 11 (v6 + 1))) (fun s_24 => gb_lt (v6 + 1) (fun x_25 => cs_Play_run_B_N_18 n mm s_24 k1 v4 v5 x_25)))) (fun s _ => ∀ (mm2 : Nat) (w : Int64), gb_hm (ms_runs_4 n mm2 f w v1) (fun f2 _ _ => gb_RU R NR t σ s f f2)) := by
          intro p3 q0 q1
          refine hc_cd (hc_and (r_does h hM hP e hkc yes q0 q1) (fun s u es => es)) (fun s u g => ?_)
          obtain ⟨G, -⟩ := g
          refine hc_lt (fun s2 e2 => hc_lt (fun x ex => ?_))
          intro s3 u3 e3 mm2 w
          cases mm2 with
          | zero => exact hm_none
          | succ mm2 =>
            refine refr s3 True mm2 w (fun w2 _ => ?_) (fun q => absurd yes q)
            refine hm_bd (hm_and (G w2) (mh_does_tr hM (fun g hg => (hP.2.1 g hg).2) e hkc yes (Mb_0 k) (Mb_le (by omega)) ht w2)) (fun f2 w3 u2 DT => hm_lt (fun f4 e4 => ?_))
            obtain ⟨D, T⟩ := DT
            have e23 : f2 0 23 = v6 := D.2.2.2.trans hd
            rw [e23] at e4
            have P4 : gb_PR R t s2 f4 := by
              rw [e2, e4]
              exact PR_dn D.1
            have fr : gb_pfr σ s2 := by
              rw [e2]
              exact pfr_t D.2.1 (pfr_u (by decide))
            have mf : gb_mfr f f4 := by
              rw [e4]
              exact mfr_t D.2.2.1 (mfr_0 (by decide))
            have := ih s2 f4 x (k + 1) (PC_k h fr) (PM_k hM mf) P4 (by rw [mf.2.2.2.1]; exact hv) (gi_1 e (by omega) ex) (by rw [e4, gb_us, pk_us, ex]) (by omega) (fun p hp => by rw [e4, gb_un (by decide), gb_un (by decide)]; exact T p hp) s3 u3 e3 mm2 w3
            exact hm_mono this (fun f5 w5 u5 E => ⟨E.1, pfr_t fr E.2.1, mfr_t mf E.2.2.1, E.2.2.2⟩)
        refine hc_if (fun q => step 0 (fun _ => ?_) (fun y => absurd rfl y)) (fun q => step 1 (fun y => absurd y (by decide)) (fun _ y => q (by rw [y, hv])))
        rcases hs with hs | hs
        · exfalso
          rw [q, hs.2] at e
          have : ((-1 : Int32)).toInt = -1 := by decide
          omega
        · exact ⟨by rw [hv]; exact q, hs.1, hs.2 k (by rw [← q]; exact e)⟩
