/-! A NIGHT BEGINS -/
def gb_bo0 (R : Nat → Int32) (g : Nat) : Int32 := if g < gb_nG R then R (18 + 5 * g + 2) else 0
theorem bo0_i {R : Nat → Int32} {g : Nat} (h : gb_rB R) : gb_iv (-1) 60 (gb_bo0 R g) := by
  unfold gb_bo0
  have h8 := (rB_nG h).2
  by_cases c : g < gb_nG R
  · rw [if_pos c]
    exact gb_iw (rB_bo h (by omega)) (by decide)
  · rw [if_neg c]
    exact by unfold gb_iv; decide
theorem lt_sk {g k : Nat} (h : g < k + 1) : g < k ∨ g = k := by omega
theorem ch_fill116_5 {n : Nat} {v : Int32} : ∀ (mm : Nat) (σ : gb_S) (x : Int32) (k : Nat), x.toInt = k → k ≤ 5 → (∀ j, j < k → σ.1 116 j = v) → gb_hc (cs_java_util_Arrays_fill_c116_5 n mm σ v x 5) (fun s _ => s.2 = σ.2 ∧ (∀ i, i ≠ 116 → s.1 i = σ.1 i) ∧ ∀ j, j < 5 → s.1 116 j = v) := by
  intro mm
  induction mm with
  | zero =>
    intros
    exact hc_none
  | succ mm ih =>
    intro σ x k e hk h
    have c5 : (5 : Int32).toInt = 5 := by decide
    rw [cs_java_util_Arrays_fill_c116_5]
    refine hc_if (fun c => hc_some ⟨rfl, fun _ _ => rfl, fun j hj => h j ?_⟩) (fun c => hc_ck (fun _ _ => hc_lt (fun s es => hc_lt (fun y ey => ?_))))
    · have := gi_le c
      omega
    · have := gi_nle c
      rw [gi_tn e] at es
      refine hc_mono (ih s y (k + 1) (gi_1 e (by omega) ey) (by omega) (fun j hj => ?_)) (fun s2 u g => ⟨?_, fun i hi => ?_, g.2.2⟩)
      · rw [es, gb_sus]
        rcases lt_sk hj with q | q
        · rw [pk_un (by omega)]
          exact h j q
        · rw [q, pk_us]
      · rw [g.1, es]
        rfl
      · rw [g.2.1 i hi, es, gb_sun hi]
theorem ch_fill116 {n : Nat} {σ : gb_S} {v : Int32} : gb_hc (cs_java_util_Arrays_fill_c116 n σ v) (fun s _ => s.2 = σ.2 ∧ (∀ i, i ≠ 116 → s.1 i = σ.1 i) ∧ ∀ j, j < 5 → s.1 116 j = v) := by
  unfold cs_java_util_Arrays_fill_c116
  exact ch_fill116_5 n σ 0 0 (by decide) (by decide) (fun j hj => absurd hj (by omega))
theorem ch_fill117_5 {n : Nat} {v : Int32} : ∀ (mm : Nat) (σ : gb_S) (x : Int32) (k : Nat), x.toInt = k → k ≤ 5 → (∀ j, j < k → σ.1 117 j = v) → gb_hc (cs_java_util_Arrays_fill_c117_5 n mm σ v x 5) (fun s _ => s.2 = σ.2 ∧ (∀ i, i ≠ 117 → s.1 i = σ.1 i) ∧ ∀ j, j < 5 → s.1 117 j = v) := by
  intro mm
  induction mm with
  | zero =>
    intros
    exact hc_none
  | succ mm ih =>
    intro σ x k e hk h
    have c5 : (5 : Int32).toInt = 5 := by decide
    rw [cs_java_util_Arrays_fill_c117_5]
    refine hc_if (fun c => hc_some ⟨rfl, fun _ _ => rfl, fun j hj => h j ?_⟩) (fun c => hc_ck (fun _ _ => hc_lt (fun s es => hc_lt (fun y ey => ?_))))
    · have := gi_le c
      omega
    · have := gi_nle c
      rw [gi_tn e] at es
      refine hc_mono (ih s y (k + 1) (gi_1 e (by omega) ey) (by omega) (fun j hj => ?_)) (fun s2 u g => ⟨?_, fun i hi => ?_, g.2.2⟩)
      · rw [es, gb_sus]
        rcases lt_sk hj with q | q
        · rw [pk_un (by omega)]
          exact h j q
        · rw [q, pk_us]
      · rw [g.1, es]
        rfl
      · rw [g.2.1 i hi, es, gb_sun hi]
theorem ch_fill117 {n : Nat} {σ : gb_S} {v : Int32} : gb_hc (cs_java_util_Arrays_fill_c117 n σ v) (fun s _ => s.2 = σ.2 ∧ (∀ i, i ≠ 117 → s.1 i = σ.1 i) ∧ ∀ j, j < 5 → s.1 117 j = v) := by
  unfold cs_java_util_Arrays_fill_c117
  exact ch_fill117_5 n σ 0 0 (by decide) (by decide) (fun j hj => absurd hj (by omega))
theorem ch_fill118_5 {n : Nat} {v : Int32} : ∀ (mm : Nat) (σ : gb_S) (x : Int32) (k : Nat), x.toInt = k → k ≤ 5 → (∀ j, j < k → σ.1 118 j = v) → gb_hc (cs_java_util_Arrays_fill_c118_5 n mm σ v x 5) (fun s _ => s.2 = σ.2 ∧ (∀ i, i ≠ 118 → s.1 i = σ.1 i) ∧ ∀ j, j < 5 → s.1 118 j = v) := by
  intro mm
  induction mm with
  | zero =>
    intros
    exact hc_none
  | succ mm ih =>
    intro σ x k e hk h
    have c5 : (5 : Int32).toInt = 5 := by decide
    rw [cs_java_util_Arrays_fill_c118_5]
    refine hc_if (fun c => hc_some ⟨rfl, fun _ _ => rfl, fun j hj => h j ?_⟩) (fun c => hc_ck (fun _ _ => hc_lt (fun s es => hc_lt (fun y ey => ?_))))
    · have := gi_le c
      omega
    · have := gi_nle c
      rw [gi_tn e] at es
      refine hc_mono (ih s y (k + 1) (gi_1 e (by omega) ey) (by omega) (fun j hj => ?_)) (fun s2 u g => ⟨?_, fun i hi => ?_, g.2.2⟩)
      · rw [es, gb_sus]
        rcases lt_sk hj with q | q
        · rw [pk_un (by omega)]
          exact h j q
        · rw [q, pk_us]
      · rw [g.1, es]
        rfl
      · rw [g.2.1 i hi, es, gb_sun hi]
theorem ch_fill118 {n : Nat} {σ : gb_S} {v : Int32} : gb_hc (cs_java_util_Arrays_fill_c118 n σ v) (fun s _ => s.2 = σ.2 ∧ (∀ i, i ≠ 118 → s.1 i = σ.1 i) ∧ ∀ j, j < 5 → s.1 118 j = v) := by
  unfold cs_java_util_Arrays_fill_c118
  exact ch_fill118_5 n σ 0 0 (by decide) (by decide) (fun j hj => absurd hj (by omega))
theorem ch_fill119_5 {n : Nat} {v : Int32} : ∀ (mm : Nat) (σ : gb_S) (x : Int32) (k : Nat), x.toInt = k → k ≤ 40 → (∀ j, j < k → σ.1 119 j = v) → gb_hc (cs_java_util_Arrays_fill_c119_5 n mm σ v x 40) (fun s _ => s.2 = σ.2 ∧ (∀ i, i ≠ 119 → s.1 i = σ.1 i) ∧ ∀ j, j < 40 → s.1 119 j = v) := by
  intro mm
  induction mm with
  | zero =>
    intros
    exact hc_none
  | succ mm ih =>
    intro σ x k e hk h
    have c5 : (40 : Int32).toInt = 40 := by decide
    rw [cs_java_util_Arrays_fill_c119_5]
    refine hc_if (fun c => hc_some ⟨rfl, fun _ _ => rfl, fun j hj => h j ?_⟩) (fun c => hc_ck (fun _ _ => hc_lt (fun s es => hc_lt (fun y ey => ?_))))
    · have := gi_le c
      omega
    · have := gi_nle c
      rw [gi_tn e] at es
      refine hc_mono (ih s y (k + 1) (gi_1 e (by omega) ey) (by omega) (fun j hj => ?_)) (fun s2 u g => ⟨?_, fun i hi => ?_, g.2.2⟩)
      · rw [es, gb_sus]
        rcases lt_sk hj with q | q
        · rw [pk_un (by omega)]
          exact h j q
        · rw [q, pk_us]
      · rw [g.1, es]
        rfl
      · rw [g.2.1 i hi, es, gb_sun hi]
theorem ch_fill119 {n : Nat} {σ : gb_S} {v : Int32} : gb_hc (cs_java_util_Arrays_fill_c119 n σ v) (fun s _ => s.2 = σ.2 ∧ (∀ i, i ≠ 119 → s.1 i = σ.1 i) ∧ ∀ j, j < 40 → s.1 119 j = v) := by
  unfold cs_java_util_Arrays_fill_c119
  exact ch_fill119_5 n σ 0 0 (by decide) (by decide) (fun j hj => absurd hj (by omega))
def gb_beC (R : Nat → Int32) (σ s : gb_S) : Prop := s.2 = σ.2 ∧ (∀ k, k < 109 → s.1 k = σ.1 k) ∧ (∀ g, g < 8 → s.1 112 g = 0 ∧ s.1 113 g = gb_bo0 R g ∧ s.1 114 g = 0 ∧ s.1 115 g = -1) ∧ (∀ p, p < 5 → s.1 116 p = 0 ∧ s.1 117 p = 0 ∧ s.1 118 p = 0) ∧ (∀ j, j < 40 → s.1 119 j = 0) ∧ s.1 109 9 = 0 ∧ s.1 109 10 = 0 ∧ s.1 109 11 = 0
theorem ch_begin7 {n k0 : Nat} {R : Nat → Int32} (hR : gb_rB R) : ∀ (mm : Nat) (σ : gb_S) (x : Int32) (k : Nat), x.toInt = k → k ≤ 8 → k0 + 1 < 109 → gb_cbx k0 R σ → (∀ g, g < k → σ.1 112 g = 0 ∧ σ.1 113 g = gb_bo0 R g ∧ σ.1 114 g = 0 ∧ σ.1 115 g = -1) → gb_hc (cs_Play_begin_B_7 n mm σ k0 x) (fun s _ => gb_beC R σ s) := by
  intro mm
  induction mm with
  | zero =>
    intros
    exact hc_none
  | succ mm ih =>
    intro σ x k e hk k9 hb h
    have c8 : (8 : Int32).toInt = 8 := by decide
    rw [cs_Play_begin_B_7]
    refine hc_kk (fun _ => hc_if (fun c => ?_) (fun c => ?_))
    · have := gi_le c
      refine hc_cd ch_fill116 (fun s1 _ g1 => hc_cd ch_fill117 (fun s2 _ g2 => hc_cd ch_fill118 (fun s3 _ g3 => hc_cd ch_fill119 (fun s4 _ g4 => hc_lt (fun s5 e5 => hc_lt (fun s6 e6 => hc_lt (fun s7 e7 => hc_some ?_)))))))
      have a : ∀ i, i ≠ 109 → s7.1 i = s4.1 i := fun i hi => by rw [e7, gb_sun hi, e6, gb_sun hi, e5, gb_sun hi]
      have b : ∀ i, i ≠ 109 → i ≠ 116 → i ≠ 117 → i ≠ 118 → i ≠ 119 → s7.1 i = σ.1 i := fun i h1 h2 h3 h4 h5 => by rw [a i h1, g4.2.1 i h5, g3.2.1 i h4, g2.2.1 i h3, g1.2.1 i h2]
      refine ⟨?_, fun i hi => b i (by omega) (by omega) (by omega) (by omega) (by omega), fun g hg => ?_, fun p hp => ⟨?_, ?_, ?_⟩, fun j hj => ?_, ?_, ?_, ?_⟩
      · have : s7.2 = s4.2 := by rw [e7, e6, e5]; rfl
        rw [this, g4.1, g3.1, g2.1, g1.1]
      · rw [b 112 (by decide) (by decide) (by decide) (by decide) (by decide), b 113 (by decide) (by decide) (by decide) (by decide) (by decide), b 114 (by decide) (by decide) (by decide) (by decide) (by decide), b 115 (by decide) (by decide) (by decide) (by decide) (by decide)]
        exact h g (by omega)
      · rw [a 116 (by decide), g4.2.1 116 (by decide), g3.2.1 116 (by decide), g2.2.1 116 (by decide)]
        exact g1.2.2 p hp
      · rw [a 117 (by decide), g4.2.1 117 (by decide), g3.2.1 117 (by decide)]
        exact g2.2.2 p hp
      · rw [a 118 (by decide), g4.2.1 118 (by decide)]
        exact g3.2.2 p hp
      · rw [a 119 (by decide)]
        exact g4.2.2 j hj
      · rw [e7, gb_sus, pk_un (by decide), e6, gb_sus, pk_un (by decide), e5, gb_sus, pk_us]
      · rw [e7, gb_sus, pk_un (by decide), e6, gb_sus, pk_us]
      · rw [e7, gb_sus, pk_us]
    · have k8 := gi_nle c
      refine hc_ck (fun _ _ => hc_lt (fun s1 e1 => ?_))
      have hb1 : gb_cbx k0 R s1 := by
        unfold gb_cbx
        rw [e1, gb_sun (by omega)]
        exact hb
      refine hc_cd (cbx_hasG hb1) (fun s r q => ?_)
      obtain ⟨q1, q2⟩ := q
      subst s
      have tail : ∀ (v : Int32), v = gb_bo0 R k → gb_hc (gb_ck x 8 (gb_lt (gb_su s1 113 (upd (s1.1 113) (Int32.toNatClampNeg x) v)) (fun s_32 => gb_ck x 8 (gb_lt (gb_su s_32 114 (upd (s_32.1 114) (Int32.toNatClampNeg x) 0)) (fun s_34 => gb_ck x 8 (gb_lt (gb_su s_34 115 (upd (s_34.1 115) (Int32.toNatClampNeg x) (-1))) (fun s_36 => gb_lt (x + 1) (fun x_37 => cs_Play_begin_B_7 n mm s_36 k0 x_37)))))))) (fun s _ => gb_beC R σ s) := by
        intro v ev
        refine hc_ck (fun _ _ => hc_lt (fun s2 e2 => hc_ck (fun _ _ => hc_lt (fun s3 e3 => hc_ck (fun _ _ => hc_lt (fun s4 e4 => hc_lt (fun y ey => ?_)))))))
        rw [gi_tn e] at e1 e2 e3 e4
        subst e4
        subst e3
        subst e2
        subst e1
        refine hc_mono (ih _ y (k + 1) (gi_1 e (by omega) ey) (by omega) k9 ?_ (fun g hg => ⟨?_, ?_, ?_, ?_⟩)) (fun s u G => ?_)
        · unfold gb_cbx
          rw [gb_sun (by omega), gb_sun (by omega), gb_sun (by omega), gb_sun (by omega)]
          exact hb
        · rw [gb_sun (by decide), gb_sun (by decide), gb_sun (by decide), gb_sus]
          rcases lt_sk hg with z | z
          · rw [pk_un (by omega)]
            exact (h g z).1
          · rw [z, pk_us]
        · rw [gb_sun (by decide), gb_sun (by decide), gb_sus, gb_sun (by decide)]
          rcases lt_sk hg with z | z
          · rw [pk_un (by omega)]
            exact (h g z).2.1
          · rw [z, pk_us, ev]
        · rw [gb_sun (by decide), gb_sus, gb_sun (by decide), gb_sun (by decide)]
          rcases lt_sk hg with z | z
          · rw [pk_un (by omega)]
            exact (h g z).2.2.1
          · rw [z, pk_us]
        · rw [gb_sus, gb_sun (by decide), gb_sun (by decide), gb_sun (by decide)]
          rcases lt_sk hg with z | z
          · rw [pk_un (by omega)]
            exact (h g z).2.2.2
          · rw [z, pk_us]
        · refine ⟨G.1, fun i hi => ?_, G.2.2⟩
          rw [G.2.1 i hi, gb_sun (by omega), gb_sun (by omega), gb_sun (by omega), gb_sun (by omega)]
      refine hc_if (fun c2 => tail 0 ?_) (fun c2 => ?_)
      · have no := yn_0 q2 c2
        unfold gb_bo0
        rw [if_neg (fun z => no ⟨by omega, by unfold gb_nG at z; omega⟩)]
      · obtain ⟨a1, a2, a3⟩ := yn_1 q2 c2
        have ek : x.toInt.toNat = k := by omega
        rw [ek] at a3
        refine hc_cd (ch_boots hb1 hR e a3) (fun s r q => ?_)
        obtain ⟨q1, q3⟩ := q
        subst s
        exact tail r (by rw [q3]; unfold gb_bo0; rw [if_pos a3])
theorem ch_begin {n k0 : Nat} {R : Nat → Int32} {σ : gb_S} (hR : gb_rB R) (k9 : k0 + 1 < 109) (hb : gb_cbx k0 R σ) : gb_hc (cs_Play_begin_B n σ k0) (fun s _ => gb_beC R (gb_sq σ 1 k0) s) := by
  unfold cs_Play_begin_B
  refine hc_kk (fun _ => hc_lt (fun s es => ?_))
  subst es
  exact ch_begin7 hR n _ 0 0 (by decide) (by decide) k9 hb (fun g hg => absurd hg (by omega))
def gb_beM (R : Nat → Int32) (f f2 : gb_F) : Prop := gb_mfr f f2 ∧ (∀ g, g < 8 → f2 4 g = 0 ∧ f2 5 g = gb_bo0 R g ∧ f2 6 g = 0 ∧ f2 7 g = -1 ∧ (¬ f2 8 g = 0 ↔ 0 < (gb_bo0 R g).toInt) ∧ ∀ p, p < 5 → f2 9 (5 * g + p) = -1) ∧ (∀ p, p < 5 → f2 10 p = 0 ∧ f2 11 p = 0 ∧ f2 12 p = 0) ∧ f2 0 22 = 0 ∧ f2 0 23 = 0
def gb_beG (R : Nat → Int32) (f : gb_F) (g : Nat) : Prop := f 4 g = 0 ∧ f 5 g = gb_bo0 R g ∧ f 6 g = 0 ∧ f 7 g = -1 ∧ (¬ f 8 g = 0 ↔ 0 < (gb_bo0 R g).toInt) ∧ ∀ p, p < 5 → f 9 (5 * g + p) = -1
theorem mh_begins105 {n : Nat} {R : Nat → Int32} : ∀ (mm : Nat) (f : gb_F) (w : Int64) (x : Int32) (k : Nat), x.toInt = k → k ≤ 5 → (∀ g, g < 8 → gb_beG R f g) → (∀ p, p < k → f 10 p = 0 ∧ f 11 p = 0 ∧ f 12 p = 0) → gb_hm (ms_begins_105 n mm f w x) (fun f2 _ _ => gb_beM R f f2) := by
  intro mm
  induction mm with
  | zero =>
    intros
    exact hm_none
  | succ mm ih =>
    intro f w x k e hk hG h
    have c5 : (5 : Int32).toInt = 5 := by decide
    rw [ms_begins_105]
    refine hm_if (fun c => hm_lt (fun f1 d1 => hm_lt (fun f2 d2 => hm_some ?_))) (fun c => ?_)
    · have := gi_le c
      have a : ∀ i, i ≠ 0 → f2 i = f i := fun i hi => by rw [d2, gb_un hi, d1, gb_un hi]
      refine ⟨?_, fun g hg => ?_, fun p hp => ?_, ?_, ?_⟩
      · rw [d2, d1]
        exact mfr_t (mfr_0 (by decide)) (mfr_0 (by decide))
      · have := hG g hg
        unfold gb_beG at this
        rw [a 4 (by decide), a 5 (by decide), a 6 (by decide), a 7 (by decide), a 8 (by decide), a 9 (by decide)]
        exact this
      · rw [a 10 (by decide), a 11 (by decide), a 12 (by decide)]
        exact h p (by omega)
      · rw [d2, gb_us, pk_un (by decide), d1, gb_us, pk_us]
      · rw [d2, gb_us, pk_us]
    · have := gi_nle c
      refine hm_ck (fun _ _ => hm_lt (fun f1 d1 => hm_ck (fun _ _ => hm_lt (fun f2 d2 => hm_ck (fun _ _ => hm_lt (fun f3 d3 => hm_lt (fun y ey => ?_)))))))
      rw [gi_tn e] at d1 d2 d3
      have a : ∀ i, i ≠ 10 → i ≠ 11 → i ≠ 12 → f3 i = f i := fun i h1 h2 h3 => by rw [d3, gb_un h3, d2, gb_un h2, d1, gb_un h1]
      refine hm_mono (ih f3 w y (k + 1) (gi_1 e (by omega) ey) (by omega) (fun g hg => ?_) (fun p hp => ⟨?_, ?_, ?_⟩)) (fun f4 w4 u G => ⟨mfr_t ?_ G.1, G.2⟩)
      · unfold gb_beG
        rw [a 4 (by decide) (by decide) (by decide), a 5 (by decide) (by decide) (by decide), a 6 (by decide) (by decide) (by decide), a 7 (by decide) (by decide) (by decide), a 8 (by decide) (by decide) (by decide), a 9 (by decide) (by decide) (by decide)]
        exact hG g hg
      · rw [d3, gb_un (by decide), d2, gb_un (by decide), d1, gb_us]
        rcases lt_sk hp with z | z
        · rw [pk_un (by omega)]
          exact (h p z).1
        · rw [z, pk_us]
      · rw [d3, gb_un (by decide), d2, gb_us, d1, gb_un (by decide)]
        rcases lt_sk hp with z | z
        · rw [pk_un (by omega)]
          exact (h p z).2.1
        · rw [z, pk_us]
      · rw [d3, gb_us, d2, gb_un (by decide), d1, gb_un (by decide)]
        rcases lt_sk hp with z | z
        · rw [pk_un (by omega)]
          exact (h p z).2.2
        · rw [z, pk_us]
      · rw [d3, d2, d1]
        exact mfr_t (mfr_t (mfr_u (by decide)) (mfr_u (by decide))) (mfr_u (by decide))
theorem mh_begins75 {n g : Nat} {k2 : gb_F → Int64 → Int32 → gb_MR Unit} {Q : gb_F → Int64 → Unit → Prop} {v1 : Int32} (e1 : v1.toInt = g) (hg : g < 8) (f0 : gb_F) : ∀ (mm : Nat) (f : gb_F) (w : Int64) (x : Int32) (k : Nat), x.toInt = k → k ≤ 5 → (∀ i, i ≠ 9 → f i = f0 i) → (∀ j, ¬ (5 * g ≤ j ∧ j < 5 * g + 5) → f 9 j = f0 9 j) → (∀ p, p < k → f 9 (5 * g + p) = -1) → (∀ (f2 : gb_F) (w2 : Int64), (∀ i, i ≠ 9 → f2 i = f0 i) → (∀ j, ¬ (5 * g ≤ j ∧ j < 5 * g + 5) → f2 9 j = f0 9 j) → (∀ p, p < 5 → f2 9 (5 * g + p) = -1) → gb_hm (k2 f2 w2 (v1 + 1)) Q) → gb_hm (ms_begins_75 n k2 mm f w v1 x) Q := by
  intro mm
  induction mm with
  | zero =>
    intros
    exact hm_none
  | succ mm ih =>
    intro f w x k e hk h1 h2 h3 H
    have c5 : (5 : Int32).toInt = 5 := by decide
    rw [ms_begins_75]
    refine hm_if (fun c => hm_lt (fun y ey => ?_)) (fun c => ?_)
    · have := gi_le c
      rw [ey]
      exact H f w h1 h2 (fun p hp => h3 p (by omega))
    · have := gi_nle c
      refine hm_ck (fun _ _ => hm_lt (fun f1 d1 => hm_lt (fun y ey => ?_)))
      rw [gi_tn (gi_5g e1 e hg (by omega))] at d1
      refine ih f1 w y (k + 1) (gi_1 e (by omega) ey) (by omega) (fun i hi => ?_) (fun j hj => ?_) (fun p hp => ?_) H
      · rw [d1, gb_un hi]
        exact h1 i hi
      · rw [d1, gb_us, pk_un (by omega)]
        exact h2 j hj
      · rw [d1, gb_us]
        rcases lt_sk hp with z | z
        · rw [pk_un (by omega)]
          exact h3 p z
        · rw [z, pk_us]
theorem mh_begins2 {n m : Nat} {R : Nat → Int32} : ∀ (mm : Nat) (f : gb_F) (w : Int64) (x : Int32) (k : Nat), gb_mbx m R f → x.toInt = k → k ≤ 8 → (∀ g, g < k → gb_beG R f g) → gb_hm (ms_begins_2 n mm f w x) (fun f2 _ _ => gb_beM R f f2) := by
  intro mm
  induction mm with
  | zero =>
    intros
    exact hm_none
  | succ mm ih =>
    intro f w x k hb e hk hG
    have c8 : (8 : Int32).toInt = 8 := by decide
    have hR := mbx_rB hb
    rw [ms_begins_2]
    refine hm_if (fun c => ?_) (fun c => ?_)
    · have := gi_le c
      exact mh_begins105 n f w 0 0 (by decide) (by decide) (fun g hg => hG g (by omega)) (fun p hp => absurd hp (by omega))
    · have k8 := gi_nle c
      refine hm_ck (fun _ _ => hm_lt (fun f1 d1 => ?_))
      rw [gi_tn e] at d1
      have mk : ∀ f2 : gb_F, f2 1 = f 1 → f2 0 = f 0 → gb_mbx m R f2 := fun f2 q1 q0 => ⟨hb.1, hb.2.1, by have := hb.2.2.1; unfold gb_mb at this ⊢; rw [q0]; exact this, fun j => by rw [q1]; exact hb.2.2.2 j⟩
      have hb1 : gb_mbx m R f1 := mk f1 (by rw [d1, gb_un (by decide)]) (by rw [d1, gb_un (by decide)])
      have tail : ∀ (v : Int32) (u : Int64), v = gb_bo0 R k → gb_hm (ms_begins_38 n (fun f w v1 => ms_begins_2 n mm f w v1) f1 u x v x) (fun f2 _ _ => gb_beM R f f2) := by
        intro v u ev
        unfold ms_begins_38
        rw [gi_tn e]
        refine hm_ck (fun _ _ => hm_lt (fun f2 d2 => hm_ck (fun _ _ => hm_lt (fun y dy => ?_))))
        rw [d2, gb_us, pk_us, ev] at dy
        have last : ∀ (b : Int32) (f5 : gb_F), (¬ b = 0 ↔ 0 < (gb_bo0 R k).toInt) → f5 = gb_u (gb_u (gb_u f2 8 (upd (f2 8) k b)) 6 (upd (f2 6) k 0)) 7 (upd (f2 7) k (-1)) → gb_hm (ms_begins_75 n (fun f w v1 => ms_begins_2 n mm f w v1) n f5 u x 0) (fun f2 _ _ => gb_beM R f f2) := by
          intro b f5 hb8 d5
          refine mh_begins75 (g := k) e (by omega) f5 n f5 u 0 0 (by decide) (by decide) (fun _ _ => rfl) (fun _ _ => rfl) (fun p hp => absurd hp (by omega)) (fun f6 w6 a1 a2 a3 => ?_)
          have cells : ∀ i, i ≠ 9 → i ≠ 8 → i ≠ 7 → i ≠ 6 → i ≠ 5 → i ≠ 4 → f6 i = f i := fun i h9 h8 h7 h6 h5 h4 => by rw [a1 i h9, d5, gb_un h7, gb_un h6, gb_un h8, d2, gb_un h5, d1, gb_un h4]
          have i4 : f6 4 = upd (f 4) k 0 := by rw [a1 4 (by decide), d5, gb_un (by decide), gb_un (by decide), gb_un (by decide), d2, gb_un (by decide), d1, gb_us]
          have i5 : f6 5 = upd (f 5) k (gb_bo0 R k) := by rw [a1 5 (by decide), d5, gb_un (by decide), gb_un (by decide), gb_un (by decide), d2, gb_us, d1, gb_un (by decide), ev]
          have i6 : f6 6 = upd (f 6) k 0 := by rw [a1 6 (by decide), d5, gb_un (by decide), gb_us, d2, gb_un (by decide), d1, gb_un (by decide)]
          have i7 : f6 7 = upd (f 7) k (-1) := by rw [a1 7 (by decide), d5, gb_us, d2, gb_un (by decide), d1, gb_un (by decide)]
          have i8 : f6 8 = upd (f 8) k b := by rw [a1 8 (by decide), d5, gb_un (by decide), gb_un (by decide), gb_us, d2, gb_un (by decide), d1, gb_un (by decide)]
          have i9 : f5 9 = f 9 := by rw [d5, gb_un (by decide), gb_un (by decide), gb_un (by decide), d2, gb_un (by decide), d1, gb_un (by decide)]
          have c0 := cells 0 (by decide) (by decide) (by decide) (by decide) (by decide) (by decide)
          have c1 := cells 1 (by decide) (by decide) (by decide) (by decide) (by decide) (by decide)
          have c2 := cells 2 (by decide) (by decide) (by decide) (by decide) (by decide) (by decide)
          refine hm_mono (ih f6 w6 (x + 1) (k + 1) (mk f6 c1 c0) (gi_1 e (by omega) rfl) (by omega) (fun g hg => ?_)) (fun f7 w7 u7 G => ⟨mfr_t ⟨c1, by rw [c0], by rw [c0], by rw [c0], c2⟩ G.1, G.2⟩)
          unfold gb_beG
          rw [i4, i5, i6, i7, i8]
          rcases lt_sk hg with z | z
          · rw [pk_un (by omega), pk_un (by omega), pk_un (by omega), pk_un (by omega), pk_un (by omega)]
            obtain ⟨o1, o2, o3, o4, o5, o6⟩ := hG g z
            refine ⟨o1, o2, o3, o4, o5, fun p hp => ?_⟩
            rw [a2 _ (by omega), i9]
            exact o6 p hp
          · subst z
            rw [pk_us, pk_us, pk_us, pk_us, pk_us]
            exact ⟨rfl, rfl, rfl, rfl, hb8, a3⟩
        refine hm_if (fun c2 => ?_) (fun c2 => ?_)
        · have q := gi_le c2
          rw [dy] at q
          have z0 : (0 : Int32).toInt = 0 := by decide
          refine hm_ck (fun _ _ => hm_lt (fun f3 d3 => hm_ck (fun _ _ => hm_lt (fun f4 d4 => hm_ck (fun _ _ => hm_lt (fun f5 d5 => last (vp_nar .boolean 0) f5 ⟨fun z => absurd (by decide) z, fun z => by omega⟩ ?_))))))
          subst d5
          subst d4
          subst d3
          rw [gb_un (show (6 : Nat) ≠ 8 by decide), gb_un (show (7 : Nat) ≠ 6 by decide), gb_un (show (7 : Nat) ≠ 8 by decide)]
        · have q := gi_nle c2
          rw [dy] at q
          have z0 : (0 : Int32).toInt = 0 := by decide
          refine hm_ck (fun _ _ => hm_lt (fun f3 d3 => hm_ck (fun _ _ => hm_lt (fun f4 d4 => hm_ck (fun _ _ => hm_lt (fun f5 d5 => last (vp_nar .boolean 1) f5 ⟨fun _ => by omega, fun _ => by decide⟩ ?_))))))
          subst d5
          subst d4
          subst d3
          rw [gb_un (show (6 : Nat) ≠ 8 by decide), gb_un (show (7 : Nat) ≠ 6 by decide), gb_un (show (7 : Nat) ≠ 8 by decide)]
      refine hm_bd (mbx_hasG hb1) (fun f2 w2 r q => ?_)
      obtain ⟨q1, q2, q3⟩ := q
      subst f2
      subst w2
      refine hm_if (fun c2 => tail 0 w ?_) (fun c2 => ?_)
      · have no := yn_0 q3 c2
        unfold gb_bo0
        rw [if_neg (fun z => no ⟨by omega, by unfold gb_nG at z; omega⟩)]
      · obtain ⟨a1, a2, a3⟩ := yn_1 q3 c2
        have ek : x.toInt.toNat = k := by omega
        rw [ek] at a3
        refine hm_bd (mx_ofGoose hb1 e (by omega) (j := 2) (by decide) (by decide)) (fun f2 w2 r q => ?_)
        obtain ⟨q1, q2, q4⟩ := q
        subst f2
        subst w2
        exact tail r w (by rw [q4]; unfold gb_bo0; rw [if_pos a3])
theorem mh_begins {n m : Nat} {R : Nat → Int32} {f : gb_F} {w : Int64} (hb : gb_mbx m R f) : gb_hm (ms_begins n f w) (fun f2 _ _ => gb_beM R f f2) := by
  unfold ms_begins
  exact mh_begins2 n f w 0 0 hb (by decide) (by decide) (fun g hg => absurd hg (by omega))
theorem PR_0 {R : Nat → Int32} {t : Prop} {σ s : gb_S} {f f2 : gb_F} (hR : gb_rB R) (A : gb_beC R σ s) (B : gb_beM R f f2) : gb_PR R t s f2 := by
  obtain ⟨a1, a2, a3, a4, a5, a6, a7, a8⟩ := A
  obtain ⟨b1, b2, b3, b4, b5⟩ := B
  have h8 := (rB_nG hR).2
  refine ⟨fun g hg => ?_, fun g hg => ?_, fun p hp => ?_, fun g p hg hp => ?_, ?_, fun g hg => ?_⟩
  · obtain ⟨x1, x2, x3, x4⟩ := a3 g hg
    obtain ⟨y1, y2, y3, y4, y5, y6⟩ := b2 g hg
    rw [x1, x2, x3, x4, y1, y2, y3, y4]
    exact ⟨rfl, rfl, fun _ => rfl, rfl⟩
  · obtain ⟨y1, y2, y3, y4, y5, y6⟩ := b2 g hg
    rw [y1, y2]
    exact ⟨by unfold gb_iv; decide, bo0_i hR⟩
  · obtain ⟨x1, x2, x3⟩ := a4 p hp
    obtain ⟨y1, y2, y3⟩ := b3 p hp
    rw [x1, x2, x3, y1, y2, y3]
    exact ⟨rfl, rfl, rfl⟩
  · rw [a5 _ (by omega), (b2 g hg).2.2.2.2.2 p hp]
    exact ⟨by decide, by unfold gb_iv; decide⟩
  · rw [a7, a8, b4, b5]
    exact ⟨rfl, rfl⟩
  · rw [(b2 g (by omega)).2.2.2.2.1, a6]
    have e0 : gb_tbt 0 g = false := by
      unfold gb_tbt
      exact BitVec.getLsbD_zero
    rw [e0]
    unfold gb_bo0
    rw [if_pos hg]
    exact ⟨fun z => Or.inl z, fun z => z.elim id (fun y => absurd y (by decide))⟩
