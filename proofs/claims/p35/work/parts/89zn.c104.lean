/-! THE NIGHT AT 104 IS A NIGHT AS THE OTHERS ARE -/
theorem kk_t {ρ : Type} {x : gb_CR ρ} : gb_kk true x = x := rfl
theorem kN_104 : gb_kN 104 = true := by decide
theorem c4_cell {n : Nat} {σ : gb_S} {a b : Int32} : cs_Lines_cell_N n σ 104 a b = cs_Lines_cell n σ a b := by
  unfold cs_Lines_cell_N cs_Lines_cell
  rw [kN_104, kk_t]
theorem c4_kind {n : Nat} {σ : gb_S} {a : Int32} : cs_Lines_kind_N n σ 104 a = cs_Lines_kind n σ a := by
  unfold cs_Lines_kind_N cs_Lines_kind
  rw [kN_104, kk_t, c4_cell]
theorem c4_size {n : Nat} {σ : gb_S} : cs_Lines_size_N n σ 104 = cs_Lines_size n σ := by
  unfold cs_Lines_size_N cs_Lines_size
  rw [kN_104, kk_t]
theorem c4_can {n : Nat} {σ : gb_S} {x : Int32} : cs_Play_canBe_N n σ 104 x = cs_Play_canBe_c104 n σ x := by
  unfold cs_Play_canBe_N cs_Play_canBe_c104
  simp only [kN_104, kk_t, c4_cell, c4_kind]
theorem c4_do {n : Nat} {σ : gb_S} {x p : Int32} : cs_Play_doDeed_N n σ 104 x p = cs_Play_doDeed_c104 n σ x p := by
  unfold cs_Play_doDeed_N cs_Play_doDeed_c104
  simp only [kN_104, kk_t, c4_cell, c4_kind]
theorem c4_18 {n : Nat} : ∀ (mm : Nat) (σ : gb_S) (a b c : Int32), cs_Play_run_B_N_18 n mm σ 104 a b c = cs_Play_run_B_c104_18 n mm σ a b c := by
  intro mm
  induction mm with
  | zero =>
    intros
    rfl
  | succ mm ih =>
    intro σ a b c
    rw [cs_Play_run_B_N_18, cs_Play_run_B_c104_18]
    simp only [kN_104, kk_t, c4_can, c4_do, ih]
theorem c4_run {n k0 : Nat} {σ : gb_S} {a b : Int32} : cs_Play_run_B_N n σ k0 104 a b = cs_Play_run_B_c104 n σ k0 a b := by
  unfold cs_Play_run_B_N cs_Play_run_B_c104
  simp only [kN_104, kk_t, c4_size, c4_18]
/-! TWO LINES OF A NIGHT CHANGE PLACES -/
theorem swF_sh {F R : Nat → Int32} {P B i : Nat} (h : ∀ j, F (P + j) = R j) : ∀ j, gb_swF F (P + B) i (P + j) = gb_swF R B i j := by
  intro j
  unfold gb_swF
  by_cases c1 : B ≤ j ∧ j < B + i
  · rw [if_pos c1, if_pos ⟨by omega, by omega⟩, show P + j + 4 = P + (j + 4) by omega, h]
  · rw [if_neg c1, if_neg (fun z => c1 ⟨by omega, by omega⟩)]
    by_cases c2 : B + 4 ≤ j ∧ j < B + 4 + i
    · rw [if_pos c2, if_pos ⟨by omega, by omega⟩, show P + j - 4 = P + (j - 4) by omega, h]
    · rw [if_neg c2, if_neg (fun z => c2 ⟨by omega, by omega⟩), h]
theorem RS_sw {G NR : Nat → Int32} {k : Nat} (h : gb_RS 1 G NR) (hk : k + 1 < (NR 0).toInt.toNat) : gb_RS 1 (gb_swF G (1 + 4 * k) 4) (gb_swF NR (1 + 4 * k) 4) := by
  have w4 : gb_wid 1 = 4 := rfl
  have z : ∀ F : Nat → Int32, gb_swF F (1 + 4 * k) 4 0 = F 0 := fun F => by
    unfold gb_swF
    rw [if_neg (by omega), if_neg (by omega)]
  refine ⟨by rw [z, z]; exact h.1, fun e => absurd e (by decide), fun _ i hi => ?_, fun e => absurd e (by decide)⟩
  rw [z, w4] at hi
  have r := h.2.2.1 (Or.inl rfl)
  rw [w4] at r
  unfold gb_swF
  by_cases c1 : 1 + 4 * k ≤ 1 + i ∧ 1 + i < 1 + 4 * k + 4
  · rw [if_pos c1, if_pos c1, show 1 + i + 4 = 1 + (i + 4) by omega]
    exact r _ (by omega)
  · rw [if_neg c1, if_neg c1]
    by_cases c2 : 1 + 4 * k + 4 ≤ 1 + i ∧ 1 + i < 1 + 4 * k + 4 + 4
    · rw [if_pos c2, if_pos c2, show 1 + i - 4 = 1 + (i - 4) by omega]
      exact r _ (by omega)
    · rw [if_neg c2, if_neg c2]
      exact r i hi
theorem raN_sw {NR : Nat → Int32} {k : Nat} (h : gb_raN NR) (hk : k + 1 < 24) : gb_raN (gb_swF NR (1 + 4 * k) 4) := by
  intro j hj
  have per : ∀ a b : Nat, a < 97 → b < 97 → 1 ≤ a → 1 ≤ b → (a - 1) % 4 = (b - 1) % 4 → gb_iv (gt_R 1 a).1 (gt_R 1 a).2 (NR a) → gb_iv (gt_R 1 b).1 (gt_R 1 b).2 (NR a) := by
    intro a b _ _ ha hb e q
    have E : gt_R 1 a = gt_R 1 b := by
      unfold gt_R
      rw [if_neg (show ¬ (1 : Nat) = 0 by decide), if_pos (show (1 : Nat) = 1 from rfl), if_neg (show ¬ a = 0 by omega), if_neg (show ¬ (1 : Nat) = 0 by decide), if_pos (show (1 : Nat) = 1 from rfl), if_neg (show ¬ b = 0 by omega), e]
    rw [← E]
    exact q
  unfold gb_swF
  by_cases c1 : 1 + 4 * k ≤ j ∧ j < 1 + 4 * k + 4
  · rw [if_pos c1]
    exact per (j + 4) j (by omega) hj (by omega) (by omega) (by omega) (h (j + 4) (by omega))
  · rw [if_neg c1]
    by_cases c2 : 1 + 4 * k + 4 ≤ j ∧ j < 1 + 4 * k + 4 + 4
    · rw [if_pos c2]
      exact per (j - 4) j (by omega) hj (by omega) (by omega) (by omega) (h (j - 4) (by omega))
    · rw [if_neg c2]
      exact h j hj
theorem cbx_c {k0 : Nat} {R R2 : Nat → Int32} {σ : gb_S} (h : gb_cbx k0 R σ) (hR : gb_rB R) (e : ∀ j, j < 58 → R2 j = R j) : gb_cbx k0 R2 σ := by
  have h5 := (rB_nP hR).2
  have h8 := (rB_nG hR).2
  unfold gb_nP at h5
  unfold gb_nG at h8
  obtain ⟨h1, h2, -, -⟩ := h
  obtain ⟨a1, a2, a3, a4⟩ := h2 rfl
  refine ⟨by rw [e 0 (by decide)]; exact h1, fun _ => ⟨by rw [e 1 (by decide)]; exact a1, by rw [e 2 (by decide)]; exact a2, fun p j hp hj => ?_, fun g j hg hj => ?_⟩, fun z => absurd z (by decide), fun z => absurd z (by decide)⟩
  · rw [e 0 (by decide)] at hp
    rw [e _ (by omega)]
    exact a3 p j hp hj
  · rw [e 1 (by decide)] at hg
    rw [e _ (by omega)]
    exact a4 g j hg hj
theorem PM_sw {m k : Nat} {R NR : Nat → Int32} {f f2 : gb_F} {v : Int32} (hM : gb_PM m R NR f) (hT : gb_TM f2) (e : v.toInt = k) (hk : k + 1 < 24) (g : ∀ B : Nat, (((f 0 12) + 1) + (4 * v)).toInt = B → B ≤ 2000 → f2 1 = gb_swF (f 1) B 4) (o : ∀ q, q ≠ 1 → f2 q = f q) : gb_PM m (fun j => f2 1 (gb_pl 0 m + j)) (gb_swF NR (1 + 4 * k) 4) f2 ∧ ∀ j, j < 58 → f2 1 (gb_pl 0 m + j) = R j := by
  obtain ⟨⟨a1, a2, a3, a4⟩, ⟨m2, b1, b2, b3⟩, h3⟩ := hM
  have p0 : gb_pl 0 m + 58 ≤ gb_pl 1 m2 := by
    rcases (show m = 0 ∨ m = 1 by omega) with rfl | rfl <;> rcases (show m2 = 0 ∨ m2 = 1 by omega) with rfl | rfl <;> decide
  have p1 : gb_pl 1 m2 ≤ 1000 := by
    rcases (show m2 = 0 ∨ m2 = 1 by omega) with rfl | rfl <;> decide
  have b2' : (f 0 12).toInt = gb_pl 1 m2 := b2
  have c1 : (1 : Int32).toInt = 1 := by decide
  have c4 : (4 : Int32).toInt = 4 := by decide
  have m1 : (4 * v).toInt = ((4 * k : Nat) : Int) := by
    rw [gb_tmul (by rw [e, c4]; omega) (by rw [e, c4]; omega), e, c4]
    omega
  have m3 : ((f 0 12) + 1).toInt = ((gb_pl 1 m2 + 1 : Nat) : Int) := by
    rw [gb_tadd (by rw [b2', c1]; omega) (by rw [b2', c1]; omega), b2', c1]
    omega
  have m4 : (((f 0 12) + 1) + (4 * v)).toInt = ((gb_pl 1 m2 + (1 + 4 * k) : Nat) : Int) := by
    rw [gb_tadd (by rw [m3, m1]; omega) (by rw [m3, m1]; omega), m3, m1]
    omega
  have G := g _ m4 (by omega)
  have o0 := o 0 (by decide)
  refine ⟨⟨⟨rB_of hT a2, a2, ?_, fun j => rfl⟩, ⟨m2, b1, ?_, fun j => ?_⟩, raN_sw h3 hk⟩, fun j hj => ?_⟩
  · unfold gb_mb at a3 ⊢
    rw [o0]
    exact a3
  · unfold gb_mb at b2 ⊢
    rw [o0]
    exact b2
  · rw [G]
    exact swF_sh b3 j
  · rw [G]
    unfold gb_swF
    rw [if_neg (by omega), if_neg (by omega)]
    exact a4 j
/-! the class copies a night and changes two lines -/
theorem ch_copyN {n k1 : Nat} {σ : gb_S} : gb_hc (cs_Sheet_copyFrom_N_N n σ 104 k1) (fun s _ => ∃ F : Nat → Int32, s = gb_su σ 105 F ∧ ∀ j, j < 97 → F j = σ.1 (k1 + 1) j) := by
  unfold cs_Sheet_copyFrom_N_N
  refine hc_kk (fun _ => hc_kk (fun _ => hc_lt (fun x ex => hc_ac (hc_lt (fun s es => hc_some ⟨_, es, fun j hj => ?_⟩)))))
  have ex2 : x = 97 := by
    rw [ex]
    decide
  subst ex2
  unfold va_cpy
  have e0 : Int32.toNatClampNeg 0 = 0 := by decide
  have e97 : Int32.toNatClampNeg 97 = 97 := by decide
  rw [e0, e97, if_pos ⟨by omega, by omega⟩, show 0 + (j - 0) = j by omega]
theorem ch_change31 {n k : Nat} {F : Nat → Int32} {σ0 : gb_S} {v3 : Int32} (e3 : v3.toInt = ((1 + 4 * k : Nat) : Int)) (hk : k ≤ 22) : ∀ (mm : Nat) (σ : gb_S) (x : Int32) (i : Nat), x.toInt = i → i ≤ 4 → σ = gb_su σ0 105 (gb_swF F (1 + 4 * k) i) → gb_hc (cs_Night_changeWithNext_31 n mm σ ((3 : Int32) + 1) v3 x) (fun s _ => s = gb_su σ0 105 (gb_swF F (1 + 4 * k) 4)) := by
  intro mm
  induction mm with
  | zero =>
    intros
    exact hc_none
  | succ mm ih =>
    intro σ x i e hi es
    have c4 : ((3 : Int32) + 1).toInt = ((4 : Nat) : Int) := by decide
    rw [cs_Night_changeWithNext_31]
    refine hc_if (fun c => hc_some ?_) (fun c => ?_)
    · have := gi_le c
      rw [es, show i = 4 by omega]
    · have c' := gi_nle c
      have i1 := gi_tn (gi_pl e3 e (by omega) (by omega))
      have i2 := gi_tn (gi_pl (gi_pl e3 c4 (by omega) (by omega)) e (by omega) (by omega))
      rw [i1, i2]
      refine hc_ck (fun _ _ => hc_lt (fun a ea => hc_ck (fun _ _ => hc_lt (fun b eb => hc_ck (fun _ _ => hc_lt (fun s1 e1 => hc_ck (fun _ _ => hc_lt (fun s2 e2 => hc_lt (fun x2 ex2 => ?_)))))))))
      refine ih s2 x2 (i + 1) (gi_1 e (by omega) ex2) (by omega) ?_
      have sw := gb_swF1 (F := F) (B := 1 + 4 * k) (i := i) (by omega)
      subst es
      rw [gb_sus] at ea eb e1
      subst e1
      rw [gb_sus] at e2
      rw [e2, ea, eb, ← sw, show 1 + 4 * k + 4 + i = 1 + 4 * k + i + 4 by omega]
      unfold gb_su
      congr 1
      funext q
      unfold gb_u
      by_cases c5 : q = 105
      · rw [if_pos c5, if_pos c5]
      · simp only [if_neg c5]
/-! A RUN KEEPS WHAT IS CHOSEN -/
theorem mh_rmf {n m : Nat} {R NR : Nat → Int32} {v1 : Int32} : ∀ (mm : Nat) (f : gb_F) (w : Int64) (k : Nat), gb_PM m R NR f → gb_r49 f → (f 0 23).toInt = k → k ≤ gb_nD NR → gb_hm (ms_runs_4 n mm f w v1) (fun fA _ _ => gb_mfr f fA) := by
  intro mm
  induction mm with
  | zero =>
    intros
    exact hm_none
  | succ mm ih =>
    intro f w k hM h4 e hk
    have hN := hM.2.2
    have nE := (rN_0 hN).1
    have nD := (rN_0 hN).2
    rw [ms_runs_4]
    refine hm_if (fun _ => hm_some mfr_r) (fun c1 => hm_bd (P := fun f2 w2 r => f2 = f ∧ w2 = w ∧ r = NR 0) ?_ (fun f1 w1 r g => ?_))
    · unfold ms_deeds
      refine hm_ck (fun _ _ => hm_lt (fun y ey => hm_some ⟨rfl, rfl, ?_⟩))
      rw [ey]
      exact mx_nnight hM.2.1
    obtain ⟨g1, g2, g3⟩ := g
    subst f1
    subst w1
    subst g3
    refine hm_if (fun _ => hm_some mfr_r) (fun c2 => ?_)
    have c2' := gi_nle c2
    refine hm_bd (mh_can hM h4.1 h4.2 e (by omega)) (fun f1 w1 r g => ?_)
    obtain ⟨g1, g2, g3⟩ := g
    subst f1
    subst w1
    refine hm_if (fun _ => hm_some mfr_r) (fun c3 => ?_)
    have yes := yn_1 g3 c3
    have hx : gb_iv (-1) 23 (f 0 23) := ⟨by omega, by omega⟩
    refine hm_bd (mh_does49 hM h4.2 e (by omega) yes w) (fun f2 w2 u2 D => hm_lt (fun f4 e4 => ?_))
    obtain ⟨d4, d9, dm, d23⟩ := D
    have mf : gb_mfr f f4 := by
      rw [e4]
      exact mfr_t dm (mfr_0 (by decide))
    have k1 : (f4 0 23).toInt = ((k + 1 : Nat) : Int) := by
      rw [e4, gb_us, pk_us, d23]
      exact gi_1 e (by omega) rfl
    have r4 : gb_r49 f4 := by
      have := r49_s h4 hx d4 d9
      rw [e4]
      unfold gb_r49
      rw [gb_un (by decide), gb_un (by decide)]
      exact this
    exact hm_mono (ih f4 w2 (k + 1) (PM_k hM mf) r4 k1 (by omega)) (fun fA wA uA G => mfr_t mf G)
theorem mh_runs_mf {n m : Nat} {R NR : Nat → Int32} {f : gb_F} {w : Int64} {v1 : Int32} (hM : gb_PM m R NR f) : gb_hm (ms_runs n f w v1) (fun f2 _ _ => gb_mfr f f2) := by
  unfold ms_runs
  refine hm_bd (mh_begins hM.1) (fun f2 w5 u5 P => ?_)
  have r0 : gb_r49 f2 := ⟨fun x hx => by rw [(P.2.1 x hx).1]; unfold gb_iv; decide, fun x p hx hp => by rw [(P.2.1 x hx).2.2.2.2.2 p hp]; unfold gb_iv; decide⟩
  exact hm_mono (mh_rmf n f2 w5 0 (PM_k hM P.1) r0 (by rw [P.2.2.2.2]; decide) (Nat.zero_le _)) (fun fA wA uA G => mfr_t P.1 G)
theorem ch_change {n k : Nat} {F : Nat → Int32} {σ : gb_S} {v : Int32} (e : v.toInt = k) (hk : k ≤ 22) (h5 : σ.1 105 = F) (h0 : (k : Int) + 1 < (F 0).toInt) : gb_hc (cs_Night_changeWithNext n σ v) (fun s _ => s = gb_su σ 105 (gb_swF F (1 + 4 * k) 4)) := by
  have z0 : (0 : Int32).toInt = 0 := by decide
  have c1 : (1 : Int32).toInt = ((1 : Nat) : Int) := by decide
  have e1 := gi_s1 e (by omega)
  unfold cs_Night_changeWithNext cs_Lines_size
  refine hc_if (fun c => ?_) (fun c => ?_)
  · have := gi_lt c
    omega
  · refine hc_cd (hc_lt (fun x ex => hc_some (Q := fun s r => s = σ ∧ r = σ.1 105 0) ⟨rfl, ex⟩)) (fun s r g => ?_)
    obtain ⟨g1, g2⟩ := g
    subst s
    rw [h5] at g2
    refine hc_if (fun d => hc_lt (fun x7 e7 => hc_lt (fun x8 e8 => ?_))) (fun d => ?_)
    · have c4 : ((3 : Int32) + 1).toInt = 4 := by decide
      have m1 : (v * ((3 : Int32) + 1)).toInt = ((4 * k : Nat) : Int) := by
        rw [gb_tmul (by rw [e, c4]; omega) (by rw [e, c4]; omega), e, c4]
        omega
      rw [e7] at e8 ⊢
      refine ch_change31 (F := F) (by rw [e8]; exact gi_pl c1 m1 (by omega) (by omega)) hk n σ 0 0 (by decide) (by decide) ?_
      rw [gb_swF0, ← h5]
      unfold gb_su gb_u
      refine Prod.ext (funext (fun q => ?_)) rfl
      by_cases c5 : q = 105
      · subst c5
        show σ.1 105 = if 105 = 105 then σ.1 105 else σ.1 105
        rw [if_pos rfl]
      · show σ.1 q = if q = 105 then σ.1 105 else σ.1 q
        rw [if_neg c5]
    · have d' := gi_nlt d
      rw [g2] at d'
      omega
/-! SHIFT -/
theorem RS_c1 {F G NR : Nat → Int32} (hN : gb_raN NR) (h : gb_RS 1 G NR) (g : ∀ j, j < 97 → F j = G j) : gb_RS 1 F NR := by
  have w4 : gb_wid 1 = 4 := rfl
  have nE := (rN_0 hN).1
  have nD := (rN_0 hN).2
  refine ⟨by rw [g 0 (by decide)]; exact h.1, fun e => absurd e (by decide), fun z i hi => ?_, fun e => absurd e (by decide)⟩
  have hi' := hi
  rw [w4] at hi'
  rw [g _ (by omega)]
  exact h.2.2.1 z i hi
theorem swF_0 {F : Nat → Int32} {k : Nat} : gb_swF F (1 + 4 * k) 4 0 = F 0 := by
  unfold gb_swF
  rw [if_neg (by omega), if_neg (by omega)]
theorem m_shift35 {n k0 k1 m : Nat} {R NR : Nat → Int32} {v3 v4 : Int32} (hn : gb_N ≤ n) (hN : gb_raN NR) (h4 : v4.toInt ≤ gb_nD NR) (k9 : k0 + 1 < 109) (k9' : k1 + 1 < 109) (k0n : k0 + 1 ≠ 105) (k1n : k1 + 1 ≠ 105) : ∀ (mm2 : Nat) (f : gb_F) (w : Int64) (v5 v6 v7 : Int32) (k : Nat), gb_PM m R NR f → gb_TM f → gb_NN f → f 0 24 = -1 → v7.toInt = k → k ≤ 24 → (v6 = -1 ∨ 0 ≤ v6.toInt) → gb_hm (ms_shift_35 n mm2 f w v3 v4 v5 v6 v7) (fun _ _ q => ∀ (mm : Nat) (σ : gb_S), gb_cbx k0 R σ → gb_RS 1 (σ.1 (k1 + 1)) NR → gb_hc (cs_Face_shift_61 n mm σ v3 k0 k1 v4 v5 v6 v7) (fun _ r => r = q)) := by
  intro mm2
  induction mm2 with
  | zero =>
    intros
    exact hm_none
  | succ mm2 ih =>
    intro f w v5 v6 v7 k hM hT hNN hv e hk hk6
    have hR := mbx_rB hM.1
    have nE := (rN_0 hN).1
    have nD := (rN_0 hN).2
    have z0 : (0 : Int32).toInt = 0 := by decide
    have e1 : (v7 + 1).toInt = ((k + 1 : Nat) : Int) := gi_s1 e (by omega)
    rw [ms_shift_35]
    refine hm_if (fun c => ?_) (fun c => ?_)
    · have fin : ∀ q : Int32, (q = if v3 = 0 then v6 else if v6 < 0 then v6 else v5) → ∀ (mm : Nat) (σ : gb_S), gb_hc (cs_Face_shift_61 n mm σ v3 k0 k1 v4 v5 v6 v7) (fun _ r => r = q) := by
        intro q eq mm σ
        cases mm with
        | zero => exact hc_none
        | succ mm =>
          rw [cs_Face_shift_61]
          refine hc_kk (fun _ => hc_kk (fun _ => ?_))
          rw [if_pos c]
          refine hc_if (fun d => hc_some ?_) (fun d => hc_if (fun d2 => hc_some ?_) (fun d2 => hc_some ?_))
          · rw [eq, if_pos d]
          · rw [eq, if_neg d, if_pos (by rw [d2]; decide)]
          · have nn : ¬ v6 < 0 := fun z => by
              have := gi_lt z
              rcases hk6 with y | y
              · exact d2 y
              · omega
            rw [eq, if_neg d, if_neg nn]
      refine hm_if (fun d => hm_some (fun mm σ _ _ => fin _ (by rw [if_pos d]) mm σ)) (fun d => hm_if (fun d2 => hm_some (fun mm σ _ _ => fin _ (by rw [if_neg d, if_pos d2]) mm σ)) (fun d2 => hm_some (fun mm σ _ _ => fin _ (by rw [if_neg d, if_neg d2]) mm σ)))
    · have c' := gi_nle c
      have i7 : gb_iv 0 22 v7 := ⟨by omega, by omega⟩
      obtain ⟨B, hB, hB2⟩ := gb_swB hNN i7
      refine hm_bd (hm_and (hm_of (mt_swaps hn hT hNN i7)) (mh_swaps hB hB2)) (fun f2 w2 _ h => ?_)
      obtain ⟨⟨hT2, hN2⟩, s1, s2⟩ := h
      have sw := PM_sw hM hT2 e (show k + 1 < 24 by omega) (fun B' hB' _ => by rw [show B' = B by omega]; exact s1) s2
      obtain ⟨hM2, rEq⟩ := sw
      generalize hR2 : (fun j => f2 1 (gb_pl 0 m + j)) = R2 at hM2
      have rEq' : ∀ j, j < 58 → R2 j = R j := fun j hj => by
        rw [← hR2]
        exact rEq j hj
      have v24 : f2 0 24 = -1 := by
        rw [s2 0 (by decide)]
        exact hv
      refine hm_bd (hm_and (mh_ran (v1 := 24) (sp := -1) hn hM2 hT2 hN2 v24) (mh_runs_mf hM2)) (fun f3 w3 _ h => ?_)
      obtain ⟨⟨rn, km, nn⟩, mf⟩ := h
      have hT3 : gb_TM f3 := by
        obtain ⟨_, _, _, _, _, _, _, _, t, _⟩ := rn
        exact t
      have hM3 := PM_k hM2 mf
      have hRb := mbx_rB hM2.1
      have b3 : (((f3 0 12) + 1) + (4 * v7)).toInt = B := by
        rw [km.2.2.1, s2 0 (by decide)]
        exact hB
      have back : ∀ f4 : gb_F, f4 1 = gb_swF (f3 1) B 4 → (∀ q, q ≠ 1 → f4 q = f3 q) → gb_mfr f f4 := fun f4 u1 u2 => ⟨by rw [u1, km.1, s1, gb_swF2], by rw [u2 0 (by decide), km.2.1, s2 0 (by decide)], by rw [u2 0 (by decide), km.2.2.1, s2 0 (by decide)], by rw [u2 0 (by decide), mf.2.2.2.1, s2 0 (by decide)], by rw [u2 2 (by decide), mf.2.2.2.2, s2 2 (by decide)]⟩
      have rest : ∀ (u : Int64) (x5 x6 : Int32), (x6 = -1 ∨ 0 ≤ x6.toInt) → gb_hm (gb_bd (ms_swaps n f3 u v7) (fun f_34 wl_35 _ => gb_lt (v7 + 1) (fun x_39 => ms_shift_35 n mm2 f_34 wl_35 v3 v4 x5 x6 x_39))) (fun _ _ q => ∀ (mm : Nat) (σ : gb_S), gb_cbx k0 R σ → gb_RS 1 (σ.1 (k1 + 1)) NR → gb_hc (gb_lt (v7 + 1) (fun x => cs_Face_shift_61 n mm σ v3 k0 k1 v4 x5 x6 x)) (fun _ r => r = q)) := by
        intro u x5 x6 hx
        refine hm_bd (hm_and (hm_of (mt_swaps hn hT3 nn i7)) (mh_swaps b3 hB2)) (fun f4 w4 _ h => ?_)
        obtain ⟨⟨hT4, hN4⟩, u1, u2⟩ := h
        have mf4 := back f4 u1 u2
        refine hm_lt (fun x ex => ?_)
        refine hm_mono (ih f4 w4 x5 x6 x (k + 1) (PM_k hM mf4) hT4 hN4 (by rw [mf4.2.2.2.1]; exact hv) (gi_1 e (by omega) ex) (by omega) hx) (fun _ _ q G mm σ hb hS => hc_lt (fun y ey => ?_))
        rw [ey, ← ex]
        exact G mm σ hb hS
      have step : ∀ (q : Int32) (mm : Nat) (σ : gb_S), gb_cbx k0 R σ → gb_RS 1 (σ.1 (k1 + 1)) NR → (∀ (s : gb_S) (mm' : Nat), gb_cbx k0 R s → gb_RS 1 (s.1 (k1 + 1)) NR → gb_hc (if f3 0 23 < v4 then gb_lt (v7 + 1) (fun x => cs_Face_shift_61 n mm' s v3 k0 k1 v4 v5 v6 x) else if gb_ap R2 f3 (gb_nP R2) ≤ v5 then gb_lt (v7 + 1) (fun x => cs_Face_shift_61 n mm' s v3 k0 k1 v4 v5 v6 x) else gb_lt (v7 + 1) (fun x => cs_Face_shift_61 n mm' s v3 k0 k1 v4 (gb_ap R2 f3 (gb_nP R2)) v7 x)) (fun _ r => r = q)) → gb_hc (cs_Face_shift_61 n mm σ v3 k0 k1 v4 v5 v6 v7) (fun _ r => r = q) := by
        intro q mm σ hb hS H
        cases mm with
        | zero => exact hc_none
        | succ mm =>
          rw [cs_Face_shift_61]
          refine hc_kk (fun _ => hc_kk (fun _ => ?_))
          rw [if_neg c]
          refine hc_cd ch_copyN (fun s _ g => ?_)
          obtain ⟨F, g1, g2⟩ := g
          have F0 : F 0 = NR 0 := by
            rw [g2 0 (by decide)]
            exact hS.1
          refine hc_cd (ch_change (F := F) e (by omega) (by rw [g1, gb_sus]) (by rw [F0]; omega)) (fun s2' _ g3 => ?_)
          refine hc_cd (P := fun s r => s = s2' ∧ r = s2'.1 105 0) (by unfold cs_Lines_size; exact hc_lt (fun x ex => hc_some ⟨rfl, ex⟩)) (fun s3 r3 g4 => ?_)
          obtain ⟨g5, g6⟩ := g4
          subst s3
          have cl : ∀ q', q' ≠ 105 → s2'.1 q' = σ.1 q' := fun q' hq => by rw [g3, gb_sun hq, g1, gb_sun hq]
          have e105 : s2'.1 105 = gb_swF F (1 + 4 * k) 4 := by
            rw [g3]
            exact gb_sus
          have hb2 : gb_cbx k0 R2 s2' := cbx_c (by unfold gb_cbx; rw [cl _ k0n]; exact hb) hR rEq'
          have hS2 : gb_RS 1 (s2'.1 (104 + 1)) (gb_swF NR (1 + 4 * k) 4) := by
            rw [show 104 + 1 = 105 from rfl, e105]
            exact RS_sw (RS_c1 hN hS g2) (by omega)
          have e3 : r3 = gb_swF NR (1 + 4 * k) 4 0 := by
            rw [g6, e105, swF_0, swF_0, F0]
          have c24 : (24 : Int32).toInt = 24 := by decide
          have hl : (if gb_swF NR (1 + 4 * k) 4 0 < r3 then gb_swF NR (1 + 4 * k) 4 0 else r3).toInt = if (gb_swF NR (1 + 4 * k) 4 0).toInt < (24 : Int32).toInt then (gb_swF NR (1 + 4 * k) 4 0).toInt else (24 : Int32).toInt := by
            rw [e3, swF_0, if_neg (fun z => by have := gi_lt z; omega), c24]
            by_cases c : (NR 0).toInt < 24
            · rw [if_pos c]
            · rw [if_neg c]
              omega
          rw [← c4_run]
          refine hc_cd (r_run (t := True) (v1 := 24) hRb k9 (by decide) hb2 hS2 hl (Or.inl ⟨trivial, rfl⟩) rn) (fun s4 _ K => ?_)
          obtain ⟨K1, K2, K3, K4, K5⟩ := K
          rw [K2.2.2.2.2.1.2]
          have q4 : ∀ q', q' < 109 → q' ≠ 105 → s4.1 q' = σ.1 q' := fun q' h1 h2 => by
            rw [K4.2 _ h1]
            exact cl _ h2
          have hb4 : gb_cbx k0 R s4 := by
            unfold gb_cbx
            rw [q4 _ k9 k0n]
            exact hb
          have H' := H s4 mm hb4 (by rw [q4 _ k9' k1n]; exact hS)
          by_cases d : f3 0 23 < v4
          · rw [if_pos d]
            rw [if_pos d] at H'
            exact H'
          · rw [if_neg d]
            rw [if_neg d] at H'
            refine hc_cd (ch_allPay K1 hRb K2 K5) (fun s r g => ?_)
            obtain ⟨a1, a2⟩ := g
            subst s
            subst a2
            by_cases d2 : gb_ap R2 f3 (gb_nP R2) ≤ v5
            · rw [if_pos d2]
              rw [if_pos d2] at H'
              exact H'
            · rw [if_neg d2]
              rw [if_neg d2] at H'
              refine hc_cd (ch_allPay K1 hRb K2 K5) (fun s r g => ?_)
              obtain ⟨a1, a2⟩ := g
              subst s
              subst a2
              exact H'
      refine hm_if (fun d => ?_) (fun d => ?_)
      · unfold ms_shift_78 ms_shift_79
        rw [if_pos (show (0 : Int32) = 0 from rfl), if_pos (show (0 : Int32) = 0 from rfl)]
        refine hm_mono (rest w3 v5 v6 hk6) (fun _ _ q G mm σ hb hS => step q mm σ hb hS (fun s mm' hb' hS' => ?_))
        rw [if_pos d]
        exact G mm' s hb' hS'
      · refine hm_bd (mh_allPay hM3.1) (fun f5 w5 r g => ?_)
        obtain ⟨a1, a2, a3⟩ := g
        subst f5
        subst w5
        subst a3
        refine hm_if (fun d2 => ?_) (fun d2 => ?_)
        · unfold ms_shift_78 ms_shift_79
          rw [if_pos (show (0 : Int32) = 0 from rfl), if_pos (show (0 : Int32) = 0 from rfl)]
          refine hm_mono (rest w3 v5 v6 hk6) (fun _ _ q G mm σ hb hS => step q mm σ hb hS (fun s mm' hb' hS' => ?_))
          rw [if_neg d, if_pos d2]
          exact G mm' s hb' hS'
        · unfold ms_shift_79
          rw [if_neg (show ¬ (1 : Int32) = 0 by decide)]
          refine hm_bd (mh_allPay hM3.1) (fun f5 w5 r g => ?_)
          obtain ⟨a1, a2, a3⟩ := g
          subst f5
          subst w5
          subst a3
          rw [if_neg (show ¬ (1 : Int32) = 0 by decide)]
          refine hm_mono (rest w3 _ v7 (Or.inr (by omega))) (fun _ _ q G mm σ hb hS => step q mm σ hb hS (fun s mm' hb' hS' => ?_))
          rw [if_neg d, if_neg d2]
          exact G mm' s hb' hS'
theorem cz_border {n : Nat} {σ : gb_S} {p1 : Int32} : gb_hc (cs_Face_borderAt n σ p1) (fun _ r => r + 1 ≠ 105) := by
  refine hc_mono ch_borderAt (fun s r g => ?_)
  rcases g.2 with z | ⟨m, -, z1, z2, -⟩
  · rw [z.1]
    decide
  · rw [z2]
    unfold gb_o
    omega
theorem cz_night {n : Nat} {σ : gb_S} {p1 : Int32} : gb_hc (cs_Face_nightAt n σ p1) (fun _ r => r + 1 ≠ 105) := by
  refine hc_mono ch_nightAt (fun s r g => ?_)
  rcases g.2 with z | ⟨m, -, z1, z2, -⟩
  · rw [z.1]
    decide
  · rw [z2]
    unfold gb_o
    omega
def gb_SH (n : Nat) (f : gb_F) (p1 p2 p3 q : Int32) : Prop := (¬ gb_two f p1 p2 ∧ q = -1) ∨ (gb_two f p1 p2 ∧ ∃ fA, gb_ran n (gb_Rs 0 f p1) (gb_Rs 1 f p2) 24 (-1) fA ∧ ∀ (k0 k1 mm : Nat) (σ : gb_S), k0 + 1 < 109 → k1 + 1 < 109 → k0 + 1 ≠ 105 → k1 + 1 ≠ 105 → gb_cbx k0 (gb_Rs 0 f p1) σ → gb_RS 1 (σ.1 (k1 + 1)) (gb_Rs 1 f p2) → gb_hc (cs_Face_shift_61 n mm σ p3 k0 k1 (fA 0 23) (gb_ap (gb_Rs 0 f p1) fA (gb_nP (gb_Rs 0 f p1))) (-1) 0) (fun _ r => r = q))
theorem m_shift {n : Nat} {f : gb_F} {w : Int64} {p1 p2 p3 : Int32} (hn : gb_N ≤ n) (hM : gb_TM f) : gb_hm (ms_shift n f w p1 p2 p3) (fun _ _ q => gb_SH n f p1 p2 p3 q) := by
  unfold ms_shift
  refine hm_bd (mh_areTold hM) (fun f1 w1 r g => hm_if (fun c => hm_some (Or.inl ⟨yn_0 g c, rfl⟩)) (fun c => ?_))
  obtain ⟨a, b1, b2, b3, b4, m, b5⟩ := yn_1 g c
  refine hm_bd (hm_and (mh_ran (v1 := 24) (sp := -1) hn b5 b2 b3 b1) (mh_runs_mf b5)) (fun fA w2 u k => hm_lt (fun v4 e4 => ?_))
  obtain ⟨⟨rn, km, nn⟩, mf⟩ := k
  have pm := PM_k b5 mf
  have tA : gb_TM fA := by
    obtain ⟨_, _, _, _, _, _, _, _, t, _⟩ := rn
    exact t
  refine hm_bd (mh_allPay pm.1) (fun f5 w5 r5 g5 => ?_)
  obtain ⟨q1, q2, q3⟩ := g5
  subst f5
  subst w5
  subst q3
  rw [e4]
  have all : ∀ k0 k1 : Nat, k0 + 1 < 109 → k1 + 1 < 109 → k0 + 1 ≠ 105 → k1 + 1 ≠ 105 → gb_hm (ms_shift_35 n n fA w2 p3 (fA 0 23) (gb_ap (gb_Rs 0 f p1) fA (gb_nP (gb_Rs 0 f p1))) (-1) 0) _ := fun k0 k1 h0 h1 h2 h3 => m_shift35 (k0 := k0) (k1 := k1) hn b5.2.2 (ran_le rn) h0 h1 h2 h3 n fA w2 _ (-1) 0 0 pm tA nn (by rw [mf.2.2.2.1]; exact b1) (by decide) (by decide) (Or.inl rfl)
  intro f9 w9 q9 e9
  exact Or.inr ⟨a, fA, rn, fun k0 k1 mm σ h0 h1 h2 h3 hb hS => all k0 k1 h0 h1 h2 h3 f9 w9 q9 e9 mm σ hb hS⟩
theorem c_shift {n : Nat} {σ : gb_S} {f : gb_F} {p1 p2 p3 q : Int32} (h : gb_R σ f) (hM : gb_TM f) (H : gb_SH n f p1 p2 p3 q) : gb_hc (cs_Face_shift n σ p1 p2 p3) (fun _ r => r = q) := by
  have no : ¬ gb_two f p1 p2 → (-1 : Int32) = q := fun z => by
    rcases H with y | y
    · exact y.2.symm
    · exact absurd y.1 z
  unfold cs_Face_shift
  refine hc_cd (hc_and (cy_border h hM) cz_border) (fun s r g => ?_)
  obtain ⟨⟨g0, g⟩, n0⟩ := g
  subst s
  refine hc_if (fun c => ?_) (fun c => ?_)
  · have nb : ¬ gb_two f p1 p2 := fun z => by
      rcases g with y | y
      · exact y.2 z.1
      · exact y.1 c
    refine hc_cd (cy_night h hM) (fun s r2 g2 => ?_)
    exact hc_if (fun _ => hc_some (no nb)) (fun _ => hc_kk (fun _ => hc_some (no nb)))
  · rcases g with y | ⟨y1, y2, y3, y4, y5⟩
    · exact absurd y.1 c
    refine hc_kk (fun _ => hc_cd (hc_and (cy_night h hM) cz_night) (fun s r2 g2 => ?_))
    obtain ⟨⟨g0, g2⟩, n1⟩ := g2
    subst s
    refine hc_if (fun c2 => hc_some (no (fun z => ?_))) (fun c2 => hc_kk (fun _ => ?_))
    · rcases g2 with y | y
      · exact y.2 z.2
      · exact y.1 c2
    · rcases g2 with z | ⟨z1, z2, z3, z4, z5⟩
      · exact absurd z.1 c2
      rcases H with u | ⟨-, fA, rn, K⟩
      · exact absurd ⟨y2, z2⟩ u.1
      refine hc_cd (r_out y4 z4 y5 z5 y3 z3 rn) (fun s r4 e => hc_if (fun c => absurd c (by rw [e.1]; decide)) (fun _ => hc_lt (fun v ev => ?_)))
      obtain ⟨-, e1, e2, e3, e4⟩ := e
      rw [e2.2.2.2.2.1.2] at ev
      rw [ev]
      refine hc_cd (ch_allPay e1 y4 e2 e4) (fun s2 r5 g => ?_)
      obtain ⟨a1, a2⟩ := g
      subst s2
      subst a2
      exact K r r2 n s y5 z5 n0 n1 e1.2.1 e1.2.2.1
theorem e_shift {σ σ2 : gb_S} {f f2 : gb_F} {w w2 : Int64} {p1 p2 p3 ra qa : Int32} (_ : gb_TC σ) (hM : gb_TM f) (h : gb_R σ f) (ec : cs_Face_shift gb_N σ p1 p2 p3 = some (σ2, ra)) (em : ms_shift gb_N f w p1 p2 p3 = some (f2, w2, qa)) : ra = qa := c_shift h hM (m_shift (Nat.le_refl _) hM _ _ _ em) _ _ ec
