/-! SHARING: the class -/
def gb_lwC (L : Option (Nat → Int32)) (kl : Nat) (σ : gb_S) : Prop := match L with
  | none => σ.2.1 3 = 0
  | some LR => σ.2.1 3 = kl ∧ kl ≠ 0 ∧ kl + 1 < 109 ∧ gb_RS 2 (σ.1 (kl + 1)) LR ∧ gb_raL LR
def gb_SC (R : Nat → Int32) (L : Option (Nat → Int32)) (k0 kl : Nat) (σ : gb_S) : Prop := σ.2.1 2 = k0 ∧ gb_cbx k0 R σ ∧ k0 + 1 < 109 ∧ gb_lwC L kl σ
theorem SC_k {R : Nat → Int32} {L : Option (Nat → Int32)} {k0 kl : Nat} {σ σ2 : gb_S} (h : gb_SC R L k0 kl σ) (g : gb_pfr σ σ2) : gb_SC R L k0 kl σ2 := by
  obtain ⟨h1, h2, h3, h4⟩ := h
  refine ⟨by rw [g.1]; exact h1, ?_, h3, ?_⟩
  · unfold gb_cbx
    rw [g.2 _ h3]
    exact h2
  · cases L with
    | none =>
      show σ2.2.1 3 = 0
      rw [g.1]
      exact h4
    | some LR =>
      obtain ⟨a1, a2, a3, a4, a5⟩ := h4
      exact ⟨by rw [g.1]; exact a1, a2, a3, by rw [g.2 _ a3]; exact a4, a5⟩
theorem ch_payA {n k0 kl p : Nat} {R : Nat → Int32} {L : Option (Nat → Int32)} {σ : gb_S} {v : Int32} (h : gb_SC R L k0 kl σ) (hR : gb_rB R) (e : v.toInt = p) (hp : p < gb_nP R) : gb_hc (cs_Sharing_payAnew n σ v) (fun s _ => s = gb_su σ 127 (upd (σ.1 127) p (gb_PY R L p (σ.1 126 p)))) := by
  obtain ⟨h1, h2, h3, h4⟩ := h
  unfold cs_Sharing_payAnew
  rw [h1, gi_tn e]
  cases L with
  | none =>
    have h4' : σ.2.1 3 = 0 := h4
    rw [if_pos h4']
    refine hc_kk (fun _ => hc_ck (fun _ _ => hc_lt (fun x ex => hc_cd (ch_payOf h2 hR e hp) (fun s r g => ?_))))
    obtain ⟨g1, g2⟩ := g
    subst s
    refine hc_ck (fun _ _ => hc_lt (fun s es => hc_some ?_))
    rw [es, g2, ex]
    rfl
  | some LR =>
    obtain ⟨a1, a2, a3, a4, a5⟩ := h4
    have n3 : ¬ σ.2.1 3 = 0 := by
      rw [a1]
      exact a2
    rw [if_neg n3, if_neg n3]
    refine hc_kk (fun _ => hc_kk (fun _ => hc_kk (fun _ => hc_ck (fun _ _ => hc_lt (fun x ex => hc_cd (ch_padded h2 hR e hp) (fun s r g => ?_))))))
    obtain ⟨g1, g2⟩ := g
    subst s
    rw [a1]
    refine hc_cd (ch_payFor a4 a5) (fun s r2 g => ?_)
    obtain ⟨g1, g3⟩ := g
    subst s
    refine hc_ck (fun _ _ => hc_lt (fun s es => hc_some ?_))
    rw [es, g3, g2, ex]
    rfl
def gb_op (w : Int) (j : Nat) : Nat := if w < 0 ∨ (j : Int) < w then j else j + 1
def gb_Ow (w : Int) (k : Nat) : Nat := if 0 ≤ w ∧ w < k then k - 1 else k
theorem op_lt {w : Int} {P j : Nat} (h : j < gb_Ow w P) : gb_op w j < P := by
  unfold gb_Ow at h
  unfold gb_op
  by_cases a : 0 ≤ w ∧ w < P
  · rw [if_pos a] at h
    by_cases b : w < 0 ∨ (j : Int) < w
    · rw [if_pos b]
      omega
    · rw [if_neg b]
      omega
  · rw [if_neg a] at h
    by_cases b : w < 0 ∨ (j : Int) < w
    · rw [if_pos b]
      exact h
    · omega
theorem op_inj {w : Int} {i j : Nat} (h : gb_op w i = gb_op w j) : i = j := by
  unfold gb_op at h
  by_cases a : w < 0 ∨ (i : Int) < w
  · by_cases b : w < 0 ∨ (j : Int) < w
    · rw [if_pos a, if_pos b] at h
      exact h
    · rw [if_pos a, if_neg b] at h
      omega
  · by_cases b : w < 0 ∨ (j : Int) < w
    · rw [if_neg a, if_pos b] at h
      omega
    · rw [if_neg a, if_neg b] at h
      omega
theorem Ow_s {w : Int} {k : Nat} (h : ¬ (k : Int) = w) : gb_Ow w (k + 1) = gb_Ow w k + 1 ∧ gb_op w (gb_Ow w k) = k := by
  unfold gb_Ow gb_op
  by_cases a : 0 ≤ w ∧ w < k
  · rw [if_pos a, if_pos (show 0 ≤ w ∧ w < ((k + 1 : Nat) : Int) by omega), if_neg (show ¬ (w < 0 ∨ ((k - 1 : Nat) : Int) < w) by omega)]
    omega
  · rw [if_neg a, if_neg (show ¬ (0 ≤ w ∧ w < ((k + 1 : Nat) : Int)) by omega), if_pos (show w < 0 ∨ (k : Int) < w by omega)]
    omega
theorem Ow_e {w : Int} {k : Nat} (h : (k : Int) = w) : gb_Ow w (k + 1) = gb_Ow w k := by
  unfold gb_Ow
  rw [if_pos (show 0 ≤ w ∧ w < ((k + 1 : Nat) : Int) by omega), if_neg (show ¬ (0 ≤ w ∧ w < (k : Int)) by omega)]
  omega
theorem Ow_le {w : Int} {k : Nat} : gb_Ow w k ≤ k := by
  unfold gb_Ow
  by_cases a : 0 ≤ w ∧ w < k
  · rw [if_pos a]
    omega
  · rw [if_neg a]
    omega
def gb_Vw (R : Nat → Int32) (L : Option (Nat → Int32)) (w : Int) (r : Nat → Nat) (j : Nat) : Int32 := gb_PY R L (gb_op w j) (gb_T R (fun g => gb_op w (r g)) (gb_op w j) (gb_nG R))
def gb_SI (R : Nat → Int32) (L : Option (Nat → Int32)) (k0 kl : Nat) (w : Int) (r : Nat → Nat) (σ : gb_S) : Prop := gb_SC R L k0 kl σ ∧ (σ.1 120 4).toInt = gb_Ow w (gb_nP R) ∧ (∀ j, j < gb_Ow w (gb_nP R) → (σ.1 124 j).toInt = gb_op w j) ∧ (∀ g, g < gb_nG R → (σ.1 125 g).toInt = r g) ∧ (∀ g p, g < gb_nG R → p < gb_nP R → σ.1 123 (5 * g + p) = gb_fm R g p) ∧ (∀ p, p < gb_nP R → σ.1 126 p = gb_T R (fun g => gb_op w (r g)) p (gb_nG R)) ∧ ∀ j, j < gb_Ow w (gb_nP R) → σ.1 127 (gb_op w j) = gb_Vw R L w r j
theorem SI_k {R : Nat → Int32} {L : Option (Nat → Int32)} {k0 kl : Nat} {w : Int} {r : Nat → Nat} {σ σ2 : gb_S} (h : gb_SI R L k0 kl w r σ) (e2 : σ2.2 = σ.2) (e : ∀ q, q < 109 ∨ (123 ≤ q ∧ q ≤ 127) → σ2.1 q = σ.1 q) (e4 : σ2.1 120 4 = σ.1 120 4) : gb_SI R L k0 kl w r σ2 := by
  obtain ⟨h1, h2, h3, h4, h5, h6, h7⟩ := h
  refine ⟨SC_k h1 ⟨e2, fun q hq => e q (Or.inl hq)⟩, by rw [e4]; exact h2, ?_, ?_, ?_, ?_, ?_⟩
  · rw [e 124 (by omega)]
    exact h3
  · rw [e 125 (by omega)]
    exact h4
  · rw [e 123 (by omega)]
    exact h5
  · rw [e 126 (by omega)]
    exact h6
  · rw [e 127 (by omega)]
    exact h7
theorem Vw_c {R : Nat → Int32} {L : Option (Nat → Int32)} {w : Int} {r r2 : Nat → Nat} {j : Nat} (e : ∀ g, g < gb_nG R → r g = r2 g) : gb_Vw R L w r j = gb_Vw R L w r2 j := by
  unfold gb_Vw
  rw [T_c (a := fun g => gb_op w (r g)) (b := fun g => gb_op w (r2 g)) (gb_nG R) (fun g hg => by show gb_op w (r g) = gb_op w (r2 g); rw [e g hg])]
theorem SI_c {R : Nat → Int32} {L : Option (Nat → Int32)} {k0 kl : Nat} {w : Int} {r r2 : Nat → Nat} {σ : gb_S} (h : gb_SI R L k0 kl w r σ) (e : ∀ g, g < gb_nG R → r g = r2 g) : gb_SI R L k0 kl w r2 σ := by
  obtain ⟨h1, h2, h3, h4, h5, h6, h7⟩ := h
  refine ⟨h1, h2, h3, fun g hg => by rw [← e g hg]; exact h4 g hg, h5, fun p hp => ?_, fun j hj => ?_⟩
  · rw [h6 p hp]
    exact T_c (gb_nG R) (fun g hg => by show gb_op w (r g) = gb_op w (r2 g); rw [e g hg])
  · rw [h7 j hj]
    exact Vw_c e
theorem gi_g5 {x y : Int32} {g p : Nat} (e1 : x.toInt = g) (e2 : y.toInt = p) (hg : g < 8) (hp : p < 5) : (x * 5 + y).toInt = ((5 * g + p : Nat) : Int) := by
  have c5 : (5 : Int32).toInt = 5 := by decide
  have a : (x * 5).toInt = 5 * (g : Int) := by
    rw [gb_tmul (by rw [e1, c5]; omega) (by rw [e1, c5]; omega), e1, c5]
    omega
  rw [gb_tadd (by omega) (by omega), a, e2]
  omega
/-! it begins -/
theorem ch_b177 {n k0 kl : Nat} {R : Nat → Int32} {L : Option (Nat → Int32)} {w : Int} {σ0 : gb_S} (hR : gb_rB R) (hC : gb_SC R L k0 kl σ0) (h4 : (σ0.1 120 4).toInt = gb_Ow w (gb_nP R)) (ho : ∀ j, j < gb_Ow w (gb_nP R) → (σ0.1 124 j).toInt = gb_op w j) : ∀ (mm : Nat) (σ : gb_S) (v4 : Int32) (j : Nat), v4.toInt = j → j ≤ gb_Ow w (gb_nP R) → gb_fr1 127 σ0 σ → (∀ i, i < j → σ.1 127 (gb_op w i) = gb_PY R L (gb_op w i) (σ0.1 126 (gb_op w i))) → gb_hc (cs_Sharing_begin_B_n_177 n mm σ v4) (fun s _ => gb_fr1 127 σ0 s ∧ ∀ i, i < gb_Ow w (gb_nP R) → s.1 127 (gb_op w i) = gb_PY R L (gb_op w i) (σ0.1 126 (gb_op w i))) := by
  have h5 := (rB_nP hR).2
  have ol := Ow_le (w := w) (k := gb_nP R)
  intro mm
  induction mm with
  | zero =>
    intros
    exact hc_none
  | succ mm ih =>
    intro σ v4 j e hj hf t
    have c4 : (σ.1 120 4).toInt = gb_Ow w (gb_nP R) := by
      rw [hf.2 120 (by decide)]
      exact h4
    rw [cs_Sharing_begin_B_n_177]
    refine hc_if (fun c => hc_some ⟨hf, fun i hi => t i ?_⟩) (fun c => ?_)
    · have c' := gi_le c
      omega
    · have c' := gi_nle c
      rw [gi_tn e]
      refine hc_ck (fun _ _ => hc_lt (fun x ex => ?_))
      have xE : x.toInt = gb_op w j := by
        rw [ex, hf.2 124 (by decide)]
        exact ho j (by omega)
      have hC2 : gb_SC R L k0 kl σ := SC_k hC ⟨hf.1, fun q hq => hf.2 q (by omega)⟩
      refine hc_cd (ch_payA hC2 hR xE (op_lt (by omega))) (fun s u es => hc_lt (fun x2 ex2 => ih s x2 (j + 1) (gi_1 e (by omega) ex2) (by omega) ⟨by rw [es]; exact hf.1, fun q hq => by rw [es, gb_sun hq]; exact hf.2 q hq⟩ (fun i hi => ?_)))
      rw [es, gb_sus]
      by_cases z : i = j
      · rw [z, pk_us, hf.2 126 (by decide)]
      · rw [pk_un (fun y => z (op_inj y))]
        exact t i (by omega)
theorem ch_b97 {n k0 kl g : Nat} {R : Nat → Int32} {L : Option (Nat → Int32)} {w : Int} {σ1 : gb_S} {v4 : Int32} {k74 : gb_S → Int32 → gb_CR Unit} {Q : gb_S → Unit → Prop} (hR : gb_rB R) (hC : gb_SC R L k0 kl σ1) (e4 : v4.toInt = g) (hg : g < gb_nG R) (o0 : (σ1.1 124 0).toInt = gb_op w 0) (ol : gb_op w 0 < gb_nP R) (H : ∀ (s : gb_S) (x : Int32), x = v4 + 1 → s.2 = σ1.2 → (∀ q, q ≠ 123 → q ≠ 126 → s.1 q = σ1.1 q) → (∀ h p, h < g + 1 → p < gb_nP R → s.1 123 (5 * h + p) = gb_fm R h p) → s.1 126 = upd (σ1.1 126) (gb_op w 0) (σ1.1 126 (gb_op w 0) + gb_fm R g (gb_op w 0)) → gb_hc (k74 s x) Q) : ∀ (mm : Nat) (σ : gb_S) (v5 : Int32) (p : Nat), v5.toInt = p → p ≤ gb_nP R → gb_fr1 123 σ1 σ → (∀ h p2, h < g → p2 < gb_nP R → σ.1 123 (5 * h + p2) = gb_fm R h p2) → (∀ p2, p2 < p → σ.1 123 (5 * g + p2) = gb_fm R g p2) → gb_hc (cs_Sharing_begin_B_n_97 n k74 mm σ v4 v5) Q := by
  have h5 := (rB_nP hR).2
  have pE := (rB_nP hR).1
  have h8 := (rB_nG hR).2
  have t0 : Int32.toNatClampNeg 0 = 0 := by decide
  intro mm
  induction mm with
  | zero =>
    intros
    exact hc_none
  | succ mm ih =>
    intro σ v5 p e5 hp hf t1 t2
    have hC2 : gb_SC R L k0 kl σ := SC_k hC ⟨hf.1, fun q hq => hf.2 q (by omega)⟩
    rw [cs_Sharing_begin_B_n_97, hC2.1]
    refine hc_kk (fun _ => hc_cd ch_paths (fun s r g2 => ?_))
    obtain ⟨g1, g2⟩ := g2
    subst s
    have eR : σ.1 (k0 + 1) 0 = R 0 := hC2.2.1.1
    rw [eR] at g2
    subst g2
    refine hc_if (fun c => ?_) (fun c => ?_)
    · have c' := gi_le c
      rw [t0]
      refine hc_lt (fun x33 e33 => ?_)
      have E33 : x33.toInt = gb_op w 0 := by
        rw [e33, hf.2 124 (by decide)]
        exact o0
      rw [gi_tn E33]
      refine hc_ck (fun _ _ => hc_lt (fun x35 e35 => hc_lt (fun x36 e36 => ?_)))
      have E36 : x36.toInt = gb_op w 0 := by
        rw [e36, hf.2 124 (by decide)]
        exact o0
      rw [gi_tn (gi_g5 e4 E36 (by omega) (by omega))]
      refine hc_ck (fun _ _ => hc_lt (fun x38 e38 => hc_ck (fun _ _ => hc_lt (fun s es => hc_lt (fun x ex => H s x ex (by rw [es]; exact hf.1) (fun q a1 a2 => by rw [es, gb_sun a2]; exact hf.2 q a1) (fun h p2 a1 a2 => ?_) ?_)))))
      · rw [es, gb_sun (by decide)]
        by_cases z : h = g
        · rw [z]
          exact t2 p2 (by omega)
        · exact t1 h p2 (by omega) a2
      · rw [es, gb_sus, e35, e38, t2 _ (by omega), hf.2 126 (by decide)]
    · have c' := gi_nle c
      rw [hC2.1]
      refine hc_kk (fun _ => hc_cd (ch_marksFirst hC2.2.1 hR e4 hg e5 (by omega)) (fun s r g2 => ?_))
      obtain ⟨g1, g2⟩ := g2
      subst s
      rw [gi_tn (gi_g5 e4 e5 (by omega) (by omega))]
      refine hc_ck (fun _ _ => hc_lt (fun s es => hc_lt (fun x ex => ih s x (p + 1) (gi_1 e5 (by omega) ex) (by omega) ⟨by rw [es]; exact hf.1, fun q hq => by rw [es, gb_sun hq]; exact hf.2 q hq⟩ (fun h p2 a1 a2 => ?_) (fun p2 a1 => ?_))))
      · rw [es, gb_sus, pk_un (by omega)]
        exact t1 h p2 a1 a2
      · rw [es, gb_sus]
        by_cases z : p2 = p
        · rw [z, pk_us]
          exact g2
        · rw [pk_un (by omega)]
          exact t2 p2 (by omega)
theorem ch_b74 {n k0 kl : Nat} {R : Nat → Int32} {L : Option (Nat → Int32)} {w : Int} (hR : gb_rB R) (hO : 0 < gb_Ow w (gb_nP R)) : ∀ (mm : Nat) (σ : gb_S) (v4 : Int32) (g : Nat), v4.toInt = g → g ≤ gb_nG R → gb_SC R L k0 kl σ → (σ.1 120 4).toInt = gb_Ow w (gb_nP R) → (∀ j, j < gb_Ow w (gb_nP R) → (σ.1 124 j).toInt = gb_op w j) → (∀ h, h < g → σ.1 125 h = 0) → (∀ h p, h < g → p < gb_nP R → σ.1 123 (5 * h + p) = gb_fm R h p) → (∀ p, p < gb_nP R → σ.1 126 p = gb_T R (fun _ => gb_op w 0) p g) → gb_hc (cs_Sharing_begin_B_n_74 n mm σ v4) (fun s _ => gb_SI R L k0 kl w (fun _ => 0) s) := by
  have h5 := (rB_nP hR).2
  have h8 := (rB_nG hR).2
  have gE := (rB_nG hR).1
  have ol := op_lt hO
  have z0 : (0 : Int32).toInt = 0 := by decide
  intro mm
  induction mm with
  | zero =>
    intros
    exact hc_none
  | succ mm ih =>
    intro σ v4 g e hg hC h4 ho t5 t3 t6
    rw [cs_Sharing_begin_B_n_74, hC.1]
    refine hc_kk (fun _ => hc_cd ch_geese (fun s r g2 => ?_))
    obtain ⟨g1, g2⟩ := g2
    subst s
    have eR : σ.1 (k0 + 1) 1 = R 1 := (hC.2.1.2.1 rfl).1
    rw [eR] at g2
    subst g2
    refine hc_if (fun c => ?_) (fun c => ?_)
    · have c' := gi_le c
      have kE : g = gb_nG R := by omega
      subst kE
      refine hc_mono (ch_b177 (σ0 := σ) hR hC h4 ho n σ 0 0 (by decide) (Nat.zero_le _) ⟨rfl, fun _ _ => rfl⟩ (fun i hi => absurd hi (by omega))) (fun s u G => ?_)
      obtain ⟨⟨G1, G2⟩, G3⟩ := G
      refine ⟨SC_k hC ⟨G1, fun q hq => G2 q (by omega)⟩, by rw [G2 120 (by decide)]; exact h4, by rw [G2 124 (by decide)]; exact ho, fun h hh => ?_, fun h p a1 a2 => ?_, fun p hp => ?_, fun j hj => ?_⟩
      · rw [G2 125 (by decide), t5 h hh]
        exact z0
      · rw [G2 123 (by decide)]
        exact t3 h p a1 a2
      · rw [G2 126 (by decide)]
        exact t6 p hp
      · rw [G3 j hj, t6 _ (op_lt hj)]
        rfl
    · have c' := gi_nle c
      rw [gi_tn e]
      refine hc_ck (fun _ _ => hc_lt (fun s1 es1 => ?_))
      have c1 : ∀ q, q ≠ 125 → s1.1 q = σ.1 q := fun q hq => by rw [es1, gb_sun hq]
      have p1 : gb_pfr σ s1 := ⟨by rw [es1]; rfl, fun q hq => c1 q (by omega)⟩
      refine ch_b97 (w := w) (σ1 := s1) hR (SC_k hC p1) e (show g < gb_nG R by omega) (by rw [c1 124 (by decide)]; exact ho 0 hO) ol (fun s x ex q2 q3 q4 q6 => ih s x (g + 1) (gi_1 e (by omega) ex) (by omega) ?_ ?_ ?_ (fun h hh => ?_) q4 (fun p hp => ?_)) n s1 0 0 (by decide) (Nat.zero_le _) ⟨rfl, fun _ _ => rfl⟩ (fun h p a1 a2 => by rw [c1 123 (by decide)]; exact t3 h p a1 a2) (fun p2 hp2 => absurd hp2 (by omega))
      · refine SC_k (SC_k hC p1) ⟨q2, fun q hq => q3 q (by omega) (by omega)⟩
      · rw [q3 120 (by decide) (by decide), c1 120 (by decide)]
        exact h4
      · rw [q3 124 (by decide) (by decide), c1 124 (by decide)]
        exact ho
      · rw [q3 125 (by decide) (by decide), es1, gb_sus]
        by_cases z : h = g
        · rw [z, pk_us]
        · rw [pk_un z]
          exact t5 h (by omega)
      · have st : gb_T R (fun _ => gb_op w 0) p (g + 1) = if gb_op w 0 = p then gb_T R (fun _ => gb_op w 0) p g + gb_fm R g p else gb_T R (fun _ => gb_op w 0) p g := rfl
        rw [q6, c1 126 (by decide), st]
        by_cases z : gb_op w 0 = p
        · rw [if_pos z, ← z, pk_us, t6 _ ol]
        · rw [if_neg z, pk_un (fun y => z y.symm)]
          exact t6 p hp
theorem ch_b18 {n k0 kl : Nat} {R : Nat → Int32} {L : Option (Nat → Int32)} {w : Int} {v3 : Int32} (hR : gb_rB R) (hO : 0 < gb_Ow w (gb_nP R)) (e3 : v3.toInt = w) : ∀ (mm : Nat) (σ : gb_S) (v4 : Int32) (k : Nat), v4.toInt = k → k ≤ gb_nP R → gb_SC R L k0 kl σ → (σ.1 120 4).toInt = gb_Ow w k → (∀ j, j < gb_Ow w k → (σ.1 124 j).toInt = gb_op w j) → (∀ p, p < k → σ.1 126 p = 0) → gb_hc (cs_Sharing_begin_B_n_18 n mm σ v3 v4) (fun s _ => gb_SI R L k0 kl w (fun _ => 0) s) := by
  have h5 := (rB_nP hR).2
  have pE := (rB_nP hR).1
  have z1 : (1 : Int32).toInt = 1 := by decide
  intro mm
  induction mm with
  | zero =>
    intros
    exact hc_none
  | succ mm ih =>
    intro σ v4 k e hk hC h4 ho t6
    have ol := Ow_le (w := w) (k := k)
    rw [cs_Sharing_begin_B_n_18, hC.1]
    refine hc_kk (fun _ => hc_cd ch_paths (fun s r g2 => ?_))
    obtain ⟨g1, g2⟩ := g2
    subst s
    have eR : σ.1 (k0 + 1) 0 = R 0 := hC.2.1.1
    rw [eR] at g2
    subst g2
    refine hc_if (fun c => ?_) (fun c => ?_)
    · have c' := gi_le c
      have kE : k = gb_nP R := by omega
      subst kE
      exact ch_b74 hR hO n σ 0 0 (by decide) (Nat.zero_le _) hC h4 ho (fun h hh => absurd hh (by omega)) (fun h p a1 _ => absurd a1 (by omega)) t6
    · have c' := gi_nle c
      rw [gi_tn e]
      refine hc_ck (fun _ _ => hc_lt (fun s1 es1 => ?_))
      have c1 : ∀ q, q ≠ 126 → s1.1 q = σ.1 q := fun q hq => by rw [es1, gb_sun hq]
      have p1 : gb_pfr σ s1 := ⟨by rw [es1]; rfl, fun q hq => c1 q (by omega)⟩
      have t61 : ∀ p, p < k + 1 → s1.1 126 p = 0 := fun p hp => by
        rw [es1, gb_sus]
        by_cases z : p = k
        · rw [z, pk_us]
        · rw [pk_un z]
          exact t6 p (by omega)
      refine hc_if (fun d => hc_lt (fun x ex => ?_)) (fun d => ?_)
      · have ke : (k : Int) = w := by rw [← e, d, e3]
        have oe := Ow_e ke
        refine ih s1 x (k + 1) (gi_1 e (by omega) ex) (by omega) (SC_k hC p1) ?_ ?_ t61
        · rw [c1 120 (by decide), oe]
          exact h4
        · rw [c1 124 (by decide), oe]
          exact ho
      · have ke : ¬ (k : Int) = w := fun z => d (gb_ieq (by rw [e, e3]; exact z))
        have os := Ow_s ke
        have i4 : (s1.1 120 4).toInt = gb_Ow w k := by
          rw [c1 120 (by decide)]
          exact h4
        rw [gi_tn i4]
        refine hc_ck (fun _ _ => hc_lt (fun s2 es2 => hc_lt (fun s3 es3 => hc_lt (fun x ex => ?_))))
        have c2 : ∀ q, q ≠ 120 → q ≠ 124 → s3.1 q = s1.1 q := fun q a1 a2 => by rw [es3, gb_sun a1, es2, gb_sun a2]
        have p2 : gb_pfr s1 s3 := ⟨by rw [es3, es2]; rfl, fun q hq => c2 q (by omega) (by omega)⟩
        refine ih s3 x (k + 1) (gi_1 e (by omega) ex) (by omega) (SC_k (SC_k hC p1) p2) ?_ (fun j hj => ?_) (fun p hp => ?_)
        · rw [es3, gb_sus, pk_us, es2, gb_sun (by decide), gb_tadd (by omega) (by omega), i4, z1, os.1]
          omega
        · rw [os.1] at hj
          rw [es3, gb_sun (by decide), es2, gb_sus]
          by_cases z : j = gb_Ow w k
          · rw [z, pk_us, os.2]
            exact e
          · rw [pk_un z, c1 124 (by decide)]
            exact ho j (by omega)
        · rw [c2 126 (by decide) (by decide)]
          exact t61 p hp
/-! what a row is worth -/
theorem ch_spread {n k0 kl : Nat} {R : Nat → Int32} {L : Option (Nat → Int32)} {w : Int} {r : Nat → Nat} {σ : gb_S} (hR : gb_rB R) (hO : 0 < gb_Ow w (gb_nP R)) (h : gb_SI R L k0 kl w r σ) (vi : ∀ j, j < gb_Ow w (gb_nP R) → 0 ≤ (gb_Vw R L w r j).toInt ∧ (gb_Vw R L w r j).toInt ≤ 60000) : gb_hc (cs_Sharing_spread n σ) (fun s q => s = σ ∧ q.toInt = gb_mxs (gb_Vw R L w r) (gb_Ow w (gb_nP R) - 1) - gb_mns (gb_Vw R L w r) (gb_Ow w (gb_nP R) - 1)) := by
  have h5 := (rB_nP hR).2
  have ol := Ow_le (w := w) (k := gb_nP R)
  have t0 : Int32.toNatClampNeg 0 = 0 := by decide
  obtain ⟨h1, h2, h3, h4, h5', h6, h7⟩ := h
  have go : ∀ (mm : Nat) (v1 v2 v3 : Int32) (k : Nat), v3.toInt = ((k + 1 : Nat) : Int) → k + 1 ≤ gb_Ow w (gb_nP R) → v1.toInt = gb_mxs (gb_Vw R L w r) k → v2.toInt = gb_mns (gb_Vw R L w r) k → gb_hc (cs_Sharing_spread_16 n mm σ v1 v2 v3) (fun s q => s = σ ∧ q.toInt = gb_mxs (gb_Vw R L w r) (gb_Ow w (gb_nP R) - 1) - gb_mns (gb_Vw R L w r) (gb_Ow w (gb_nP R) - 1)) := by
    intro mm
    induction mm with
    | zero =>
      intros
      exact hc_none
    | succ mm ih =>
      intro v1 v2 v3 k e hk e1 e2
      have b := mxs_b (V := gb_Vw R L w r) (B := 60000) k (fun j hj => vi j (by omega))
      rw [cs_Sharing_spread_16]
      refine hc_if (fun c => hc_some ⟨rfl, ?_⟩) (fun c => ?_)
      · have c' := gi_le c
        rw [show gb_Ow w (gb_nP R) - 1 = k by omega, gb_tsub (by omega) (by omega), e1, e2]
      · have c' := gi_nle c
        have hk1 : k + 1 < gb_Ow w (gb_nP R) := by omega
        rw [gi_tn e]
        refine hc_ck (fun _ _ => hc_lt (fun x6 e6 => ?_))
        have E6 : x6.toInt = gb_op w (k + 1) := by
          rw [e6]
          exact h3 _ hk1
        rw [gi_tn E6]
        refine hc_ck (fun _ _ => hc_lt (fun x8 e8 => hc_lt (fun x9 e9 => hc_ck (fun _ _ => hc_lt (fun x11 e11 => ?_)))))
        have E11 : x11.toInt = gb_op w (k + 1) := by
          rw [e11]
          exact h3 _ hk1
        rw [gi_tn E11]
        refine hc_ck (fun _ _ => hc_lt (fun x13 e13 => hc_lt (fun x14 e14 => hc_lt (fun x ex => ih x9 x14 x (k + 1) (gi_1 e (by omega) ex) (by omega) ?_ ?_))))
        · rw [h7 _ hk1] at e8
          have st : gb_mxs (gb_Vw R L w r) (k + 1) = if gb_mxs (gb_Vw R L w r) k < (gb_Vw R L w r (k + 1)).toInt then (gb_Vw R L w r (k + 1)).toInt else gb_mxs (gb_Vw R L w r) k := rfl
          rw [e9, e8, st]
          by_cases z : v1 < gb_Vw R L w r (k + 1)
          · have z' := gi_lt z
            rw [if_pos z, if_pos (by omega)]
          · have z' := gi_nlt z
            rw [if_neg z, if_neg (by omega), e1]
        · rw [h7 _ hk1] at e13
          have st : gb_mns (gb_Vw R L w r) (k + 1) = if (gb_Vw R L w r (k + 1)).toInt < gb_mns (gb_Vw R L w r) k then (gb_Vw R L w r (k + 1)).toInt else gb_mns (gb_Vw R L w r) k := rfl
          rw [e14, e13, st]
          by_cases z : gb_Vw R L w r (k + 1) < v2
          · have z' := gi_lt z
            rw [if_pos z, if_pos (by omega)]
          · have z' := gi_nlt z
            rw [if_neg z, if_neg (by omega), e2]
  unfold cs_Sharing_spread
  rw [t0]
  refine hc_lt (fun x1 e1 => ?_)
  have E1 : x1.toInt = gb_op w 0 := by
    rw [e1]
    exact h3 0 hO
  rw [gi_tn E1]
  refine hc_ck (fun _ _ => hc_lt (fun x3 e3 => go n x3 x3 1 0 (by decide) (by omega) ?_ ?_))
  · rw [e3, h7 0 hO]
    rfl
  · rw [e3, h7 0 hO]
    rfl
theorem ch_together {n k0 kl : Nat} {R : Nat → Int32} {L : Option (Nat → Int32)} {w : Int} {r : Nat → Nat} {σ : gb_S} (hR : gb_rB R) (h : gb_SI R L k0 kl w r σ) : gb_hc (cs_Sharing_together n σ) (fun s q => s = σ ∧ q = gb_tgs (gb_Vw R L w r) (gb_Ow w (gb_nP R))) := by
  have h5 := (rB_nP hR).2
  have ol := Ow_le (w := w) (k := gb_nP R)
  obtain ⟨h1, h2, h3, h4, h5', h6, h7⟩ := h
  have go : ∀ (mm : Nat) (v1 v2 : Int32) (k : Nat), v2.toInt = k → k ≤ gb_Ow w (gb_nP R) → v1 = gb_tgs (gb_Vw R L w r) k → gb_hc (cs_Sharing_together_4 n mm σ v1 v2) (fun s q => s = σ ∧ q = gb_tgs (gb_Vw R L w r) (gb_Ow w (gb_nP R))) := by
    intro mm
    induction mm with
    | zero =>
      intros
      exact hc_none
    | succ mm ih =>
      intro v1 v2 k e hk e1
      rw [cs_Sharing_together_4]
      refine hc_if (fun c => hc_some ⟨rfl, ?_⟩) (fun c => ?_)
      · have c' := gi_le c
        rw [e1, show k = gb_Ow w (gb_nP R) by omega]
      · have c' := gi_nle c
        rw [gi_tn e]
        refine hc_ck (fun _ _ => hc_lt (fun x3 e3 => ?_))
        have E3 : x3.toInt = gb_op w k := by
          rw [e3]
          exact h3 _ (by omega)
        rw [gi_tn E3]
        refine hc_ck (fun _ _ => hc_lt (fun x5 e5 => hc_lt (fun x6 e6 => hc_lt (fun x ex => ih x6 x (k + 1) (gi_1 e (by omega) ex) (by omega) ?_))))
        rw [e6, e1, e5, h7 k (by omega)]
        rfl
  unfold cs_Sharing_together
  exact go n 0 0 0 (by decide) (Nat.zero_le _) rfl
theorem ch_keep {n k0 kl : Nat} {R : Nat → Int32} {L : Option (Nat → Int32)} {w : Int} {r : Nat → Nat} {σ : gb_S} (hR : gb_rB R) (hO : 0 < gb_Ow w (gb_nP R)) (hr : ∀ g, g < gb_nG R → r g < gb_Ow w (gb_nP R)) (h : gb_SI R L k0 kl w r σ) : gb_hc (cs_Sharing_keepRow n σ) (fun s _ => s.2 = σ.2 ∧ (∀ q, q ≠ 128 → q ≠ 129 → s.1 q = σ.1 q) ∧ (∀ g, g < gb_nG R → (s.1 128 g).toInt = gb_op w (r g)) ∧ ∀ j, j < gb_Ow w (gb_nP R) → s.1 129 (gb_op w j) = gb_Vw R L w r j) := by
  have h5 := (rB_nP hR).2
  have h8 := (rB_nG hR).2
  have gE := (rB_nG hR).1
  have ol := Ow_le (w := w) (k := gb_nP R)
  obtain ⟨h1, h2, h3, h4, h5', h6, h7⟩ := h
  have go : ∀ (mm : Nat) (s1 : gb_S) (v1 : Int32) (g : Nat), v1.toInt = g → g ≤ gb_nG R → gb_fr1 128 σ s1 → (∀ h, h < g → (s1.1 128 h).toInt = gb_op w (r h)) → gb_hc (cs_Sharing_keepRow_2 n mm s1 v1) (fun s _ => s.2 = σ.2 ∧ (∀ q, q ≠ 128 → q ≠ 129 → s.1 q = σ.1 q) ∧ (∀ g, g < gb_nG R → (s.1 128 g).toInt = gb_op w (r g)) ∧ ∀ j, j < gb_Ow w (gb_nP R) → s.1 129 (gb_op w j) = gb_Vw R L w r j) := by
    intro mm
    induction mm with
    | zero =>
      intros
      exact hc_none
    | succ mm ih =>
      intro s1 v1 g e hg hf t
      have hC : gb_SC R L k0 kl s1 := SC_k h1 ⟨hf.1, fun q hq => hf.2 q (by omega)⟩
      rw [cs_Sharing_keepRow_2, hC.1]
      refine hc_kk (fun _ => hc_cd ch_geese (fun s q2 g2 => ?_))
      obtain ⟨g1, g2⟩ := g2
      subst s
      have eR : s1.1 (k0 + 1) 1 = R 1 := (hC.2.1.2.1 rfl).1
      rw [eR] at g2
      subst g2
      refine hc_if (fun c => hc_ac (hc_lt (fun s es => hc_some ⟨by rw [es]; exact hf.1, fun q a1 a2 => by rw [es, gb_sun a2]; exact hf.2 q a1, fun h hh => ?_, fun j hj => ?_⟩))) (fun c => ?_)
      · have c' := gi_le c
        rw [es, gb_sun (by decide)]
        exact t h (by omega)
      · have o := op_lt hj
        rw [es, gb_sus]
        unfold va_cpy
        have e0 : Int32.toNatClampNeg 0 = 0 := by decide
        have e5 : Int32.toNatClampNeg 5 = 5 := by decide
        rw [e0, e5, if_pos ⟨by omega, by omega⟩, show 0 + (gb_op w j - 0) = gb_op w j by omega, hf.2 127 (by decide)]
        exact h7 j hj
      · have c' := gi_nle c
        rw [gi_tn e]
        refine hc_ck (fun _ _ => hc_lt (fun x10 e10 => ?_))
        have E10 : x10.toInt = r g := by
          rw [e10, hf.2 125 (by decide)]
          exact h4 g (by omega)
        rw [gi_tn E10]
        refine hc_ck (fun _ _ => hc_lt (fun x12 e12 => hc_ck (fun _ _ => hc_lt (fun s es => hc_lt (fun x ex => ih s x (g + 1) (gi_1 e (by omega) ex) (by omega) ⟨by rw [es]; exact hf.1, fun q hq => by rw [es, gb_sun hq]; exact hf.2 q hq⟩ (fun h hh => ?_))))))
        rw [es, gb_sus]
        by_cases z : h = g
        · rw [z, pk_us, e12, hf.2 124 (by decide)]
          exact h3 _ (hr g (by omega))
        · rw [pk_un z]
          exact t h (by omega)
  unfold cs_Sharing_keepRow
  exact go n σ 0 0 (by decide) (Nat.zero_le _) ⟨rfl, fun _ _ => rfl⟩ (fun h hh => absurd hh (by omega))
/-! SHARING: the next row, and the best one -/
def gb_fr3 (σ s : gb_S) : Prop := s.2 = σ.2 ∧ ∀ q, q ≠ 125 → q ≠ 126 → q ≠ 127 → s.1 q = σ.1 q
theorem fr3_t {a b c : gb_S} (h : gb_fr3 a b) (g : gb_fr3 b c) : gb_fr3 a c := ⟨g.1.trans h.1, fun q a1 a2 a3 => (g.2 q a1 a2 a3).trans (h.2 q a1 a2 a3)⟩
theorem ch_adv68 {n k0 kl g d : Nat} {R : Nat → Int32} {L : Option (Nat → Int32)} {w : Int} {r : Nat → Nat} {σ : gb_S} {v1 v2 v3 t0 : Int32} {k10 : gb_S → Int32 → gb_CR Unit} {Q : gb_S → Unit → Prop} (hR : gb_rB R) (h : gb_SI R L k0 kl w r σ) (hr : r g < gb_Ow w (gb_nP R)) (e1 : v1.toInt = g) (hg : g < gb_nG R) (e2 : v2.toInt = gb_op w (r g)) (et : t0.toInt = d) (hd : d < gb_Ow w (gb_nP R)) (H : ∀ s, gb_SI R L k0 kl w (fun h => if h = g then d else r h) s → gb_fr3 σ s → gb_hc (if v3 = 0 then some (s, ()) else gb_lt (v1 + (-1)) (fun x => k10 s x)) Q) : gb_hc (cs_Sharing_advance_68 n k10 σ v1 v2 v3 t0 v1) Q := by
  have h5 := (rB_nP hR).2
  have h8 := (rB_nG hR).2
  have of := op_lt hr
  have ot := op_lt hd
  obtain ⟨h1, h2, h3, h4, h5', h6, h7⟩ := h
  unfold cs_Sharing_advance_68
  rw [gi_tn e1]
  refine hc_ck (fun _ _ => hc_lt (fun s19 e19 => hc_ck (fun _ _ => hc_lt (fun x21 e21 => ?_))))
  have E21 : x21.toInt = d := by
    rw [e21, e19, gb_sus, pk_us]
    exact et
  rw [gi_tn E21]
  refine hc_ck (fun _ _ => hc_lt (fun x23 e23 => ?_))
  have E23 : x23.toInt = gb_op w d := by
    rw [e23, e19, gb_sun (by decide)]
    exact h3 d hd
  rw [gi_tn e2, gi_tn E23, gi_tn (gi_g5 e1 e2 (by omega) (by omega)), gi_tn (gi_g5 e1 E23 (by omega) (by omega))]
  refine hc_ck (fun _ _ => hc_lt (fun x25 e25 => hc_ck (fun _ _ => hc_lt (fun x27 e27 => hc_ck (fun _ _ => hc_lt (fun s29 e29 => hc_ck (fun _ _ => hc_lt (fun x31 e31 => hc_ck (fun _ _ => hc_lt (fun x33 e33 => hc_ck (fun _ _ => hc_lt (fun s35 e35 => ?_))))))))))))
  have c35 : ∀ q, q ≠ 125 → q ≠ 126 → s35.1 q = σ.1 q := fun q a1 a2 => by rw [e35, gb_sun a2, e29, gb_sun a2, e19, gb_sun a1]
  have q35 : s35.2 = σ.2 := by
    rw [e35, e29, e19]
    rfl
  have X25 : x25 = σ.1 126 (gb_op w (r g)) := by rw [e25, e19, gb_sun (by decide)]
  have X27 : x27 = gb_fm R g (gb_op w (r g)) := by
    rw [e27, e19, gb_sun (by decide)]
    exact h5' g _ hg of
  have X33 : x33 = gb_fm R g (gb_op w d) := by
    rw [e33, e29, gb_sun (by decide), e19, gb_sun (by decide)]
    exact h5' g _ hg ot
  have F1 : s29.1 126 = upd (σ.1 126) (gb_op w (r g)) (x25 - x27) := by rw [e29, gb_sus, e19, gb_sun (by decide)]
  have F2 : s35.1 126 = upd (upd (σ.1 126) (gb_op w (r g)) (x25 - x27)) (gb_op w d) (x31 + x33) := by rw [e35, gb_sus, F1]
  have tE : ∀ p, p < gb_nP R → s35.1 126 p = gb_T R (fun h => gb_op w (if h = g then d else r h)) p (gb_nG R) := by
    intro p hp
    have p5 : p < 5 := by omega
    have a1 := T_E (a := fun g => gb_op w (r g)) hR p5 (gb_nG R) h8
    have a2 := td_i (a := fun g => gb_op w (r g)) hR p5 (gb_nG R) h8
    have f1 := T_E (a := fun g => gb_op w (r g)) hR (show gb_op w (r g) < 5 by omega) (gb_nG R) h8
    have f2 := td_i (a := fun g => gb_op w (r g)) hR (show gb_op w (r g) < 5 by omega) (gb_nG R) h8
    have mf : 0 ≤ (gb_fm R g (gb_op w (r g))).toInt ∧ (gb_fm R g (gb_op w (r g))).toInt ≤ 416 := fM_i hR (show gb_op w (r g) < 5 by omega) g (by omega)
    have mt : 0 ≤ (gb_fm R g (gb_op w d)).toInt ∧ (gb_fm R g (gb_op w d)).toInt ≤ 416 := fM_i hR (show gb_op w d < 5 by omega) g (by omega)
    have u := td_u (R := R) (a := fun g => gb_op w (r g)) (p := p) (g := g) (t := gb_op w d) (gb_nG R) hg
    have u2 : gb_td R (fun h => gb_op w (if h = g then d else r h)) p (gb_nG R) = gb_td R (fun h => if h = g then gb_op w d else gb_op w (r h)) p (gb_nG R) := td_c (gb_nG R) (fun h hh => by
      show gb_op w (if h = g then d else r h) = if h = g then gb_op w d else gb_op w (r h)
      by_cases z : h = g
      · rw [if_pos z, if_pos z]
      · rw [if_neg z, if_neg z])
    have mF : ∀ p g, gb_fM R p g = (gb_fm R g p).toInt := fun _ _ => rfl
    refine gb_ieq ?_
    rw [T_E hR p5 (gb_nG R) h8, u2, u, F2]
    rw [← h6 p hp] at a1
    rw [← h6 _ of] at f1
    have xs : (x25 - x27).toInt = (σ.1 126 (gb_op w (r g))).toInt - (gb_fm R g (gb_op w (r g))).toInt := by
      rw [X25, X27, gb_tsub (by omega) (by omega)]
    by_cases z : p = gb_op w d
    · rw [z, pk_us, if_pos (show gb_op w d = gb_op w d from rfl), mF]
      rw [← z] at X33 mt ⊢
      by_cases y : gb_op w (r g) = p
      · have X31 : x31 = x25 - x27 := by rw [e31, F1, ← z, ← y, pk_us]
        rw [if_pos y, gb_tadd (by rw [X31, X33]; omega) (by rw [X31, X33]; omega), X31, X33, xs, f1, y]
      · have X31 : x31 = σ.1 126 p := by rw [e31, F1, ← z, pk_un (fun q => y q.symm)]
        rw [if_neg y, gb_tadd (by rw [X31, X33]; omega) (by rw [X31, X33]; omega), X31, X33, a1]
        omega
    · rw [pk_un z, if_neg (show ¬ gb_op w d = p from fun q => z q.symm)]
      by_cases y : gb_op w (r g) = p
      · rw [if_pos y, ← y, pk_us, xs, f1, mF]
        omega
      · rw [if_neg y, pk_un (fun q => y q.symm), a1]
        omega
  have hC : gb_SC R L k0 kl s35 := SC_k h1 ⟨q35, fun q hq => c35 q (by omega) (by omega)⟩
  refine hc_cd (ch_payA hC hR e2 of) (fun s36 u e36 => ?_)
  have hC2 : gb_SC R L k0 kl s36 := SC_k hC ⟨by rw [e36]; rfl, fun q hq => by rw [e36, gb_sun (by omega)]⟩
  refine hc_cd (ch_payA hC2 hR E23 ot) (fun s40 u e40 => ?_)
  have c40 : ∀ q, q ≠ 127 → s40.1 q = s35.1 q := fun q hq => by rw [e40, gb_sun hq, e36, gb_sun hq]
  have q40 : s40.2 = σ.2 := by
    rw [e40, e36]
    exact q35
  refine H s40 ⟨SC_k hC2 ⟨by rw [e40]; rfl, fun q hq => by rw [e40, gb_sun (by omega)]⟩, ?_, ?_, fun h hh => ?_, fun h p a1 a2 => ?_, fun p hp => ?_, fun j hj => ?_⟩ ⟨q40, fun q a1 a2 a3 => by rw [c40 q a3, c35 q a1 a2]⟩
  · rw [c40 120 (by decide), c35 120 (by decide) (by decide)]
    exact h2
  · rw [c40 124 (by decide), c35 124 (by decide) (by decide)]
    exact h3
  · have q5 : s40.1 125 = upd (σ.1 125) g t0 := by rw [c40 125 (by decide), e35, gb_sun (by decide), e29, gb_sun (by decide), e19, gb_sus]
    rw [q5]
    show _ = (((if h = g then d else r h) : Nat) : Int)
    by_cases z : h = g
    · rw [z, pk_us, if_pos rfl]
      exact et
    · rw [pk_un z, if_neg z]
      exact h4 h hh
  · rw [c40 123 (by decide), c35 123 (by decide) (by decide)]
    exact h5' h p a1 a2
  · rw [c40 126 (by decide)]
    exact tE p hp
  · have oj := op_lt hj
    have q7 : s40.1 127 = upd (upd (σ.1 127) (gb_op w (r g)) (gb_PY R L (gb_op w (r g)) (s35.1 126 (gb_op w (r g))))) (gb_op w d) (gb_PY R L (gb_op w d) (s35.1 126 (gb_op w d))) := by
      rw [e40, gb_sus, e36, gb_sus, gb_sun (by decide), c35 127 (by decide) (by decide)]
    rw [q7]
    unfold gb_Vw
    show _ = gb_PY R L (gb_op w j) (gb_T R (fun h => gb_op w (if h = g then d else r h)) (gb_op w j) (gb_nG R))
    rw [← tE _ oj]
    by_cases z : gb_op w j = gb_op w d
    · rw [z, pk_us]
    · rw [pk_un z]
      by_cases y : gb_op w j = gb_op w (r g)
      · rw [y, pk_us]
      · have s126 : s35.1 126 (gb_op w j) = σ.1 126 (gb_op w j) := by rw [F2, pk_un z, pk_un y]
        rw [pk_un y, s126, h7 j hj, h6 _ oj]
        rfl
theorem md_1 {q O : Nat} (hO : 0 < O) : (q % O + 1 < O → (q + 1) / O = q / O ∧ (q + 1) % O = q % O + 1) ∧ (q % O + 1 = O → (q + 1) / O = q / O + 1 ∧ (q + 1) % O = 0) := by
  have dm := Nat.div_add_mod q O
  constructor
  · intro h
    have e : q + 1 = O * (q / O) + (q % O + 1) := by omega
    have d : (O * (q / O) + (q % O + 1)) / O = q / O := by rw [Nat.mul_add_div hO, Nat.div_eq_of_lt h, Nat.add_zero]
    have m : (O * (q / O) + (q % O + 1)) % O = q % O + 1 := by rw [Nat.mul_add_mod, Nat.mod_eq_of_lt h]
    rw [← e] at d m
    exact ⟨d, m⟩
  · intro h
    have e : q + 1 = O * (q / O + 1) := by
      rw [Nat.mul_add, Nat.mul_one]
      omega
    constructor
    · rw [e, Nat.mul_div_cancel_left _ hO]
    · rw [e, Nat.mul_mod_right]
theorem ch_adv10 {n k0 kl i : Nat} {R : Nat → Int32} {L : Option (Nat → Int32)} {w : Int} {σ0 : gb_S} (hR : gb_rB R) (hO : 0 < gb_Ow w (gb_nP R)) : ∀ (mm : Nat) (σ : gb_S) (v1 : Int32) (t : Nat) (r : Nat → Nat), v1.toInt = (t : Int) - 1 → t ≤ gb_nG R → gb_SI R L k0 kl w r σ → (∀ h, h < t → r h = gb_dgt (gb_Ow w (gb_nP R)) (gb_nG R) i h) → (∀ h, t ≤ h → h < gb_nG R → r h = gb_dgt (gb_Ow w (gb_nP R)) (gb_nG R) (i + 1) h) → (i + 1) / gb_Ow w (gb_nP R) ^ (gb_nG R - t) = i / gb_Ow w (gb_nP R) ^ (gb_nG R - t) + 1 → gb_fr3 σ0 σ → gb_hc (cs_Sharing_advance_10 n mm σ v1) (fun s _ => gb_SI R L k0 kl w (gb_dgt (gb_Ow w (gb_nP R)) (gb_nG R) (i + 1)) s ∧ gb_fr3 σ0 s) := by
  have h5 := (rB_nP hR).2
  have h8 := (rB_nG hR).2
  have ol := Ow_le (w := w) (k := gb_nP R)
  have z0 : (0 : Int32).toInt = 0 := by decide
  have z1 : (1 : Int32).toInt = 1 := by decide
  have m1 : (-1 : Int32).toInt = -1 := by decide
  intro mm
  induction mm with
  | zero =>
    intros
    exact hc_none
  | succ mm ih =>
    intro σ v1 t r e ht hS lo hi car hf
    rw [cs_Sharing_advance_10]
    refine hc_if (fun c => hc_some ⟨SI_c hS (fun h hh => ?_), hf⟩) (fun c => ?_)
    · have c' := gi_lt c
      exact hi h (by omega) hh
    · have c' := gi_nlt c
      obtain ⟨g, rfl⟩ : ∃ g, t = g + 1 := ⟨t - 1, by omega⟩
      have e' : v1.toInt = (g : Int) := by omega
      have rg : r g = i / gb_Ow w (gb_nP R) ^ (gb_nG R - (g + 1)) % gb_Ow w (gb_nP R) := by
        rw [lo g (by omega)]
        unfold gb_dgt
        rw [show gb_nG R - 1 - g = gb_nG R - (g + 1) by omega]
      have dg1 : gb_dgt (gb_Ow w (gb_nP R)) (gb_nG R) (i + 1) g = (i / gb_Ow w (gb_nP R) ^ (gb_nG R - (g + 1)) + 1) % gb_Ow w (gb_nP R) := by
        unfold gb_dgt
        rw [show gb_nG R - 1 - g = gb_nG R - (g + 1) by omega, car]
      have md := md_1 (q := i / gb_Ow w (gb_nP R) ^ (gb_nG R - (g + 1))) hO
      have rl : r g < gb_Ow w (gb_nP R) := by
        rw [rg]
        exact Nat.mod_lt _ hO
      have h4 := hS.2.2.2.1 g (by omega)
      have h2 := hS.2.1
      rw [gi_tn e']
      refine hc_ck (fun _ _ => hc_lt (fun x9 e9 => ?_))
      have E9 : x9.toInt = r g := by rw [e9]; exact h4
      rw [gi_tn E9]
      refine hc_ck (fun _ _ => hc_lt (fun x11 e11 => hc_ck (fun _ _ => hc_lt (fun x13 e13 => ?_))))
      have E11 : x11.toInt = gb_op w (r g) := by
        rw [e11]
        exact hS.2.2.1 _ rl
      have E13 : x13.toInt = r g := by rw [e13]; exact h4
      have E14 : (x13 + 1).toInt = (r g : Int) + 1 := by
        rw [gb_tadd (by omega) (by omega), E13, z1]
      refine hc_if (fun d => ?_) (fun d => ?_)
      · have d' := gi_lt d
        have lt1 : r g + 1 < gb_Ow w (gb_nP R) := by omega
        unfold cs_Sharing_advance_46
        rw [if_pos (show (0 : Int32) = 0 from rfl), gi_tn e']
        refine hc_ck (fun _ _ => hc_lt (fun x17 e17 => ch_adv68 (d := r g + 1) hR hS rl e' (by omega) E11 ?_ lt1 (fun s hs fs => ?_)))
        · have E17 : x17.toInt = r g := by rw [e17]; exact h4
          rw [gb_tadd (by omega) (by omega), E17, z1]
          omega
        · rw [if_pos (show (0 : Int32) = 0 from rfl)]
          rw [rg] at lt1
          have m := md.1 lt1
          refine hc_some ⟨SI_c hs (fun h hh => ?_), fr3_t hf fs⟩
          show (if h = g then r g + 1 else r h) = _
          by_cases z : h = g
          · rw [if_pos z, z, dg1, m.2, rg]
          · rw [if_neg z]
            by_cases y : h < g
            · rw [lo h (by omega)]
              unfold gb_dgt
              have ex : gb_nG R - 1 - h = gb_nG R - (g + 1) + (1 + (g - 1 - h)) := by omega
              rw [ex, Nat.pow_add, ← Nat.div_div_eq_div_mul, ← Nat.div_div_eq_div_mul, car, Nat.pow_add, Nat.pow_one, ← Nat.div_div_eq_div_mul, ← Nat.div_div_eq_div_mul, m.1]
            · exact hi h (by omega) hh
      · have d' := gi_nlt d
        have eq1 : r g + 1 = gb_Ow w (gb_nP R) := by omega
        unfold cs_Sharing_advance_46
        rw [if_neg (show ¬ (1 : Int32) = 0 by decide)]
        refine ch_adv68 (d := 0) hR hS rl e' (by omega) E11 z0 hO (fun s hs fs => ?_)
        rw [if_neg (show ¬ (1 : Int32) = 0 by decide)]
        rw [rg] at eq1
        have m := md.2 eq1
        refine hc_lt (fun x ex => ih s x g _ ?_ (by omega) hs (fun h hh => ?_) (fun h h1 h2 => ?_) ?_ (fr3_t hf fs))
        · rw [ex, gb_tadd (by omega) (by omega), m1, e']
          omega
        · show (if h = g then 0 else r h) = _
          rw [if_neg (by omega)]
          exact lo h (by omega)
        · show (if h = g then 0 else r h) = _
          by_cases z : h = g
          · rw [if_pos z, z, dg1, m.2]
          · rw [if_neg z]
            exact hi h (by omega) h2
        · rw [show gb_nG R - g = gb_nG R - (g + 1) + 1 by omega, Nat.pow_succ, ← Nat.div_div_eq_div_mul, ← Nat.div_div_eq_div_mul, car, m.1]
theorem ch_adv {n k0 kl i : Nat} {R : Nat → Int32} {L : Option (Nat → Int32)} {w : Int} {σ : gb_S} (hR : gb_rB R) (hO : 0 < gb_Ow w (gb_nP R)) (h : gb_SI R L k0 kl w (gb_dgt (gb_Ow w (gb_nP R)) (gb_nG R) i) σ) : gb_hc (cs_Sharing_advance n σ) (fun s _ => gb_SI R L k0 kl w (gb_dgt (gb_Ow w (gb_nP R)) (gb_nG R) (i + 1)) s ∧ gb_fr3 σ s) := by
  have h8 := (rB_nG hR).2
  have gE := (rB_nG hR).1
  have z1 : (1 : Int32).toInt = 1 := by decide
  have hC := h.1
  unfold cs_Sharing_advance
  rw [hC.1]
  refine hc_kk (fun _ => hc_cd ch_geese (fun s q2 g2 => ?_))
  obtain ⟨g1, g2⟩ := g2
  subst s
  have eR : σ.1 (k0 + 1) 1 = R 1 := (hC.2.1.2.1 rfl).1
  rw [eR] at g2
  subst g2
  refine hc_lt (fun x ex => ch_adv10 (σ0 := σ) hR hO n σ x (gb_nG R) _ ?_ (Nat.le_refl _) h (fun _ _ => rfl) (fun g a b => absurd a (by omega)) ?_ ⟨rfl, fun _ _ _ _ => rfl⟩)
  · rw [ex, gb_tsub (by omega) (by omega), gE, z1]
  · rw [Nat.sub_self, Nat.pow_zero, Nat.div_one, Nat.div_one]
/-! all rows -/
def gb_Ds (R : Nat → Int32) (L : Option (Nat → Int32)) (w : Int) (i : Nat) : Int := gb_Dv L (gb_Vw R L w (gb_dgt (gb_Ow w (gb_nP R)) (gb_nG R) i)) (gb_Ow w (gb_nP R))
def gb_Bt (R : Nat → Int32) (L : Option (Nat → Int32)) (w : Int) (j : Nat) (σ : gb_S) : Prop := (σ.1 120 10).toInt = -(gb_Ds R L w (gb_amn (gb_Ds R L w) j)) ∧ (∀ g, g < gb_nG R → (σ.1 128 g).toInt = gb_op w (gb_dgt (gb_Ow w (gb_nP R)) (gb_nG R) (gb_amn (gb_Ds R L w) j) g)) ∧ ∀ i, i < gb_Ow w (gb_nP R) → σ.1 129 (gb_op w i) = gb_Vw R L w (gb_dgt (gb_Ow w (gb_nP R)) (gb_nG R) (gb_amn (gb_Ds R L w) j)) i
theorem ch_s74 {n k0 kl i : Nat} {R : Nat → Int32} {L : Option (Nat → Int32)} {w : Int} {σ : gb_S} {v4 v5 t0 : Int32} {k48 : gb_S → Int32 → Int32 → gb_CR Unit} {Q : gb_S → Unit → Prop} (hR : gb_rB R) (hO : 0 < gb_Ow w (gb_nP R)) (e5 : v5.toInt = i) (h : gb_SI R L k0 kl w (gb_dgt (gb_Ow w (gb_nP R)) (gb_nG R) i) σ) (et : t0.toInt = -(gb_Ds R L w i)) (J : i = 0 ∨ ∃ j, i = j + 1 ∧ gb_Bt R L w j σ) (H : ∀ (s : gb_S) (x : Int32), x = v5 + 1 → gb_SI R L k0 kl w (gb_dgt (gb_Ow w (gb_nP R)) (gb_nG R) (i + 1)) s → gb_Bt R L w i s → gb_pfr σ s → gb_hc (k48 s v4 x) Q) : gb_hc (cs_Sharing_solve_B_n_74 n k48 σ v4 v5 t0) Q := by
  have z0 : (0 : Int32).toInt = 0 := by decide
  have take : gb_amn (gb_Ds R L w) i = i → ∀ s1 : gb_S, s1 = gb_su σ 120 (upd (σ.1 120) 10 t0) → gb_hc (gb_cd (cs_Sharing_keepRow n s1) (fun s_21 _ => gb_cd (cs_Sharing_advance n s_21) (fun s_25 _ => gb_lt (v5 + 1) (fun x_29 => k48 s_25 v4 x_29)))) Q := by
    intro am s1 es1
    have c1 : ∀ q, q ≠ 120 → s1.1 q = σ.1 q := fun q hq => by rw [es1, gb_sun hq]
    have hs1 : gb_SI R L k0 kl w (gb_dgt (gb_Ow w (gb_nP R)) (gb_nG R) i) s1 := SI_k h (by rw [es1]; rfl) (fun q hq => c1 q (by omega)) (by rw [es1, gb_sus, pk_un (by decide)])
    refine hc_cd (ch_keep hR hO (fun g _ => dg_lt hO) hs1) (fun s2 u G => ?_)
    obtain ⟨G1, G2, G3, G4⟩ := G
    have hs2 : gb_SI R L k0 kl w (gb_dgt (gb_Ow w (gb_nP R)) (gb_nG R) i) s2 := SI_k hs1 G1 (fun q hq => G2 q (by omega) (by omega)) (by rw [G2 120 (by decide) (by decide)])
    refine hc_cd (ch_adv hR hO hs2) (fun s3 u2 K => hc_lt (fun x ex => H s3 x ex K.1 ⟨?_, fun g hg => ?_, fun j hj => ?_⟩ ⟨?_, fun q hq => ?_⟩))
    · rw [K.2.2 120 (by decide) (by decide) (by decide), G2 120 (by decide) (by decide), es1, gb_sus, pk_us, am]
      exact et
    · rw [K.2.2 128 (by decide) (by decide) (by decide), am]
      exact G3 g hg
    · rw [K.2.2 129 (by decide) (by decide) (by decide), am]
      exact G4 j hj
    · rw [K.2.1, G1, es1]
      rfl
    · rw [K.2.2 q (by omega) (by omega) (by omega), G2 q (by omega) (by omega), c1 q (by omega)]
  unfold cs_Sharing_solve_B_n_74
  refine hc_if (fun c => hc_lt (fun s1 es1 => take ?_ s1 es1)) (fun c => ?_)
  · have : i = 0 := by
      rw [c, z0] at e5
      omega
    subst this
    rfl
  · rcases J with z | ⟨j, z, B⟩
    · exact absurd (gb_ieq (by rw [e5, z, z0]; rfl)) c
    · subst z
      have st : gb_amn (gb_Ds R L w) (j + 1) = if gb_Ds R L w (j + 1) < gb_Ds R L w (gb_amn (gb_Ds R L w) j) then j + 1 else gb_amn (gb_Ds R L w) j := rfl
      obtain ⟨B1, B2, B3⟩ := B
      refine hc_if (fun d => ?_) (fun d => hc_lt (fun s1 es1 => take ?_ s1 es1))
      · have d' := gi_le d
        rw [if_neg (by omega)] at st
        refine hc_cd (ch_adv hR hO h) (fun s3 u2 K => hc_lt (fun x ex => H s3 x ex K.1 ⟨?_, fun g hg => ?_, fun i hi => ?_⟩ ⟨K.2.1, fun q hq => K.2.2 q (by omega) (by omega) (by omega)⟩))
        · rw [K.2.2 120 (by decide) (by decide) (by decide), st]
          exact B1
        · rw [K.2.2 128 (by decide) (by decide) (by decide), st]
          exact B2 g hg
        · rw [K.2.2 129 (by decide) (by decide) (by decide), st]
          exact B3 i hi
      · have d' := gi_nle d
        rw [st, if_pos (by omega)]
theorem pfr_t2 {a b c : gb_S} (h : gb_pfr a b) (g : gb_pfr b c) : gb_pfr a c := ⟨g.1.trans h.1, fun q hq => (g.2 q hq).trans (h.2 q hq)⟩
theorem ch_s48 {n k0 kl N : Nat} {R : Nat → Int32} {L : Option (Nat → Int32)} {w : Int} {σ0 : gb_S} {v4 : Int32} (hR : gb_rB R) (hO : 0 < gb_Ow w (gb_nP R)) (e4 : v4.toInt = N) (hN : 0 < N) (hN2 : N ≤ 15625) : ∀ (mm : Nat) (σ : gb_S) (v5 : Int32) (i : Nat), v5.toInt = i → i ≤ N → gb_SI R L k0 kl w (gb_dgt (gb_Ow w (gb_nP R)) (gb_nG R) i) σ → (i = 0 ∨ ∃ j, i = j + 1 ∧ gb_Bt R L w j σ) → gb_pfr σ0 σ → gb_hc (cs_Sharing_solve_B_n_48 n mm σ v4 v5) (fun s _ => gb_pfr σ0 s ∧ gb_Bt R L w (N - 1) s) := by
  have h5 := (rB_nP hR).2
  have h8 := (rB_nG hR).2
  have ol := Ow_le (w := w) (k := gb_nP R)
  intro mm
  induction mm with
  | zero =>
    intros
    exact hc_none
  | succ mm ih =>
    intro σ v5 i e hi h J hp
    rw [cs_Sharing_solve_B_n_48]
    refine hc_if (fun c => hc_some ⟨hp, ?_⟩) (fun c => ?_)
    · have c' := gi_le c
      rcases J with z | ⟨j, z, B⟩
      · omega
      · rw [show N - 1 = j by omega]
        exact B
    · have c' := gi_nle c
      have nx : ∀ (s : gb_S) (x : Int32), x = v5 + 1 → gb_SI R L k0 kl w (gb_dgt (gb_Ow w (gb_nP R)) (gb_nG R) (i + 1)) s → gb_Bt R L w i s → gb_pfr σ s → gb_hc (cs_Sharing_solve_B_n_48 n mm s v4 x) (fun s _ => gb_pfr σ0 s ∧ gb_Bt R L w (N - 1) s) := fun s x ex hs B fs => ih s x (i + 1) (gi_1 e (by omega) ex) (by omega) hs (Or.inr ⟨i, rfl, B⟩) (pfr_t2 hp fs)
      cases L with
      | none =>
        have q3 : σ.2.1 3 = 0 := h.1.2.2.2
        rw [if_pos q3]
        have vi : ∀ j, j < gb_Ow w (gb_nP R) → 0 ≤ (gb_Vw R none w (gb_dgt (gb_Ow w (gb_nP R)) (gb_nG R) i) j).toInt ∧ (gb_Vw R none w (gb_dgt (gb_Ow w (gb_nP R)) (gb_nG R) i) j).toInt ≤ 60000 := fun j hj => V_i hR (by have := op_lt hj; omega) h8
        refine hc_cd (ch_spread hR hO h vi) (fun s q g => ?_)
        obtain ⟨g1, g2⟩ := g
        subst s
        refine ch_s74 hR hO e h ?_ J nx
        have b := mxs_b (V := gb_Vw R none w (gb_dgt (gb_Ow w (gb_nP R)) (gb_nG R) i)) (B := 60000) (gb_Ow w (gb_nP R) - 1) (fun j hj => vi j (by omega))
        rw [neg_E (by omega), g2]
        rfl
      | some LR =>
        obtain ⟨a1, a2, a3, a4, a5⟩ := h.1.2.2.2
        have n3 : ¬ σ.2.1 3 = 0 := by
          rw [a1]
          exact a2
        rw [if_neg n3]
        refine hc_kk (fun _ => hc_cd (ch_together hR h) (fun s q g => ?_))
        obtain ⟨g1, g2⟩ := g
        subst s
        refine ch_s74 hR hO e h ?_ J nx
        rw [g2]
        show _ = -(-(gb_tgs (gb_Vw R (some LR) w (gb_dgt (gb_Ow w (gb_nP R)) (gb_nG R) i)) (gb_Ow w (gb_nP R))).toInt)
        omega
theorem ch_s18 {n k0 kl : Nat} {R : Nat → Int32} {L : Option (Nat → Int32)} {w : Int} {σ : gb_S} (hR : gb_rB R) (hG : gb_nG R ≤ 6) (hO : 0 < gb_Ow w (gb_nP R)) (h : gb_SI R L k0 kl w (fun _ => 0) σ) : ∀ (mm : Nat) (v4 v5 : Int32) (k : Nat), v5.toInt = k → k ≤ gb_nG R → v4.toInt = ((gb_Ow w (gb_nP R) ^ k : Nat) : Int) → gb_hc (cs_Sharing_solve_B_n_18 n mm σ v4 v5) (fun s _ => gb_pfr σ s ∧ gb_Bt R L w (gb_Ow w (gb_nP R) ^ gb_nG R - 1) s) := by
  have h5 := (rB_nP hR).2
  have gE := (rB_nG hR).1
  have ol := Ow_le (w := w) (k := gb_nP R)
  have hC := h.1
  intro mm
  induction mm with
  | zero =>
    intros
    exact hc_none
  | succ mm ih =>
    intro v4 v5 k e hk e4
    rw [cs_Sharing_solve_B_n_18, hC.1]
    refine hc_kk (fun _ => hc_cd ch_geese (fun s q2 g2 => ?_))
    obtain ⟨g1, g2⟩ := g2
    subst s
    have eR : σ.1 (k0 + 1) 1 = R 1 := (hC.2.1.2.1 rfl).1
    rw [eR] at g2
    subst g2
    refine hc_if (fun c => ?_) (fun c => ?_)
    · have c' := gi_le c
      have kE : k = gb_nG R := by omega
      subst kE
      refine ch_s48 hR hO e4 (pw_p hO) (pw_b (by omega) hG) n σ 0 0 (by decide) (Nat.zero_le _) (SI_c h (fun g hg => ?_)) (Or.inl rfl) ⟨rfl, fun _ _ => rfl⟩
      show 0 = gb_dgt (gb_Ow w (gb_nP R)) (gb_nG R) 0 g
      unfold gb_dgt
      rw [Nat.zero_div, Nat.zero_mod]
    · have c' := gi_nle c
      have b := pw_b (P := gb_Ow w (gb_nP R)) (G := k + 1) (by omega) (by omega)
      have pr : v4.toInt * (σ.1 120 4).toInt = ((gb_Ow w (gb_nP R) ^ (k + 1) : Nat) : Int) := by
        rw [e4, h.2.1, Nat.pow_succ, Int.natCast_mul]
      refine hc_lt (fun x ex => hc_lt (fun x2 ex2 => ih x x2 (k + 1) (gi_1 e (by omega) ex2) (by omega) ?_))
      rw [ex, gb_tmul (by omega) (by omega), pr]
theorem Ow_0 {w : Int} : gb_Ow w 0 = 0 := by
  unfold gb_Ow
  by_cases a : 0 ≤ w ∧ w < ((0 : Nat) : Int)
  · rw [if_pos a]
  · rw [if_neg a]
theorem ch_solve_n {n k0 : Nat} {R : Nat → Int32} {w : Int} {σ : gb_S} {p3 : Int32} (hR : gb_rB R) (hG : gb_nG R ≤ 6) (k9 : k0 + 1 < 109) (hb : gb_cbx k0 R σ) (e3 : p3.toInt = w) (hO : 0 < gb_Ow w (gb_nP R)) : gb_hc (cs_Sharing_solve_B_n n σ k0 p3) (fun s _ => gb_Bt R none w (gb_Ow w (gb_nP R) ^ gb_nG R - 1) s) := by
  have z0 : (0 : Int32).toInt = 0 := by decide
  unfold cs_Sharing_solve_B_n cs_Sharing_begin_B_n
  refine hc_kk (fun _ => hc_cd (P := fun s _ => gb_SI R none k0 0 w (fun _ => 0) s) (hc_kk (fun _ => hc_lt (fun s2 e2 => hc_lt (fun s3 e3' => hc_lt (fun s4 e4 => ?_))))) (fun s u G => hc_lt (fun s6 e6 => ?_)))
  · have c4 : ∀ q, q ≠ 120 → s4.1 q = σ.1 q := fun q hq => by
      rw [e4, gb_sun hq, e3', e2]
      rfl
    have hC : gb_SC R none k0 0 s4 := by
      refine ⟨?_, ?_, k9, ?_⟩
      · rw [e4, e3', e2]
        rfl
      · unfold gb_cbx
        rw [c4 _ (by omega)]
        exact hb
      · show s4.2.1 3 = 0
        rw [e4, e3', e2]
        rfl
    refine ch_b18 hR hO e3 n s4 0 0 (by decide) (Nat.zero_le _) hC ?_ (fun j hj => ?_) (fun p hp => absurd hp (by omega))
    · rw [e4, gb_sus, pk_us, z0, Ow_0]
      rfl
    · rw [Ow_0] at hj
      omega
  · have hs : gb_SI R none k0 0 w (fun _ => 0) s6 := SI_k G (by rw [e6]; rfl) (fun q hq => by rw [e6, gb_sun (by omega)]) (by rw [e6, gb_sus, pk_un (by decide)])
    exact hc_mono (ch_s18 hR hG hO hs n 1 0 0 (by decide) (Nat.zero_le _) rfl) (fun s u K => K.2)
/-! the same with a law -/
theorem eL_177 {n : Nat} : ∀ (mm : Nat) (σ : gb_S) (v : Int32), cs_Sharing_begin_B_L_177 n mm σ v = cs_Sharing_begin_B_n_177 n mm σ v := by
  intro mm
  induction mm with
  | zero =>
    intros
    rfl
  | succ mm ih =>
    intro σ v
    rw [cs_Sharing_begin_B_L_177, cs_Sharing_begin_B_n_177]
    simp only [ih]
theorem eL_97 {n : Nat} {k : gb_S → Int32 → gb_CR Unit} : ∀ (mm : Nat) (σ : gb_S) (v4 v5 : Int32), cs_Sharing_begin_B_L_97 n k mm σ v4 v5 = cs_Sharing_begin_B_n_97 n k mm σ v4 v5 := by
  intro mm
  induction mm with
  | zero =>
    intros
    rfl
  | succ mm ih =>
    intro σ v4 v5
    rw [cs_Sharing_begin_B_L_97, cs_Sharing_begin_B_n_97]
    simp only [ih]
theorem eL_74 {n : Nat} : ∀ (mm : Nat) (σ : gb_S) (v : Int32), cs_Sharing_begin_B_L_74 n mm σ v = cs_Sharing_begin_B_n_74 n mm σ v := by
  intro mm
  induction mm with
  | zero =>
    intros
    rfl
  | succ mm ih =>
    intro σ v
    rw [cs_Sharing_begin_B_L_74, cs_Sharing_begin_B_n_74]
    simp only [ih, eL_177, eL_97]
theorem eL_18 {n : Nat} : ∀ (mm : Nat) (σ : gb_S) (v3 v4 : Int32), cs_Sharing_begin_B_L_18 n mm σ v3 v4 = cs_Sharing_begin_B_n_18 n mm σ v3 v4 := by
  intro mm
  induction mm with
  | zero =>
    intros
    rfl
  | succ mm ih =>
    intro σ v3 v4
    rw [cs_Sharing_begin_B_L_18, cs_Sharing_begin_B_n_18]
    simp only [ih, eL_74]
theorem eL_s74 {n : Nat} {k : gb_S → Int32 → Int32 → gb_CR Unit} {σ : gb_S} {v4 v5 t0 : Int32} : cs_Sharing_solve_B_L_74 n k σ v4 v5 t0 = cs_Sharing_solve_B_n_74 n k σ v4 v5 t0 := rfl
theorem eL_s48 {n : Nat} : ∀ (mm : Nat) (σ : gb_S) (v4 v5 : Int32), cs_Sharing_solve_B_L_48 n mm σ v4 v5 = cs_Sharing_solve_B_n_48 n mm σ v4 v5 := by
  intro mm
  induction mm with
  | zero =>
    intros
    rfl
  | succ mm ih =>
    intro σ v4 v5
    rw [cs_Sharing_solve_B_L_48, cs_Sharing_solve_B_n_48]
    simp only [ih, eL_s74]
theorem eL_s18 {n : Nat} : ∀ (mm : Nat) (σ : gb_S) (v4 v5 : Int32), cs_Sharing_solve_B_L_18 n mm σ v4 v5 = cs_Sharing_solve_B_n_18 n mm σ v4 v5 := by
  intro mm
  induction mm with
  | zero =>
    intros
    rfl
  | succ mm ih =>
    intro σ v4 v5
    rw [cs_Sharing_solve_B_L_18, cs_Sharing_solve_B_n_18]
    simp only [ih, eL_s48]
theorem ch_solve_L {n k0 kl : Nat} {R LR : Nat → Int32} {w : Int} {σ : gb_S} {p3 : Int32} (hR : gb_rB R) (hG : gb_nG R ≤ 6) (k9 : k0 + 1 < 109) (hb : gb_cbx k0 R σ) (l0 : kl ≠ 0) (l9 : kl + 1 < 109) (hS : gb_RS 2 (σ.1 (kl + 1)) LR) (hL : gb_raL LR) (e3 : p3.toInt = w) (hO : 0 < gb_Ow w (gb_nP R)) : gb_hc (cs_Sharing_solve_B_L n σ k0 kl p3) (fun s _ => gb_Bt R (some LR) w (gb_Ow w (gb_nP R) ^ gb_nG R - 1) s) := by
  have z0 : (0 : Int32).toInt = 0 := by decide
  unfold cs_Sharing_solve_B_L cs_Sharing_begin_B_L
  refine hc_kk (fun _ => hc_kk (fun _ => hc_cd (P := fun s _ => gb_SI R (some LR) k0 kl w (fun _ => 0) s) (hc_kk (fun _ => hc_kk (fun _ => hc_lt (fun s2 e2 => hc_lt (fun s3 e3' => hc_lt (fun s4 e4 => ?_)))))) (fun s u G => hc_lt (fun s6 e6 => ?_))))
  · have c4 : ∀ q, q ≠ 120 → s4.1 q = σ.1 q := fun q hq => by
      rw [e4, gb_sun hq, e3', e2]
      rfl
    have hC : gb_SC R (some LR) k0 kl s4 := by
      refine ⟨?_, ?_, k9, ?_, l0, l9, ?_, hL⟩
      · rw [e4, e3', e2]
        rfl
      · unfold gb_cbx
        rw [c4 _ (by omega)]
        exact hb
      · rw [e4, e3', e2]
        rfl
      · rw [c4 _ (by omega)]
        exact hS
    rw [eL_18]
    refine ch_b18 hR hO e3 n s4 0 0 (by decide) (Nat.zero_le _) hC ?_ (fun j hj => ?_) (fun p hp => absurd hp (by omega))
    · rw [e4, gb_sus, pk_us, z0, Ow_0]
      rfl
    · rw [Ow_0] at hj
      omega
  · have hs : gb_SI R (some LR) k0 kl w (fun _ => 0) s6 := SI_k G (by rw [e6]; rfl) (fun q hq => by rw [e6, gb_sun (by omega)]) (by rw [e6, gb_sus, pk_un (by decide)])
    rw [eL_s18]
    exact hc_mono (ch_s18 hR hG hO hs n 1 0 0 (by decide) (Nat.zero_le _) rfl) (fun s u K => K.2)
/-! EVEN, RICHEST -/
theorem op_m {j : Nat} : gb_op (-1) j = j := by
  unfold gb_op
  rw [if_pos (Or.inl (by decide))]
theorem Ow_m {P : Nat} : gb_Ow (-1) P = P := by
  unfold gb_Ow
  rw [if_neg (by omega)]
theorem Vw_m {R : Nat → Int32} {L : Option (Nat → Int32)} {r : Nat → Nat} : gb_Vw R L (-1) r = gb_Vr R L r (gb_nG R) := by
  funext j
  unfold gb_Vw gb_Vr
  rw [op_m, show (fun g => gb_op (-1) (r g)) = r from funext (fun g => op_m)]
theorem Ds_E {R : Nat → Int32} {L : Option (Nat → Int32)} : gb_Ds R L (-1) = gb_Dc R L := by
  funext i
  unfold gb_Ds gb_Dc
  rw [Ow_m, Vw_m]
theorem Dc_b {R : Nat → Int32} {c : Nat} (hR : gb_rB R) (h0 : 0 < gb_nP R) : -60000 ≤ gb_Dc R none c ∧ gb_Dc R none c ≤ 60000 := by
  have h5 := (rB_nP hR).2
  have h8 := (rB_nG hR).2
  have b := mxs_b (V := gb_Vr R none (gb_dgt (gb_nP R) (gb_nG R) c) (gb_nG R)) (B := 60000) (gb_nP R - 1) (fun j hj => V_i hR (by omega) h8)
  show -60000 ≤ gb_mxs _ _ - gb_mns _ _ ∧ gb_mxs _ _ - gb_mns _ _ ≤ 60000
  omega
def gb_mch (f : gb_F) (p1 : Int32) : Prop := gb_i0 p1 (f 1 0) ∧ gb_nG (gb_Rs 0 f p1) ≤ 6 ∧ 0 < gb_nP (gb_Rs 0 f p1)
theorem mh_march {n : Nat} {f : gb_F} {w : Int64} {p1 : Int32} (hM : gb_TM f) : gb_hm (ms_canMarch n f w p1) (fun f2 _ r => (r = 0 ∧ ¬ gb_mch f p1) ∨ (r = 1 ∧ gb_mch f p1 ∧ f2 1 = f 1 ∧ gb_TM f2 ∧ ∃ m, gb_mbx m (gb_Rs 0 f p1) f2)) := by
  have z0 : (0 : Int32).toInt = 0 := by decide
  have z6 : (6 : Int32).toInt = 6 := by decide
  unfold ms_canMarch gb_mch
  refine hm_bd (mx_isBorder hM) (fun f1 w1 r g => ?_)
  obtain ⟨-, e1, hM1, g⟩ := g
  refine hm_if (fun c => hm_some (Or.inl ⟨rfl, fun z => (yn_0 g c) z.1⟩)) (fun c => ?_)
  obtain ⟨y2, m, g3⟩ := yn_1 g c
  have y4 := mbx_rB g3
  have pE := (rB_nP y4).1
  have gE := (rB_nG y4).1
  refine hm_bd (mx_geese g3) (fun f2 w2 r3 k => ?_)
  obtain ⟨k1, k2, k3⟩ := k
  subst f2
  subst w2
  subst k3
  refine hm_if (fun d => hm_some (Or.inl ⟨rfl, fun z => by have := gi_lt d; omega⟩)) (fun d => hm_bd (mx_paths g3) (fun f2 w2 r3 k => ?_))
  obtain ⟨k1, k2, k3⟩ := k
  subst f2
  subst w2
  subst k3
  have d' := gi_nlt d
  refine hm_if (fun e => hm_some (Or.inl ⟨rfl, fun z => by have := gi_le e; omega⟩)) (fun e => hm_some (Or.inr ⟨rfl, ⟨y2, by omega, by have := gi_nle e; omega⟩, e1, hM1, m, g3⟩))
theorem ch_share {n k0 : Nat} {σ : gb_S} {R : Nat → Int32} (hR : gb_rB R) (hb : gb_cbx k0 R σ) : gb_hc (cs_Sharing_canShare_B n σ k0) (fun s r => s = σ ∧ ((r = 0 ∧ ¬ (gb_nG R ≤ 6 ∧ 0 < gb_nP R)) ∨ (r = 1 ∧ gb_nG R ≤ 6 ∧ 0 < gb_nP R))) := by
  have z0 : (0 : Int32).toInt = 0 := by decide
  have z6 : (6 : Int32).toInt = 6 := by decide
  have pE := (rB_nP hR).1
  have gE := (rB_nG hR).1
  unfold cs_Sharing_canShare_B
  refine hc_kk (fun _ => hc_cd ch_paths (fun s r g => ?_))
  obtain ⟨g1, g2⟩ := g
  subst s
  have eP : σ.1 (k0 + 1) 0 = R 0 := hb.1
  rw [eP] at g2
  subst g2
  refine hc_if (fun c => hc_some ⟨rfl, Or.inl ⟨rfl, fun z => by have := gi_le c; omega⟩⟩) (fun c => hc_cd ch_geese (fun s r g => ?_))
  obtain ⟨g1, g2⟩ := g
  subst s
  have eR : σ.1 (k0 + 1) 1 = R 1 := (hb.2.1 rfl).1
  rw [eR] at g2
  subst g2
  have c' := gi_nle c
  refine hc_if (fun d => hc_some ⟨rfl, Or.inl ⟨rfl, fun z => by have := gi_lt d; omega⟩⟩) (fun d => hc_some ⟨rfl, Or.inr ⟨rfl, by have := gi_nlt d; omega, by omega⟩⟩)
def gb_bst (R : Nat → Int32) (L : Option (Nat → Int32)) : Nat := gb_amn (gb_Dc R L) (gb_nP R ^ gb_nG R - 1)
theorem bst_le {R : Nat → Int32} {L : Option (Nat → Int32)} (hR : gb_rB R) (hG : gb_nG R ≤ 6) : gb_bst R L ≤ 15625 := by
  have h5 := (rB_nP hR).2
  have a := am_le (D := gb_Dc R L) (gb_nP R ^ gb_nG R - 1)
  have b := pw_b (P := gb_nP R) (G := gb_nG R) h5 hG
  unfold gb_bst
  omega
def gb_ev (R : Nat → Int32) (v : Int32) : Int := if v = 0 then gb_Dc R none (gb_bst R none) else if v.toInt < 20 then (gb_dgt (gb_nP R) (gb_nG R) (gb_bst R none) (v.toInt - 10).toNat : Int) else (gb_Vr R none (gb_dgt (gb_nP R) (gb_nG R) (gb_bst R none)) (gb_nG R) (v.toInt - 20).toNat).toInt
def gb_eok (R : Nat → Int32) (v : Int32) : Prop := v = 0 ∨ (10 ≤ v.toInt ∧ v.toInt - 10 < gb_nG R) ∨ (20 ≤ v.toInt ∧ v.toInt - 20 < gb_nP R)
def gb_qev (f : gb_F) (p1 p2 : Int32) : Int → Prop := gb_ifn (gb_mch f p1) (gb_ifn (gb_eok (gb_Rs 0 f p1) p2) (fun z => z = gb_ev (gb_Rs 0 f p1) p2))
theorem mh_even36 {n m : Nat} {R : Nat → Int32} {f : gb_F} {w : Int64} {v2 : Int32} (h : gb_mbx m R f) (hG : gb_nG R ≤ 6) (h0 : 0 < gb_nP R) (ok : gb_eok R v2) : gb_hm (ms_even_36 n f w v2) (fun _ _ r => r.toInt = gb_ev R v2) := by
  have hR := mbx_rB h
  have h5 := (rB_nP hR).2
  have z0 : (0 : Int32).toInt = 0 := by decide
  have c10 : (10 : Int32).toInt = 10 := by decide
  have c20 : (20 : Int32).toInt = 20 := by decide
  have bl := bst_le (L := none) hR hG
  unfold ms_even_36 gb_ev
  refine hm_bd (mh_best (L := none) h0 hG h trivial (Or.inl ⟨rfl, rfl⟩)) (fun f1 w1 r g => ?_)
  obtain ⟨g1, g2, g3⟩ := g
  rw [if_pos rfl] at g3
  refine hm_if (fun c => hm_some ?_) (fun c => ?_)
  · rw [if_pos c]
    exact g3
  · rw [if_neg c]
    refine hm_if (fun d => ?_) (fun d => ?_)
    · have d' := gi_le d
      have r2 := (gb_it v2).2
      have s : (v2 - 20).toInt = (((v2.toInt - 20).toNat : Nat) : Int) := by
        rw [gb_tsub (by omega) (by omega), c20]
        omega
      have k5 : (v2.toInt - 20).toNat < gb_nP R := by
        rcases ok with y | y | y
        · exact absurd y c
        · omega
        · omega
      rw [if_neg (show ¬ v2.toInt < 20 by omega)]
      refine hm_bd (mh_sums h0 g2 (by unfold gb_bst at bl; omega) g1) (fun f2 w2 u q => ?_)
      obtain ⟨q1, q2, q3⟩ := q
      refine hm_bd (mx_payOf q1.1 s (by omega)) (fun f3 w3 r3 q => hm_some ?_)
      rw [q.2.2, q3 _ (by omega)]
      rfl
    · have d' := gi_nle d
      have k6 : 10 ≤ v2.toInt ∧ (v2.toInt - 10).toNat < gb_nG R := by
        rcases ok with y | y | y
        · exact absurd y c
        · omega
        · omega
      have s : (v2 - 10).toInt = (((v2.toInt - 10).toNat : Nat) : Int) := by
        rw [gb_tsub (by omega) (by omega), c10]
        omega
      rw [if_pos (show v2.toInt < 20 by omega)]
      exact hm_bd (mh_figure h0 g1.1 g2 (by unfold gb_bst at bl; omega) s k6.2) (fun f2 w2 r2 q => hm_some q)
theorem m_even {n : Nat} {f : gb_F} {w : Int64} {p1 p2 : Int32} (hM : gb_TM f) : gb_hm (ms_even n f w p1 p2) (fun _ _ q => gb_qev f p1 p2 q.toInt) := by
  have m1 : (-1 : Int32).toInt = -1 := by decide
  have c10 : (10 : Int32).toInt = 10 := by decide
  have c20 : (20 : Int32).toInt = 20 := by decide
  unfold ms_even gb_qev
  refine hm_bd (mh_march hM) (fun f1 w1 r g => ?_)
  refine hm_if (fun c => hm_some (ifn_n (yn_0 g c) m1)) (fun c => ?_)
  obtain ⟨y2, e1, hM1, m, g3⟩ := yn_1 g c
  have y4 := mbx_rB g3
  have h5 := (rB_nP y4).2
  have pE := (rB_nP y4).1
  have h8 := (rB_nG y4).2
  have gE := (rB_nG y4).1
  have go : ∀ w2 : Int64, gb_eok (gb_Rs 0 f p1) p2 → gb_hm (ms_even_36 n f1 w2 p2) (fun _ _ q => gb_ifn (gb_mch f p1) (gb_ifn (gb_eok (gb_Rs 0 f p1) p2) (fun z => z = gb_ev (gb_Rs 0 f p1) p2)) q.toInt) := fun w2 ok => hm_mono (mh_even36 g3 y2.2.1 y2.2.2 ok) (fun _ _ q e => ifn_y y2 (ifn_y ok e))
  have sp := sub_c (v := p2) (k := gb_nP (gb_Rs 0 f p1)) c20 ⟨by decide, by decide⟩ (by omega)
  have sg := sub_c (v := p2) (k := gb_nG (gb_Rs 0 f p1)) c10 ⟨by decide, by decide⟩ (by omega)
  refine hm_if (fun d => go w1 (Or.inl d)) (fun d => hm_bd (mbx_hasG g3) (fun f2 w2 r3 k => ?_))
  obtain ⟨k1, k2, k⟩ := k
  subst f2
  subst w2
  refine hm_if (fun e => hm_bd (mbx_has g3) (fun f2 w2 r4 k4 => ?_)) (fun e => go w1 (Or.inr (Or.inl (sg.mp ?_))))
  · obtain ⟨k1, k2, k4⟩ := k4
    subst f2
    subst w2
    refine hm_if (fun e2 => hm_some (ifn_y y2 (ifn_n (fun z => ?_) m1))) (fun e2 => go w1 (Or.inr (Or.inr (sp.mp ?_))))
    · rcases z with y | y | y
      · exact d y
      · have y' := sg.mpr y
        exact (yn_0 k e) ⟨y'.1, by omega⟩
      · have y' := sp.mpr y
        exact (yn_0 k4 e2) ⟨y'.1, by omega⟩
    · obtain ⟨e1', e2', e3'⟩ := yn_1 k4 e2
      exact ⟨e1'.1, by omega⟩
  · obtain ⟨e1', e2', e3'⟩ := yn_1 k e
    exact ⟨e1'.1, by omega⟩
theorem c_even {n : Nat} {σ : gb_S} {f : gb_F} {p1 p2 : Int32} (h : gb_R σ f) (hM : gb_TM f) : gb_hc (cs_Face_even n σ p1 p2) (fun _ r => gb_qev f p1 p2 r.toInt) := by
  have m1 : (-1 : Int32).toInt = -1 := by decide
  have z0 : (0 : Int32).toInt = 0 := by decide
  have c10 : (10 : Int32).toInt = 10 := by decide
  have c20 : (20 : Int32).toInt = 20 := by decide
  unfold cs_Face_even gb_qev
  refine hc_cd (cy_border h hM) (fun s r g => ?_)
  obtain ⟨g0, g⟩ := g
  subst s
  refine hc_if (fun c => hc_some (ifn_n (fun z => ?_) m1)) (fun c => ?_)
  · rcases g with y | y
    · exact y.2 z.1
    · exact y.1 c
  · rcases g with y | ⟨y1, y2, y3, y4, y5⟩
    · exact absurd y.1 c
    have h5 := (rB_nP y4).2
    have pE := (rB_nP y4).1
    have gE := (rB_nG y4).1
    refine hc_kk (fun _ => hc_cd (ch_share y4 y3) (fun s r2 g2 => ?_))
    obtain ⟨g0, g2⟩ := g2
    subst s
    refine hc_if (fun d => hc_some (ifn_n (fun z => (yn_0 g2 d) z.2) m1)) (fun d => ?_)
    obtain ⟨hG, h0⟩ := yn_1 g2 d
    have mc : gb_mch f p1 := ⟨y2, hG, h0⟩
    have hO : 0 < gb_Ow (-1) (gb_nP (gb_Rs 0 f p1)) := by
      rw [Ow_m]
      exact h0
    have sol : ∀ s : gb_S, s = σ → gb_hc (cs_Sharing_solve_B_n n s r (-1)) (fun s _ => (s.1 120 10).toInt = -(gb_Dc (gb_Rs 0 f p1) none (gb_bst (gb_Rs 0 f p1) none)) ∧ (∀ g, g < gb_nG (gb_Rs 0 f p1) → (s.1 128 g).toInt = gb_dgt (gb_nP (gb_Rs 0 f p1)) (gb_nG (gb_Rs 0 f p1)) (gb_bst (gb_Rs 0 f p1) none) g) ∧ ∀ i, i < gb_nP (gb_Rs 0 f p1) → s.1 129 i = gb_Vr (gb_Rs 0 f p1) none (gb_dgt (gb_nP (gb_Rs 0 f p1)) (gb_nG (gb_Rs 0 f p1)) (gb_bst (gb_Rs 0 f p1) none)) (gb_nG (gb_Rs 0 f p1)) i) := by
      intro s es
      subst es
      refine hc_mono (ch_solve_n y4 hG y5 y3 m1 hO) (fun s2 u B => ?_)
      obtain ⟨B1, B2, B3⟩ := B
      rw [Ow_m, Ds_E] at B1 B2 B3
      refine ⟨B1, fun g hg => ?_, fun i hi => ?_⟩
      · have q := B2 g hg
        rw [op_m] at q
        exact q
      · have q := B3 i hi
        rw [op_m, Vw_m] at q
        exact q
    have e82 : gb_eok (gb_Rs 0 f p1) p2 → p2.toInt < 20 → gb_hc (cs_Face_even_82 n σ p2 r) (fun _ r => gb_ifn (gb_mch f p1) (gb_ifn (gb_eok (gb_Rs 0 f p1) p2) (fun z => z = gb_ev (gb_Rs 0 f p1) p2)) r.toInt) := by
      intro ok lt
      unfold cs_Face_even_82
      refine hc_kk (fun _ => hc_cd (sol σ rfl) (fun s u B => ?_))
      obtain ⟨B1, B2, B3⟩ := B
      refine hc_if (fun e => ?_) (fun e => ?_)
      · unfold cs_Sharing_difference
        have db := Dc_b (R := gb_Rs 0 f p1) (c := gb_bst (gb_Rs 0 f p1) none) y4 h0
        refine hc_cd (hc_some (Q := fun _ r => r.toInt = gb_Dc (gb_Rs 0 f p1) none (gb_bst (gb_Rs 0 f p1) none)) (by rw [neg_E (by omega), B1]; omega)) (fun s2 r5 g5 => hc_some (ifn_y mc (ifn_y ok ?_)))
        unfold gb_ev
        rw [if_pos e]
        exact g5
      · have k6 : 10 ≤ p2.toInt ∧ (p2.toInt - 10).toNat < gb_nG (gb_Rs 0 f p1) := by
          rcases ok with y | y | y
          · exact absurd y e
          · omega
          · omega
        have s : (p2 - 10).toInt = (((p2.toInt - 10).toNat : Nat) : Int) := by
          rw [gb_tsub (by omega) (by omega), c10]
          omega
        rw [gi_tn s]
        refine hc_ck (fun _ _ => hc_lt (fun x ex => hc_some (ifn_y mc (ifn_y ok ?_))))
        unfold gb_ev
        rw [if_neg e, if_pos lt, ex]
        exact B2 _ k6.2
    have e59 : ¬ (20 ≤ p2.toInt ∧ p2.toInt - 20 < gb_nP (gb_Rs 0 f p1)) → gb_hc (cs_Face_even_59 n σ p2 r) (fun _ r => gb_ifn (gb_mch f p1) (gb_ifn (gb_eok (gb_Rs 0 f p1) p2) (fun z => z = gb_ev (gb_Rs 0 f p1) p2)) r.toInt) := by
      intro np
      unfold cs_Face_even_59
      refine hc_kk (fun _ => hc_if (fun e => e82 (Or.inl e) (by rw [e]; decide)) (fun e => hc_if (fun e2 => hc_some (ifn_y mc (ifn_n (fun z => ?_) m1))) (fun e2 => hc_cd ch_geese (fun s r3 g3 => ?_))))
      · have e2' := gi_lt e2
        rcases z with y | y | y
        · exact e y
        · omega
        · omega
      · obtain ⟨g0, g3⟩ := g3
        subst s
        have eR : σ.1 (r + 1) 1 = gb_Rs 0 f p1 1 := (y3.2.1 rfl).1
        rw [eR] at g3
        subst g3
        have e2' := gi_nlt e2
        have sE : ((10 : Int32) + gb_Rs 0 f p1 1).toInt = 10 + (gb_nG (gb_Rs 0 f p1) : Int) := by
          rw [gb_tadd (by omega) (by omega), c10, gE]
        refine hc_if (fun e3 => e82 (Or.inr (Or.inl ?_)) ?_) (fun e3 => hc_some (ifn_y mc (ifn_n (fun z => ?_) m1)))
        · have e3' := gi_lt e3
          omega
        · have e3' := gi_lt e3
          omega
        · have e3' := gi_nlt e3
          rcases z with y | y | y
          · exact e y
          · omega
          · exact np y
    refine hc_if (fun e => e59 (fun z => by have := gi_lt e; omega)) (fun e => hc_cd ch_paths (fun s r3 g3 => ?_))
    obtain ⟨g0, g3⟩ := g3
    subst s
    have eP : σ.1 (r + 1) 0 = gb_Rs 0 f p1 0 := y3.1
    rw [eP] at g3
    subst g3
    have e' := gi_nlt e
    have sE : ((20 : Int32) + gb_Rs 0 f p1 0).toInt = 20 + (gb_nP (gb_Rs 0 f p1) : Int) := by
      rw [gb_tadd (by omega) (by omega), c20, pE]
    refine hc_if (fun e2 => e59 (fun z => by have := gi_le e2; omega)) (fun e2 => hc_cd (sol σ rfl) (fun s u B => ?_))
    have e2' := gi_nle e2
    obtain ⟨B1, B2, B3⟩ := B
    have s' : (p2 - 20).toInt = (((p2.toInt - 20).toNat : Nat) : Int) := by
      rw [gb_tsub (by omega) (by omega), c20]
      omega
    rw [gi_tn s']
    refine hc_ck (fun _ _ => hc_lt (fun x ex => hc_some (ifn_y mc (ifn_y (Or.inr (Or.inr ⟨by omega, by omega⟩)) ?_))))
    unfold gb_ev
    rw [if_neg (fun z => by rw [z] at e'; omega), if_neg (by omega), ex, B3 _ (by omega)]
theorem e_even {σ σ2 : gb_S} {f f2 : gb_F} {w w2 : Int64} {p1 p2 ra qa : Int32} (_ : gb_TC σ) (hM : gb_TM f) (h : gb_R σ f) (ec : cs_Face_even gb_N σ p1 p2 = some (σ2, ra)) (em : ms_even gb_N f w p1 p2 = some (f2, w2, qa)) : ra = qa := gb_ieq (ifn_u2 (c_even h hM _ _ ec) (m_even hM _ _ _ em))
/-! richest -/
def gb_rch (R LR : Nat → Int32) (v : Int32) : Int := if v = 0 then -(gb_Dc R (some LR) (gb_bst R (some LR))) else (gb_dgt (gb_nP R) (gb_nG R) (gb_bst R (some LR)) (v.toInt - 10).toNat : Int)
def gb_qri (f : gb_F) (p1 p2 p3 : Int32) : Int → Prop := gb_ifn (gb_mch f p1 ∧ gb_i0 p2 (f 1 2)) (gb_ifn (p3 = 0 ∨ (10 ≤ p3.toInt ∧ p3.toInt - 10 < gb_nG (gb_Rs 0 f p1))) (fun z => z = gb_rch (gb_Rs 0 f p1) (gb_Rs 2 f p2) p3))
theorem m_richest {n : Nat} {f : gb_F} {w : Int64} {p1 p2 p3 : Int32} (hM : gb_TM f) : gb_hm (ms_richest n f w p1 p2 p3) (fun _ _ q => gb_qri f p1 p2 p3 q.toInt) := by
  have m1 : (-1 : Int32).toInt = -1 := by decide
  have c10 : (10 : Int32).toInt = 10 := by decide
  unfold ms_richest gb_qri
  refine hm_bd (mh_march hM) (fun f1 w1 r g => ?_)
  refine hm_if (fun c => hm_some (ifn_n (fun z => (yn_0 g c) z.1) m1)) (fun c => ?_)
  obtain ⟨y2, e1, hM1, m, g3⟩ := yn_1 g c
  have y4 := mbx_rB g3
  have h8 := (rB_nG y4).2
  have gE := (rB_nG y4).1
  refine hm_bd (mh_isOf hM1 (s := 2) (by decide) (by decide)) (fun f3 w3 r3 hg => ?_)
  obtain ⟨q1, q2, hg⟩ := hg
  subst f3
  subst w3
  rw [e1] at hg
  refine hm_if (fun c2 => hm_some (ifn_n (fun z => ?_) m1)) (fun c2 => ?_)
  · rcases hg with y | ⟨m2, y, -⟩
    · exact in_Nk y.2 z.2
    · rw [c2] at y
      exact absurd y (by decide)
  rcases hg with y | ⟨m2, u1, u2, u3⟩
  · exact absurd y.1 c2
  have il := in_Lk u2
  have bl := bst_le (L := some (gb_Rs 2 f p2)) y4 y2.2.1
  have go : ∀ w2 : Int64, (p3 = 0 ∨ (10 ≤ p3.toInt ∧ p3.toInt - 10 < gb_nG (gb_Rs 0 f p1))) → gb_hm (ms_richest_34 n f1 w2 p2 p3) (fun _ _ q => gb_ifn (gb_mch f p1 ∧ gb_i0 p2 (f 1 2)) (gb_ifn (p3 = 0 ∨ (10 ≤ p3.toInt ∧ p3.toInt - 10 < gb_nG (gb_Rs 0 f p1))) (fun z => z = gb_rch (gb_Rs 0 f p1) (gb_Rs 2 f p2) p3)) q.toInt) := by
    intro w2 ok
    unfold ms_richest_34
    refine hm_bd (hm_of (mt_placeOfE (s := 2) (by decide) (by decide) u2.1 (by omega))) (fun f2 w3 r7 q => hm_lt (fun f19 e19 => ?_))
    obtain ⟨q1, q2, q4⟩ := q
    subst f2
    subst w3
    have hl : gb_lwM (some (gb_Rs 2 f p2)) f19 := by
      refine ⟨⟨m2, u3, ?_, fun j => ?_⟩, rL_of hM il⟩
      · unfold gb_mb
        rw [e19, gb_us, pk_us]
        exact q4
      · rw [e19, gb_un (by decide), e1, Rs_E u2]
    have mb : gb_mbx m (gb_Rs 0 f p1) f19 := by
      rw [e19]
      exact mbx_f0 g3 (by decide)
    refine hm_bd (mh_best (L := some (gb_Rs 2 f p2)) (v1 := 1) y2.2.2 y2.2.1 mb hl (Or.inr ⟨by decide, _, rfl⟩)) (fun f2 w3 r8 q => ?_)
    obtain ⟨q1, q2, q3⟩ := q
    rw [if_neg (show ¬ (1 : Int32) = 0 by decide)] at q3
    refine hm_if (fun e => hm_some (ifn_y ⟨y2, il⟩ (ifn_y ok ?_))) (fun e => ?_)
    · unfold gb_rch
      rw [if_pos e]
      exact q3
    · have k6 : 10 ≤ p3.toInt ∧ (p3.toInt - 10).toNat < gb_nG (gb_Rs 0 f p1) := by
        rcases ok with y | y
        · exact absurd y e
        · omega
      have s : (p3 - 10).toInt = (((p3.toInt - 10).toNat : Nat) : Int) := by
        have := (gb_it p3).2
        rw [gb_tsub (by omega) (by omega), c10]
        omega
      refine hm_bd (mh_figure y2.2.2 q1.1 q2 (by unfold gb_bst at bl; omega) s k6.2) (fun f4 w4 r9 q => hm_some (ifn_y ⟨y2, il⟩ (ifn_y ok ?_)))
      unfold gb_rch
      rw [if_neg e]
      exact q
  have sg := sub_c (v := p3) (k := gb_nG (gb_Rs 0 f p1)) c10 ⟨by decide, by decide⟩ (by omega)
  refine hm_if (fun d => go w1 (Or.inl d)) (fun d => hm_bd (mbx_hasG g3) (fun f2 w2 r4 k => ?_))
  obtain ⟨k1, k2, k⟩ := k
  subst f2
  subst w2
  refine hm_if (fun e => hm_some (ifn_y ⟨y2, il⟩ (ifn_n (fun z => ?_) m1))) (fun e => go w1 (Or.inr (sg.mp ?_)))
  · rcases z with y | y
    · exact d y
    · have y' := sg.mpr y
      exact (yn_0 k e) ⟨y'.1, by omega⟩
  · obtain ⟨e1', e2', e3'⟩ := yn_1 k e
    exact ⟨e1'.1, by omega⟩
theorem cy_law {n : Nat} {σ : gb_S} {f : gb_F} {p1 : Int32} (h : gb_R σ f) (hM : gb_TM f) : gb_hc (cs_Face_lawAt n σ p1) (fun s r => s = σ ∧ ((r = 0 ∧ ¬ gb_i0 p1 (f 1 2)) ∨ (r ≠ 0 ∧ gb_i0 p1 (f 1 2) ∧ gb_RS 2 (σ.1 (r + 1)) (gb_Rs 2 f p1) ∧ gb_raL (gb_Rs 2 f p1) ∧ r + 1 < 109))) := by
  refine hc_mono (hc_and (cx_law h hM) ch_lawAt) (fun s r g => ⟨g.1.1, ?_⟩)
  obtain ⟨⟨-, g1⟩, -, g2⟩ := g
  rcases g1 with z | z
  · exact Or.inl z
  · rcases g2 with y | ⟨m, y1, y2, y3, y4⟩
    · exact absurd y.1 z.1
    · exact Or.inr ⟨z.1, z.2.1, z.2.2.1, rL_of hM z.2.1, by rw [y3]; exact o_lt (by decide) y2⟩
theorem c_richest {n : Nat} {σ : gb_S} {f : gb_F} {p1 p2 p3 : Int32} (h : gb_R σ f) (hM : gb_TM f) : gb_hc (cs_Face_richest n σ p1 p2 p3) (fun _ r => gb_qri f p1 p2 p3 r.toInt) := by
  have m1 : (-1 : Int32).toInt = -1 := by decide
  have z0 : (0 : Int32).toInt = 0 := by decide
  have c10 : (10 : Int32).toInt = 10 := by decide
  unfold cs_Face_richest gb_qri
  refine hc_cd (cy_border h hM) (fun s r g => ?_)
  obtain ⟨g0, g⟩ := g
  subst s
  refine hc_if (fun c => ?_) (fun c => ?_)
  · have nb : ¬ (gb_mch f p1 ∧ gb_i0 p2 (f 1 2)) := fun z => by
      rcases g with y | y
      · exact y.2 z.1.1
      · exact y.1 c
    refine hc_cd (cy_law h hM) (fun s r2 g2 => ?_)
    exact hc_if (fun _ => hc_some (ifn_n nb m1)) (fun _ => hc_kk (fun _ => hc_some (ifn_n nb m1)))
  · rcases g with y | ⟨y1, y2, y3, y4, y5⟩
    · exact absurd y.1 c
    have gE := (rB_nG y4).1
    refine hc_kk (fun _ => hc_cd (cy_law h hM) (fun s r2 g2 => ?_))
    obtain ⟨g0, g2⟩ := g2
    subst s
    refine hc_if (fun c2 => hc_some (ifn_n (fun z => ?_) m1)) (fun c2 => hc_kk (fun _ => ?_))
    · rcases g2 with y | y
      · exact y.2 z.2
      · exact y.1 c2
    rcases g2 with z | ⟨w1, w2, w3, w4, w5⟩
    · exact absurd z.1 c2
    refine hc_cd (ch_share y4 y3) (fun s r3 g3 => ?_)
    obtain ⟨g0, g3⟩ := g3
    subst s
    refine hc_if (fun d => hc_some (ifn_n (fun z => (yn_0 g3 d) z.1.2) m1)) (fun d => ?_)
    obtain ⟨hG, h0⟩ := yn_1 g3 d
    have mc : gb_mch f p1 ∧ gb_i0 p2 (f 1 2) := ⟨⟨y2, hG, h0⟩, w2⟩
    have hO : 0 < gb_Ow (-1) (gb_nP (gb_Rs 0 f p1)) := by
      rw [Ow_m]
      exact h0
    have e58 : (p3 = 0 ∨ (10 ≤ p3.toInt ∧ p3.toInt - 10 < gb_nG (gb_Rs 0 f p1))) → gb_hc (cs_Face_richest_58 n σ p3 r r2) (fun _ r => gb_ifn (gb_mch f p1 ∧ gb_i0 p2 (f 1 2)) (gb_ifn (p3 = 0 ∨ (10 ≤ p3.toInt ∧ p3.toInt - 10 < gb_nG (gb_Rs 0 f p1))) (fun z => z = gb_rch (gb_Rs 0 f p1) (gb_Rs 2 f p2) p3)) r.toInt) := by
      intro ok
      unfold cs_Face_richest_58
      refine hc_kk (fun _ => hc_kk (fun _ => hc_cd (ch_solve_L y4 hG y5 y3 w1 w5 w3 w4 m1 hO) (fun s u B => ?_)))
      obtain ⟨B1, B2, B3⟩ := B
      rw [Ow_m, Ds_E] at B1 B2
      refine hc_if (fun e => hc_some (ifn_y mc (ifn_y ok ?_))) (fun e => ?_)
      · unfold gb_rch
        rw [if_pos e]
        exact B1
      · have k6 : 10 ≤ p3.toInt ∧ (p3.toInt - 10).toNat < gb_nG (gb_Rs 0 f p1) := by
          rcases ok with y | y
          · exact absurd y e
          · omega
        have s : (p3 - 10).toInt = (((p3.toInt - 10).toNat : Nat) : Int) := by
          have := (gb_it p3).2
          rw [gb_tsub (by omega) (by omega), c10]
          omega
        rw [gi_tn s]
        refine hc_ck (fun _ _ => hc_lt (fun x ex => hc_some (ifn_y mc (ifn_y ok ?_))))
        unfold gb_rch
        have q := B2 _ k6.2
        rw [op_m] at q
        rw [if_neg e, ex]
        exact q
    refine hc_if (fun e => e58 (Or.inl e)) (fun e => hc_if (fun e2 => hc_some (ifn_y mc (ifn_n (fun z => ?_) m1))) (fun e2 => hc_cd ch_geese (fun s r4 g4 => ?_)))
    · have e2' := gi_lt e2
      rcases z with y | y
      · exact e y
      · omega
    · obtain ⟨g0, g4⟩ := g4
      subst s
      have eR : σ.1 (r + 1) 1 = gb_Rs 0 f p1 1 := (y3.2.1 rfl).1
      rw [eR] at g4
      subst g4
      have e2' := gi_nlt e2
      have sE : ((10 : Int32) + gb_Rs 0 f p1 1).toInt = 10 + (gb_nG (gb_Rs 0 f p1) : Int) := by
        rw [gb_tadd (by omega) (by omega), c10, gE]
      refine hc_if (fun e3 => e58 (Or.inr ?_)) (fun e3 => hc_some (ifn_y mc (ifn_n (fun z => ?_) m1)))
      · have e3' := gi_lt e3
        omega
      · have e3' := gi_nlt e3
        rcases z with y | y
        · exact e y
        · omega
theorem e_richest {σ σ2 : gb_S} {f f2 : gb_F} {w w2 : Int64} {p1 p2 p3 ra qa : Int32} (_ : gb_TC σ) (hM : gb_TM f) (h : gb_R σ f) (ec : cs_Face_richest gb_N σ p1 p2 p3 = some (σ2, ra)) (em : ms_richest gb_N f w p1 p2 p3 = some (f2, w2, qa)) : ra = qa := gb_ieq (ifn_u2 (c_richest h hM _ _ ec) (m_richest hM _ _ _ em))
/-! CLOSE -/
def gb_Vo (R : Nat → Int32) (w : Int) (a : Nat → Nat) (j : Nat) : Int32 := gb_py R (gb_op w j) (gb_T R a (gb_op w j) (gb_nG R))
def gb_va (R : Nat → Int32) (w : Int) (a : Nat → Nat) : Int := gb_mxs (gb_Vo R w a) (gb_Ow w (gb_nP R) - 1) - gb_mns (gb_Vo R w a) (gb_Ow w (gb_nP R) - 1)
theorem Ds_va {R : Nat → Int32} {w : Int} {i : Nat} : gb_Ds R none w i = gb_va R w (fun g => gb_op w (gb_dgt (gb_Ow w (gb_nP R)) (gb_nG R) i g)) := rfl
theorem va_c {R : Nat → Int32} {w : Int} {a b : Nat → Nat} (h : ∀ g, g < gb_nG R → a g = b g) : gb_va R w a = gb_va R w b := by
  have e : gb_Vo R w a = gb_Vo R w b := by
    funext j
    unfold gb_Vo
    rw [T_c (gb_nG R) h]
  unfold gb_va
  rw [e]
theorem mx_mn {V : Nat → Int32} : ∀ k : Nat, gb_mns V k ≤ gb_mxs V k := by
  intro k
  induction k with
  | zero => exact Int.le_refl _
  | succ k ih =>
    have s1 : gb_mxs V (k + 1) = if gb_mxs V k < (V (k + 1)).toInt then (V (k + 1)).toInt else gb_mxs V k := rfl
    have s2 : gb_mns V (k + 1) = if (V (k + 1)).toInt < gb_mns V k then (V (k + 1)).toInt else gb_mns V k := rfl
    rw [s1, s2]
    by_cases a : gb_mxs V k < (V (k + 1)).toInt
    · rw [if_pos a]
      by_cases b : (V (k + 1)).toInt < gb_mns V k
      · rw [if_pos b]
        exact Int.le_refl _
      · rw [if_neg b]
        omega
    · rw [if_neg a]
      by_cases b : (V (k + 1)).toInt < gb_mns V k
      · rw [if_pos b]
        omega
      · rw [if_neg b]
        exact ih
theorem am_min {D : Nat → Int} : ∀ k i : Nat, i ≤ k → D (gb_amn D k) ≤ D i := by
  intro k
  induction k with
  | zero =>
    intro i hi
    rw [show i = 0 by omega]
    exact Int.le_refl _
  | succ k ih =>
    intro i hi
    have st : gb_amn D (k + 1) = if D (k + 1) < D (gb_amn D k) then k + 1 else gb_amn D k := rfl
    rw [st]
    by_cases c : D (k + 1) < D (gb_amn D k)
    · rw [if_pos c]
      by_cases z : i = k + 1
      · rw [z]
        exact Int.le_refl _
      · have := ih i (by omega)
        omega
    · rw [if_neg c]
      by_cases z : i = k + 1
      · rw [z]
        omega
      · exact ih i (by omega)
def gb_cdo (P : Nat) (a : Nat → Nat) : Nat → Nat
  | 0 => 0
  | k + 1 => gb_cdo P a k * P + a k
theorem cdo_d {P : Nat} {a : Nat → Nat} {k : Nat} : ∀ d : Nat, (∀ g, g < k + d → a g < P) → gb_cdo P a (k + d) / P ^ d = gb_cdo P a k := by
  intro d
  induction d with
  | zero =>
    intro _
    rw [Nat.pow_zero, Nat.div_one]
    rfl
  | succ d ih =>
    intro h
    have e : gb_cdo P a (k + (d + 1)) = gb_cdo P a (k + d) * P + a (k + d) := rfl
    rw [e, Nat.pow_succ, Nat.mul_comm (P ^ d) P, ← Nat.div_div_eq_div_mul, (dm_E (h (k + d) (by omega))).1]
    exact ih (fun g hg => h g (by omega))
theorem cdo_lt {P : Nat} {a : Nat → Nat} : ∀ k : Nat, (∀ g, g < k → a g < P) → gb_cdo P a k < P ^ k := by
  intro k
  induction k with
  | zero =>
    intro _
    exact Nat.one_pos
  | succ k ih =>
    intro h
    have i := ih (fun g hg => h g (by omega))
    have b := h k (by omega)
    have e : gb_cdo P a (k + 1) = gb_cdo P a k * P + a k := rfl
    have m : (gb_cdo P a k + 1) * P ≤ P ^ k * P := Nat.mul_le_mul_right P i
    rw [Nat.add_mul, Nat.one_mul] at m
    rw [e, Nat.pow_succ]
    omega
theorem cdo_g {P G : Nat} {a : Nat → Nat} (h : ∀ g, g < G → a g < P) {g : Nat} (hg : g < G) : gb_dgt P G (gb_cdo P a G) g = a g := by
  unfold gb_dgt
  have q := cdo_d (P := P) (a := a) (k := g + 1) (G - 1 - g) (fun x hx => h x (by omega))
  rw [show g + 1 + (G - 1 - g) = G by omega] at q
  rw [q]
  exact (dm_E (h g hg)).2
def gb_okc (P G b c : Nat) : Prop := ∀ g, g < G → ¬ gb_dgt P G c g = b
theorem okc_j {P G b c : Nat} : (∀ j, j < G → ¬ c / P ^ j % P = b) ↔ gb_okc P G b c := by
  constructor
  · intro h g hg
    exact h (G - 1 - g) (by omega)
  · intro h j hj
    have q := h (G - 1 - j) (by omega)
    unfold gb_dgt at q
    rw [show G - 1 - (G - 1 - j) = j by omega] at q
    exact q
theorem op_ne {b j : Nat} : ¬ gb_op (b : Int) j = b := by
  unfold gb_op
  by_cases c : (b : Int) < 0 ∨ (j : Int) < (b : Int)
  · rw [if_pos c]
    omega
  · rw [if_neg c]
    omega
theorem Ow_k {b P : Nat} (h : b < P) : gb_Ow (b : Int) P = P - 1 := by
  unfold gb_Ow
  rw [if_pos (by omega)]
/-- a code without a path is a row, and a row is such a code -/
theorem row_of {R : Nat → Int32} {b c : Nat} (hb : b < gb_nP R) (h2 : 2 ≤ gb_nP R) (ok : gb_okc (gb_nP R) (gb_nG R) b c) : ∃ i, i < gb_Ow (b : Int) (gb_nP R) ^ gb_nG R ∧ gb_Ds R none (b : Int) i = gb_va R (b : Int) (gb_dgt (gb_nP R) (gb_nG R) c) := by
  have oe := Ow_k hb
  have hd : ∀ g, g < gb_nG R → (if gb_dgt (gb_nP R) (gb_nG R) c g < b then gb_dgt (gb_nP R) (gb_nG R) c g else gb_dgt (gb_nP R) (gb_nG R) c g - 1) < gb_Ow (b : Int) (gb_nP R) := fun g hg => by
    have l := dg_lt (O := gb_nP R) (G := gb_nG R) (c := c) (g := g) (by omega)
    have n := ok g hg
    rw [oe]
    by_cases z : gb_dgt (gb_nP R) (gb_nG R) c g < b
    · rw [if_pos z]
      omega
    · rw [if_neg z]
      omega
  refine ⟨gb_cdo (gb_Ow (b : Int) (gb_nP R)) (fun g => if gb_dgt (gb_nP R) (gb_nG R) c g < b then gb_dgt (gb_nP R) (gb_nG R) c g else gb_dgt (gb_nP R) (gb_nG R) c g - 1) (gb_nG R), cdo_lt _ hd, ?_⟩
  rw [Ds_va]
  refine va_c (fun g hg => ?_)
  have n := ok g hg
  show gb_op (b : Int) (gb_dgt (gb_Ow (b : Int) (gb_nP R)) (gb_nG R) _ g) = _
  rw [cdo_g hd hg]
  unfold gb_op
  by_cases z : gb_dgt (gb_nP R) (gb_nG R) c g < b
  · rw [if_pos z, if_pos (by omega)]
  · rw [if_neg z, if_neg (by omega)]
    omega
theorem code_of {R : Nat → Int32} {b i : Nat} (hb : b < gb_nP R) (h2 : 2 ≤ gb_nP R) : ∃ c, c < gb_nP R ^ gb_nG R ∧ gb_okc (gb_nP R) (gb_nG R) b c ∧ gb_va R (b : Int) (gb_dgt (gb_nP R) (gb_nG R) c) = gb_Ds R none (b : Int) i := by
  have oe := Ow_k hb
  have hd : ∀ g, g < gb_nG R → gb_op (b : Int) (gb_dgt (gb_Ow (b : Int) (gb_nP R)) (gb_nG R) i g) < gb_nP R := fun g hg => op_lt (dg_lt (by rw [oe]; omega))
  refine ⟨gb_cdo (gb_nP R) (fun g => gb_op (b : Int) (gb_dgt (gb_Ow (b : Int) (gb_nP R)) (gb_nG R) i g)) (gb_nG R), cdo_lt _ hd, fun g hg => ?_, ?_⟩
  · rw [cdo_g hd hg]
    exact op_ne
  · rw [Ds_va]
    exact va_c (fun g hg => cdo_g hd hg)
/-! the reference -/
theorem mh_ap112 {n m c b : Nat} {R : Nat → Int32} {f : gb_F} {w : Int64} {v1 v2 v3 v4 v5 : Int32} {k4 : gb_F → Int64 → Int32 → Int32 → Int32 → gb_MR Int32} {Q : gb_F → Int64 → Int32 → Prop} (h : gb_mbx m R f) (h0 : 0 < gb_nP R) (hc : c ≤ 100000) (e1 : v1.toInt = b) (H1 : ¬ gb_okc (gb_nP R) (gb_nG R) b c → ∀ x : Int32, x = v3 + 1 → gb_hm (k4 f w v1 v2 x) Q) (H2 : gb_okc (gb_nP R) (gb_nG R) b c → ∀ y x : Int32, x = v3 + 1 → ((v2 < 0 ∧ y = v5 - v4) ∨ (¬ v2 < 0 ∧ v2 ≤ v5 - v4 ∧ y = v2) ∨ (¬ v2 < 0 ∧ ¬ v2 ≤ v5 - v4 ∧ y = v5 - v4)) → gb_hm (k4 f w v1 y x) Q) : ∀ (mm : Nat) (v6 v7 v8 : Int32) (k : Nat), v8.toInt = k → k ≤ gb_nG R → v6.toInt = ((c / gb_nP R ^ k : Nat) : Int) → ((v7 = 1 ∧ ∀ j, j < k → ¬ c / gb_nP R ^ j % gb_nP R = b) ∨ (v7 = 0 ∧ ¬ ∀ j, j < k → ¬ c / gb_nP R ^ j % gb_nP R = b)) → gb_hm (ms_apartWithout_112 n k4 mm f w v1 v2 v3 v4 v5 v6 v7 v8) Q := by
  have hR := mbx_rB h
  have h5 := (rB_nP hR).2
  have pE := (rB_nP hR).1
  have h8 := (rB_nG hR).2
  have gE := (rB_nG hR).1
  intro mm
  induction mm with
  | zero =>
    intros
    exact hm_none
  | succ mm ih =>
    intro v6 v7 v8 k e hk e6 hv
    have cl : c / gb_nP R ^ k ≤ c := Nat.div_le_self _ _
    have dv := dv_E e6 pE (by omega) h0 (by omega)
    have nd : c / gb_nP R ^ k / gb_nP R = c / gb_nP R ^ (k + 1) := by rw [Nat.div_div_eq_div_mul, ← Nat.pow_succ]
    rw [nd] at dv
    rw [ms_apartWithout_112]
    refine hm_bd (mx_geese h) (fun f1 w1 r q => ?_)
    obtain ⟨q1, q2, q3⟩ := q
    subst f1
    subst w1
    subst q3
    refine hm_if (fun d => ?_) (fun d => ?_)
    · have d' := gi_le d
      have kE : k = gb_nG R := by omega
      rw [kE] at hv
      refine hm_if (fun z => hm_lt (fun x ex => H1 (fun y => ?_) x ex)) (fun z => ?_)
      · rcases hv with u | u
        · rw [z] at u
          exact absurd u.1 (by decide)
        · exact u.2 (okc_j.mpr y)
      · have ok : gb_okc (gb_nP R) (gb_nG R) b c := by
          rcases hv with u | u
          · exact okc_j.mp u.2
          · exact absurd u.1 z
        refine hm_if (fun y => hm_lt (fun x27 e27 => hm_lt (fun x ex => H2 ok x27 x ex (Or.inl ⟨y, e27⟩)))) (fun y => hm_if (fun y2 => hm_lt (fun x ex => H2 ok v2 x ex (Or.inr (Or.inl ⟨y, y2, rfl⟩)))) (fun y2 => hm_lt (fun x31 e31 => hm_lt (fun x ex => H2 ok x31 x ex (Or.inr (Or.inr ⟨y, y2, e31⟩))))))
    · have d' := gi_nle d
      refine hm_if (fun z => hm_bd (mx_paths h) (fun f1 w1 r q => ?_)) (fun z => hm_bd (mx_paths h) (fun f1 w1 r q => ?_))
      · obtain ⟨q1, q2, q3⟩ := q
        subst f1
        subst w1
        subst q3
        refine hm_nz (fun _ => hm_lt (fun x40 e40 => hm_lt (fun x ex => ih x40 0 x (k + 1) (gi_1 e (by omega) ex) (by omega) (by rw [e40]; exact dv.1) (Or.inr ⟨rfl, fun y => ?_⟩))))
        rcases hv with u | u
        · rw [z] at u
          exact absurd u.1 (by decide)
        · exact u.2 (fun j hj => y j (by omega))
      · obtain ⟨q1, q2, q3⟩ := q
        subst f1
        subst w1
        subst q3
        have all : ∀ j, j < k → ¬ c / gb_nP R ^ j % gb_nP R = b := by
          rcases hv with u | u
          · exact u.2
          · exact absurd u.1 z
        refine hm_nz (fun _ => hm_lt (fun x48 e48 => ?_))
        have E48 : x48.toInt = ((c / gb_nP R ^ k % gb_nP R : Nat) : Int) := by
          rw [e48]
          exact dv.2
        refine hm_if (fun y => hm_bd (mx_paths h) (fun f1 w1 r q => ?_)) (fun y => hm_bd (mx_paths h) (fun f1 w1 r q => ?_))
        · obtain ⟨q1, q2, q3⟩ := q
          subst f1
          subst w1
          subst q3
          refine hm_nz (fun _ => hm_lt (fun x56 e56 => hm_lt (fun x ex => ih x56 0 x (k + 1) (gi_1 e (by omega) ex) (by omega) (by rw [e56]; exact dv.1) (Or.inr ⟨rfl, fun u => u k (by omega) ?_⟩))))
          have : x48.toInt = v1.toInt := by rw [y]
          omega
        · obtain ⟨q1, q2, q3⟩ := q
          subst f1
          subst w1
          subst q3
          refine hm_nz (fun _ => hm_lt (fun x64 e64 => hm_lt (fun x ex => ih x64 1 x (k + 1) (gi_1 e (by omega) ex) (by omega) (by rw [e64]; exact dv.1) (Or.inl ⟨rfl, fun j hj => ?_⟩))))
          by_cases u : j = k
          · rw [u]
            exact fun t => y (gb_ieq (by rw [E48, e1, t]))
          · exact all j (by omega)
theorem mh_ap26 {n m c b : Nat} {R : Nat → Int32} {a : Nat → Nat} {f : gb_F} {w : Int64} {v1 v2 v3 : Int32} {k4 : gb_F → Int64 → Int32 → Int32 → Int32 → gb_MR Int32} {Q : gb_F → Int64 → Int32 → Prop} (h : gb_mbx m R f) (h2 : 2 ≤ gb_nP R) (hc : c ≤ 100000) (e3 : v3.toInt = c) (e1 : v1.toInt = b) (hb : b < gb_nP R) (e14 : ∀ p, p < 5 → f 14 p = gb_T R a p (gb_nG R)) (H1 : ¬ gb_okc (gb_nP R) (gb_nG R) b c → ∀ x : Int32, x = v3 + 1 → gb_hm (k4 f w v1 v2 x) Q) (H2 : gb_okc (gb_nP R) (gb_nG R) b c → ∀ y x : Int32, x = v3 + 1 → ((v2 < 0 ∧ y.toInt = gb_va R (b : Int) a) ∨ (¬ v2 < 0 ∧ v2.toInt ≤ gb_va R (b : Int) a ∧ y = v2) ∨ (¬ v2 < 0 ∧ gb_va R (b : Int) a < v2.toInt ∧ y.toInt = gb_va R (b : Int) a)) → gb_hm (k4 f w v1 y x) Q) : ∀ (mm : Nat) (v4 v5 v6 : Int32) (k : Nat), v6.toInt = k → k ≤ gb_nP R → ((gb_Ow (b : Int) k = 0 ∧ v4 = -1 ∧ v5 = 0) ∨ (0 < gb_Ow (b : Int) k ∧ v4.toInt = gb_mns (gb_Vo R (b : Int) a) (gb_Ow (b : Int) k - 1) ∧ v5.toInt = gb_mxs (gb_Vo R (b : Int) a) (gb_Ow (b : Int) k - 1))) → gb_hm (ms_apartWithout_26 n k4 mm f w v1 v2 v3 v4 v5 v6) Q := by
  have hR := mbx_rB h
  have h5 := (rB_nP hR).2
  have pE := (rB_nP hR).1
  have h8 := (rB_nG hR).2
  have z0 : (0 : Int32).toInt = 0 := by decide
  have m1 : (-1 : Int32).toInt = -1 := by decide
  have bd : ∀ q, q ≤ gb_Ow (b : Int) (gb_nP R) → (∀ j, j ≤ q - 1 → 0 < q → gb_iv 0 60000 (gb_Vo R (b : Int) a j)) := fun q hq j hj h0 => V_i hR (by have := op_lt (w := (b : Int)) (P := gb_nP R) (j := j) (by omega); omega) h8
  intro mm
  induction mm with
  | zero =>
    intros
    exact hm_none
  | succ mm ih =>
    intro v4 v5 v6 k e hk hv
    have okP : gb_Ow (b : Int) (gb_nP R) = gb_nP R - 1 := Ow_k hb
    rw [ms_apartWithout_26]
    refine hm_bd (mx_paths h) (fun f1 w1 r q => ?_)
    obtain ⟨q1, q2, q3⟩ := q
    subst f1
    subst w1
    subst q3
    refine hm_if (fun d => ?_) (fun d => ?_)
    · have d' := gi_le d
      have kE : k = gb_nP R := by omega
      rw [kE] at hv
      rcases hv with u | ⟨u1, u2, u3⟩
      · omega
      have b1 := mxs_b (V := gb_Vo R (b : Int) a) (B := 60000) (gb_Ow (b : Int) (gb_nP R) - 1) (fun j hj => bd _ (Nat.le_refl _) j hj (by omega))
      have vE : (v5 - v4).toInt = gb_va R (b : Int) a := by
        rw [gb_tsub (by omega) (by omega), u2, u3]
        rfl
      refine mh_ap112 h (by omega) hc e1 H1 (fun ok y x ex hy => H2 ok y x ex ?_) n v3 1 0 0 (by decide) (Nat.zero_le _) (by rw [e3, Nat.pow_zero, Nat.div_one]) (Or.inl ⟨rfl, fun j hj => absurd hj (by omega)⟩)
      rcases hy with ⟨y1, y2⟩ | ⟨y1, y2, y3⟩ | ⟨y1, y2, y3⟩
      · exact Or.inl ⟨y1, by rw [y2]; exact vE⟩
      · have := gi_le y2
        exact Or.inr (Or.inl ⟨y1, by omega, y3⟩)
      · have := gi_nle y2
        exact Or.inr (Or.inr ⟨y1, by omega, by rw [y3]; exact vE⟩)
    · have d' := gi_nle d
      refine hm_if (fun z => hm_lt (fun x ex => ih v4 v5 x (k + 1) (gi_1 e (by omega) ex) (by omega) ?_)) (fun z => ?_)
      · have ke : (k : Int) = (b : Int) := by rw [← e, z, e1]
        rw [Ow_e ke]
        exact hv
      · have ke : ¬ (k : Int) = (b : Int) := fun y => z (gb_ieq (by rw [e, e1]; exact y))
        have os := Ow_s ke
        have V0 : gb_py R k (f 14 k) = gb_Vo R (b : Int) a (gb_Ow (b : Int) k) := by
          unfold gb_Vo
          rw [os.2, e14 k (by omega)]
        have vi := V_i (a := a) (p := k) (G := gb_nG R) hR (by omega) h8
        have vi1 : 0 ≤ (gb_Vo R (b : Int) a (gb_Ow (b : Int) k)).toInt ∧ (gb_Vo R (b : Int) a (gb_Ow (b : Int) k)).toInt ≤ 60000 := by
          rw [← V0, e14 k (by omega)]
          exact vi
        have e71 : ∀ t0 : Int32, t0.toInt = gb_mns (gb_Vo R (b : Int) a) (gb_Ow (b : Int) (k + 1) - 1) → gb_hm (ms_apartWithout_71 n k4 (fun f w v1 v2 v3 v4 v5 v6 => ms_apartWithout_26 n k4 mm f w v1 v2 v3 v4 v5 v6) f w v1 v2 v3 v5 v6 t0) Q := by
          intro t0 et
          have nmx : gb_mxs (gb_Vo R (b : Int) a) (gb_Ow (b : Int) (k + 1) - 1) = if v5.toInt < (gb_Vo R (b : Int) a (gb_Ow (b : Int) k)).toInt then (gb_Vo R (b : Int) a (gb_Ow (b : Int) k)).toInt else v5.toInt := by
            rw [os.1, Nat.add_sub_cancel]
            rcases hv with ⟨u1, u2, u3⟩ | ⟨u1, u2, u3⟩
            · rw [u1, u3, z0]
              rw [u1] at vi1
              show (gb_Vo R (b : Int) a 0).toInt = _
              by_cases y : 0 < (gb_Vo R (b : Int) a 0).toInt
              · rw [if_pos y]
              · rw [if_neg y]
                omega
            · obtain ⟨j, hj⟩ : ∃ j, gb_Ow (b : Int) k = j + 1 := ⟨gb_Ow (b : Int) k - 1, by omega⟩
              rw [hj] at u3 ⊢
              rw [u3]
              rfl
          unfold ms_apartWithout_71
          refine hm_bd (mx_payOf h e (by omega)) (fun f1 w1 r q => ?_)
          obtain ⟨q1, q2, q4⟩ := q
          subst f1
          subst w1
          rw [V0] at q4
          refine hm_if (fun y => hm_lt (fun x ex => ih t0 v5 x (k + 1) (gi_1 e (by omega) ex) (by omega) (Or.inr ⟨by rw [os.1]; omega, et, ?_⟩))) (fun y => hm_bd (mx_payOf h e (by omega)) (fun f1 w1 r2 q => ?_))
          · have y' := gi_le y
            rw [q4] at y'
            rw [nmx, if_neg (by omega)]
          · obtain ⟨q1, q2, q5⟩ := q
            subst f1
            subst w1
            rw [V0] at q5
            have y' := gi_nle y
            rw [q4] at y'
            refine hm_lt (fun x ex => ih t0 r2 x (k + 1) (gi_1 e (by omega) ex) (by omega) (Or.inr ⟨by rw [os.1]; omega, et, ?_⟩))
            rw [nmx, if_pos (by omega), q5]
        have e60 : gb_mns (gb_Vo R (b : Int) a) (gb_Ow (b : Int) (k + 1) - 1) = (gb_Vo R (b : Int) a (gb_Ow (b : Int) k)).toInt → gb_hm (ms_apartWithout_60 n k4 (fun f w v1 v2 v3 v4 v5 v6 => ms_apartWithout_26 n k4 mm f w v1 v2 v3 v4 v5 v6) f w v1 v2 v3 v5 v6) Q := by
          intro em
          unfold ms_apartWithout_60
          refine hm_bd (mx_payOf h e (by omega)) (fun f1 w1 r q => ?_)
          obtain ⟨q1, q2, q4⟩ := q
          subst f1
          subst w1
          rw [V0] at q4
          exact e71 r (by rw [em, q4])
        refine hm_if (fun y => e60 ?_) (fun y => hm_bd (mx_payOf h e (by omega)) (fun f1 w1 r q => ?_))
        · have y' := gi_lt y
          rw [os.1, Nat.add_sub_cancel]
          rcases hv with ⟨u1, u2, u3⟩ | ⟨u1, u2, u3⟩
          · rw [u1]
            rfl
          · have b1 := mxs_b (V := gb_Vo R (b : Int) a) (B := 60000) (gb_Ow (b : Int) k - 1) (fun j hj => bd (gb_Ow (b : Int) k) (by have := Ow_le (w := (b : Int)) (k := k); unfold gb_Ow at *; omega) j hj u1)
            omega
        · obtain ⟨q1, q2, q4⟩ := q
          subst f1
          subst w1
          rw [V0] at q4
          have y' := gi_nlt y
          rcases hv with ⟨u1, u2, u3⟩ | ⟨u1, u2, u3⟩
          · rw [u2, m1] at y'
            omega
          · obtain ⟨j, hj⟩ : ∃ j, gb_Ow (b : Int) k = j + 1 := ⟨gb_Ow (b : Int) k - 1, by omega⟩
            have st : gb_mns (gb_Vo R (b : Int) a) (j + 1) = if (gb_Vo R (b : Int) a (j + 1)).toInt < gb_mns (gb_Vo R (b : Int) a) j then (gb_Vo R (b : Int) a (j + 1)).toInt else gb_mns (gb_Vo R (b : Int) a) j := rfl
            rw [hj, Nat.add_sub_cancel] at u2
            refine hm_if (fun t => e71 v4 ?_) (fun t => e60 ?_)
            · have t' := gi_le t
              rw [q4, hj] at t'
              rw [os.1, Nat.add_sub_cancel, hj, st, if_neg (by omega)]
              exact u2
            · have t' := gi_nle t
              rw [q4, hj] at t'
              rw [os.1, Nat.add_sub_cancel, hj, st, if_pos (by omega)]
def gb_Kc (R : Nat → Int32) (b c : Nat) (v2 : Int32) : Prop := (v2 = -1 ∧ ∀ c', c' < c → ¬ gb_okc (gb_nP R) (gb_nG R) b c') ∨ (0 ≤ v2.toInt ∧ (∃ c0, c0 < c ∧ gb_okc (gb_nP R) (gb_nG R) b c0 ∧ v2.toInt = gb_va R (b : Int) (gb_dgt (gb_nP R) (gb_nG R) c0)) ∧ ∀ c', c' < c → gb_okc (gb_nP R) (gb_nG R) b c' → v2.toInt ≤ gb_va R (b : Int) (gb_dgt (gb_nP R) (gb_nG R) c'))
theorem mh_ap4 {n m b : Nat} {R : Nat → Int32} {v1 : Int32} (hG : gb_nG R ≤ 6) (h2 : 2 ≤ gb_nP R) (e1 : v1.toInt = b) (hb : b < gb_nP R) : ∀ (mm : Nat) (f : gb_F) (w : Int64) (v2 v3 : Int32) (c : Nat), v3.toInt = c → c ≤ gb_nP R ^ gb_nG R → gb_dM R m f → gb_Kc R b c v2 → gb_hm (ms_apartWithout_4 n mm f w v1 v2 v3) (fun f2 _ r => gb_dM R m f2 ∧ gb_Kc R b (gb_nP R ^ gb_nG R) r) := by
  have z0 : (0 : Int32).toInt = 0 := by decide
  have m1 : (-1 : Int32).toInt = -1 := by decide
  intro mm
  induction mm with
  | zero =>
    intros
    exact hm_none
  | succ mm ih =>
    intro f w v2 v3 c e hc hD K
    have hR := mbx_rB hD.1
    have h5 := (rB_nP hR).2
    have pb := pw_b (P := gb_nP R) (G := gb_nG R) h5 hG
    rw [ms_apartWithout_4]
    refine hm_bd (mh_codes hD.1 hG) (fun f1 w1 r q => ?_)
    obtain ⟨q1, q2, q3⟩ := q
    subst f1
    subst w1
    refine hm_if (fun d => hm_some ⟨hD, ?_⟩) (fun d => ?_)
    · have d' := gi_le d
      rw [show gb_nP R ^ gb_nG R = c by omega]
      exact K
    · have d' := gi_nle d
      refine hm_bd (mh_sums (by omega) e (by omega) hD) (fun f1 w1 u q => ?_)
      obtain ⟨g1, g2, g3⟩ := q
      have va0 : 0 ≤ gb_va R (b : Int) (gb_dgt (gb_nP R) (gb_nG R) c) := by
        have := mx_mn (V := gb_Vo R (b : Int) (gb_dgt (gb_nP R) (gb_nG R) c)) (gb_Ow (b : Int) (gb_nP R) - 1)
        unfold gb_va
        omega
      refine mh_ap26 (a := gb_dgt (gb_nP R) (gb_nG R) c) g1.1 h2 (by omega) e e1 hb g3 (fun nok x ex => ih f1 w1 v2 x (c + 1) (gi_1 e (by omega) ex) (by omega) g1 ?_) (fun ok y x ex hy => ih f1 w1 y x (c + 1) (gi_1 e (by omega) ex) (by omega) g1 ?_) n (-1) 0 0 0 (by decide) (Nat.zero_le _) (Or.inl ⟨Ow_0, rfl, rfl⟩)
      · rcases K with ⟨a1, a2⟩ | ⟨a1, ⟨c0, b1, b2, b3⟩, a3⟩
        · refine Or.inl ⟨a1, fun c' hc' => ?_⟩
          by_cases z : c' = c
          · rw [z]
            exact nok
          · exact a2 c' (by omega)
        · refine Or.inr ⟨a1, ⟨c0, by omega, b2, b3⟩, fun c' hc' ok' => ?_⟩
          by_cases z : c' = c
          · rw [z] at ok'
            exact absurd ok' nok
          · exact a3 c' (by omega) ok'
      · rcases hy with ⟨y1, y2⟩ | ⟨y1, y2, y3⟩ | ⟨y1, y2, y3⟩
        · have y1' := gi_lt y1
          rcases K with ⟨a1, a2⟩ | ⟨a1, -⟩
          · refine Or.inr ⟨by omega, ⟨c, by omega, ok, y2⟩, fun c' hc' ok' => ?_⟩
            by_cases z : c' = c
            · rw [z, y2]
              exact Int.le_refl _
            · exact absurd ok' (a2 c' (by omega))
          · omega
        · have y1' := gi_nlt y1
          rw [y3]
          rcases K with ⟨a1, a2⟩ | ⟨a1, ⟨c0, b1, b2, b3⟩, a3⟩
          · rw [a1, m1] at y1'
            omega
          · refine Or.inr ⟨a1, ⟨c0, by omega, b2, b3⟩, fun c' hc' ok' => ?_⟩
            by_cases z : c' = c
            · rw [z]
              exact y2
            · exact a3 c' (by omega) ok'
        · have y1' := gi_nlt y1
          rcases K with ⟨a1, a2⟩ | ⟨a1, -, a3⟩
          · rw [a1, m1] at y1'
            omega
          · refine Or.inr ⟨by omega, ⟨c, by omega, ok, y3⟩, fun c' hc' ok' => ?_⟩
            by_cases z : c' = c
            · rw [z, y3]
              exact Int.le_refl _
            · have := a3 c' (by omega) ok'
              omega
def gb_Ec (R : Nat → Int32) (b : Nat) : Int := gb_Ds R none (b : Int) (gb_amn (gb_Ds R none (b : Int)) (gb_Ow (b : Int) (gb_nP R) ^ gb_nG R - 1))
theorem Kc_E {R : Nat → Int32} {b : Nat} {v : Int32} (hb : b < gb_nP R) (h2 : 2 ≤ gb_nP R) (K : gb_Kc R b (gb_nP R ^ gb_nG R) v) : v.toInt = gb_Ec R b := by
  have am := am_le (D := gb_Ds R none (b : Int)) (gb_Ow (b : Int) (gb_nP R) ^ gb_nG R - 1)
  have pp := pw_p (P := gb_Ow (b : Int) (gb_nP R)) (G := gb_nG R) (by rw [Ow_k hb]; omega)
  obtain ⟨c1, l1, o1, e1⟩ := code_of (i := gb_amn (gb_Ds R none (b : Int)) (gb_Ow (b : Int) (gb_nP R) ^ gb_nG R - 1)) hb h2
  rcases K with ⟨-, a2⟩ | ⟨-, ⟨c0, b1, b2, b3⟩, a3⟩
  · exact absurd o1 (a2 c1 l1)
  · obtain ⟨i, li, ei⟩ := row_of hb h2 b2
    have q1 := a3 c1 l1 o1
    have q2 := am_min (D := gb_Ds R none (b : Int)) (gb_Ow (b : Int) (gb_nP R) ^ gb_nG R - 1) i (by omega)
    unfold gb_Ec
    omega
theorem Ec_b {R : Nat → Int32} {b : Nat} (hR : gb_rB R) (hb : b < gb_nP R) (h2 : 2 ≤ gb_nP R) : 0 ≤ gb_Ec R b ∧ gb_Ec R b ≤ 60000 := by
  have h5 := (rB_nP hR).2
  have h8 := (rB_nG hR).2
  have oe := Ow_k hb
  unfold gb_Ec
  generalize gb_amn (gb_Ds R none (b : Int)) (gb_Ow (b : Int) (gb_nP R) ^ gb_nG R - 1) = i
  rw [Ds_va]
  have m := mx_mn (V := gb_Vo R (b : Int) (fun g => gb_op (b : Int) (gb_dgt (gb_Ow (b : Int) (gb_nP R)) (gb_nG R) i g))) (gb_Ow (b : Int) (gb_nP R) - 1)
  have x := mxs_b (V := gb_Vo R (b : Int) (fun g => gb_op (b : Int) (gb_dgt (gb_Ow (b : Int) (gb_nP R)) (gb_nG R) i g))) (B := 60000) (gb_Ow (b : Int) (gb_nP R) - 1) (fun j hj => V_i hR (by have := op_lt (w := (b : Int)) (P := gb_nP R) (j := j) (by omega); omega) h8)
  unfold gb_va
  omega
theorem mh_close30 {n m : Nat} {R : Nat → Int32} {v2 : Int32} (hG : gb_nG R ≤ 6) (h2 : 2 ≤ gb_nP R) : ∀ (mm : Nat) (f : gb_F) (w : Int64) (v3 v4 v5 : Int32) (k : Nat), v5.toInt = k → k ≤ gb_nP R → gb_dM R m f → gb_Jm (gb_Ec R) k v3 v4 → gb_hm (ms_close_30 n mm f w v2 v3 v4 v5) (fun _ _ r => r.toInt = if v2 = 0 then (gb_amn (gb_Ec R) (gb_nP R - 1) : Int) else gb_Ec R (gb_amn (gb_Ec R) (gb_nP R - 1))) := by
  have m1 : (-1 : Int32).toInt = -1 := by decide
  intro mm
  induction mm with
  | zero =>
    intros
    exact hm_none
  | succ mm ih =>
    intro f w v3 v4 v5 k e hk hD J
    have hR := mbx_rB hD.1
    have h5 := (rB_nP hR).2
    have pE := (rB_nP hR).1
    rw [ms_close_30]
    refine hm_bd (mx_paths hD.1) (fun f1 w1 r q => ?_)
    obtain ⟨q1, q2, q3⟩ := q
    subst f1
    subst w1
    subst q3
    refine hm_if (fun d => ?_) (fun d => ?_)
    · have d' := gi_le d
      rcases J with ⟨a, -⟩ | ⟨j, a, b, c⟩
      · omega
      · rw [show gb_nP R - 1 = j by omega]
        refine hm_if (fun z => hm_some ?_) (fun z => hm_some ?_)
        · rw [if_pos z]
          exact b
        · rw [if_neg z]
          exact c
    · have d' := gi_nle d
      unfold ms_apartWithout
      refine hm_bd (mh_ap4 hG h2 e (by omega) n f w (-1) 0 0 (by decide) (Nat.zero_le _) hD (Or.inl ⟨rfl, fun c' hc' => absurd hc' (by omega)⟩)) (fun f1 w1 r q => ?_)
      obtain ⟨g1, g2⟩ := q
      have rE := Kc_E (by omega) h2 g2
      refine hm_if (fun y => hm_lt (fun x ex => ih f1 w1 v5 r x (k + 1) (gi_1 e (by omega) ex) (by omega) g1 (J_t J (Or.inl y) e rE))) (fun y => hm_if (fun y2 => hm_lt (fun x ex => ih f1 w1 v5 r x (k + 1) (gi_1 e (by omega) ex) (by omega) g1 (J_t J (Or.inr (by have := gi_lt y2; omega)) e rE))) (fun y2 => hm_lt (fun x ex => ih f1 w1 v3 v4 x (k + 1) (gi_1 e (by omega) ex) (by omega) g1 (J_k J y (by have := gi_nlt y2; omega)))))
def gb_qcl (f : gb_F) (p1 p2 : Int32) : Int → Prop := gb_ifn (gb_mch f p1) (gb_ifn (2 ≤ gb_nP (gb_Rs 0 f p1)) (fun z => z = if p2 = 0 then (gb_amn (gb_Ec (gb_Rs 0 f p1)) (gb_nP (gb_Rs 0 f p1) - 1) : Int) else gb_Ec (gb_Rs 0 f p1) (gb_amn (gb_Ec (gb_Rs 0 f p1)) (gb_nP (gb_Rs 0 f p1) - 1))))
theorem m_close {n : Nat} {f : gb_F} {w : Int64} {p1 p2 : Int32} (hM : gb_TM f) : gb_hm (ms_close n f w p1 p2) (fun _ _ q => gb_qcl f p1 p2 q.toInt) := by
  have m1 : (-1 : Int32).toInt = -1 := by decide
  have z2 : (2 : Int32).toInt = 2 := by decide
  unfold ms_close gb_qcl
  refine hm_bd (mh_march hM) (fun f1 w1 r g => ?_)
  refine hm_if (fun c => hm_some (ifn_n (yn_0 g c) m1)) (fun c => ?_)
  obtain ⟨y2, e1, hM1, m, g3⟩ := yn_1 g c
  have y4 := mbx_rB g3
  have pE := (rB_nP y4).1
  refine hm_bd (mx_paths g3) (fun f2 w2 r3 k => ?_)
  obtain ⟨k1, k2, k3⟩ := k
  subst f2
  subst w2
  subst k3
  refine hm_if (fun d => ?_) (fun d => hm_some (ifn_y y2 (ifn_n (fun z => by have := gi_nle d; omega) m1)))
  have d' := gi_le d
  have h2 : 2 ≤ gb_nP (gb_Rs 0 f p1) := by omega
  refine hm_bd (mh_measures g3) (fun f2 w2 u G => ?_)
  obtain ⟨G1, G2, G3⟩ := G
  exact hm_mono (mh_close30 y2.2.1 h2 n f2 w2 (-1) 0 0 0 (by decide) (Nat.zero_le _) ⟨G1, G3⟩ (Or.inl ⟨rfl, rfl⟩)) (fun _ _ q e => ifn_y y2 (ifn_y h2 e))
/-! the class -/
theorem cz_b2 {n : Nat} {σ : gb_S} {p1 : Int32} : gb_hc (cs_Face_borderAt n σ p1) (fun _ r => r + 1 < 95) := by
  refine hc_mono ch_borderAt (fun s r g => ?_)
  rcases g.2 with z | ⟨m, -, z1, z2, -⟩
  · rw [z.1]
    decide
  · rw [z2]
    unfold gb_o
    omega
theorem ch_close36 {n k0 : Nat} {R : Nat → Int32} {v2 : Int32} (hR : gb_rB R) (hG : gb_nG R ≤ 6) (h2 : 2 ≤ gb_nP R) (k9 : k0 + 1 < 95) : ∀ (mm : Nat) (σ : gb_S) (v4 v5 v6 : Int32) (k : Nat), v6.toInt = k → k ≤ gb_nP R → gb_cbx k0 R σ → gb_Jm (gb_Ec R) k v5 v4 → gb_hc (cs_Face_close_36 n mm σ v2 k0 v4 v5 v6) (fun _ r => r.toInt = if v2 = 0 then (gb_amn (gb_Ec R) (gb_nP R - 1) : Int) else gb_Ec R (gb_amn (gb_Ec R) (gb_nP R - 1))) := by
  have h5 := (rB_nP hR).2
  have pE := (rB_nP hR).1
  have m1 : (-1 : Int32).toInt = -1 := by decide
  have z0 : (0 : Int32).toInt = 0 := by decide
  intro mm
  induction mm with
  | zero =>
    intros
    exact hc_none
  | succ mm ih =>
    intro σ v4 v5 v6 k e hk hb J
    rw [cs_Face_close_36]
    refine hc_kk (fun _ => hc_cd ch_paths (fun s r g => ?_))
    obtain ⟨g1, g2⟩ := g
    subst s
    have eP : σ.1 (k0 + 1) 0 = R 0 := hb.1
    rw [eP] at g2
    subst g2
    refine hc_if (fun d => ?_) (fun d => ?_)
    · have d' := gi_le d
      rcases J with ⟨a, -⟩ | ⟨j, a, b, c⟩
      · omega
      · rw [show gb_nP R - 1 = j by omega]
        refine hc_if (fun z => hc_some ?_) (fun z => hc_some ?_)
        · rw [if_pos z]
          exact b
        · rw [if_neg z]
          exact c
    · have d' := gi_nle d
      have kl : k < gb_nP R := by omega
      have oe := Ow_k kl
      have eb := Ec_b hR kl h2
      have fr : gb_hc (cs_Sharing_solve_B_n n σ k0 v6) (fun s _ => gb_fs (fun q => q = 0 ∨ 95 ≤ q) σ s) := hc_pf (cf_Sharing_solve_B_n (W := fun q => q = 0 ∨ 95 ≤ q) ⟨Or.inl rfl, fun q hq => Or.inr hq⟩ (fun _ _ => rfl))
      refine hc_cd (hc_and (ch_solve_n hR hG (by omega) hb e (by rw [oe]; omega)) fr) (fun s u B => ?_)
      obtain ⟨B, F⟩ := B
      have B1 := B.1
      have hb2 : gb_cbx k0 R s := by
        unfold gb_cbx
        rw [F (k0 + 1) (fun z => by omega)]
        exact hb
      have dif : (-(s.1 120 10)).toInt = gb_Ec R k := by
        have q : (s.1 120 10).toInt = -(gb_Ec R k) := B1
        rw [neg_E (by omega), q]
        omega
      have df : gb_hc (cs_Sharing_difference n s) (fun s2 r => s2 = s ∧ r.toInt = gb_Ec R k) := by
        unfold cs_Sharing_difference
        exact hc_some ⟨rfl, dif⟩
      refine hc_if (fun y => hc_cd df (fun s2 r2 g => ?_)) (fun y => hc_cd df (fun s2 r2 g => ?_))
      · obtain ⟨g1, g2⟩ := g
        subst s2
        refine hc_lt (fun x ex => ih s r2 v6 x (k + 1) (gi_1 e (by omega) ex) (by omega) hb2 (J_t J (Or.inl ?_) e g2))
        rw [y]
        decide
      · obtain ⟨g1, g2⟩ := g
        subst s2
        have nn : ¬ v5 < 0 := fun z => by
          have := gi_lt z
          rcases J with ⟨-, b⟩ | ⟨j, -, b, -⟩
          · exact y b
          · omega
        refine hc_if (fun t => hc_lt (fun x ex => ih s v4 v5 x (k + 1) (gi_1 e (by omega) ex) (by omega) hb2 (J_k J nn (by have := gi_le t; omega)))) (fun t => hc_cd df (fun s2 r3 g => ?_))
        obtain ⟨g1, g3⟩ := g
        subst s2
        exact hc_lt (fun x ex => ih s r3 v6 x (k + 1) (gi_1 e (by omega) ex) (by omega) hb2 (J_t J (Or.inr (by have := gi_nle t; omega)) e g3))
theorem c_close {n : Nat} {σ : gb_S} {f : gb_F} {p1 p2 : Int32} (h : gb_R σ f) (hM : gb_TM f) : gb_hc (cs_Face_close n σ p1 p2) (fun _ r => gb_qcl f p1 p2 r.toInt) := by
  have m1 : (-1 : Int32).toInt = -1 := by decide
  have z2 : (2 : Int32).toInt = 2 := by decide
  unfold cs_Face_close gb_qcl
  refine hc_cd (hc_and (cy_border h hM) cz_b2) (fun s r g => ?_)
  obtain ⟨⟨g0, g⟩, n0⟩ := g
  subst s
  refine hc_if (fun c => hc_some (ifn_n (fun z => ?_) m1)) (fun c => ?_)
  · rcases g with y | y
    · exact y.2 z.1
    · exact y.1 c
  · rcases g with y | ⟨y1, y2, y3, y4, y5⟩
    · exact absurd y.1 c
    have pE := (rB_nP y4).1
    refine hc_kk (fun _ => hc_cd (ch_share y4 y3) (fun s r2 g2 => ?_))
    obtain ⟨g0, g2⟩ := g2
    subst s
    refine hc_if (fun d => hc_some (ifn_n (fun z => (yn_0 g2 d) z.2) m1)) (fun d => ?_)
    obtain ⟨hG, h0⟩ := yn_1 g2 d
    have mc : gb_mch f p1 := ⟨y2, hG, h0⟩
    refine hc_cd ch_paths (fun s r3 g3 => ?_)
    obtain ⟨g0, g3⟩ := g3
    subst s
    have eP : σ.1 (r + 1) 0 = gb_Rs 0 f p1 0 := y3.1
    rw [eP] at g3
    subst g3
    refine hc_if (fun e => ?_) (fun e => hc_some (ifn_y mc (ifn_n (fun z => by have := gi_nle e; omega) m1)))
    have e' := gi_le e
    have h2 : 2 ≤ gb_nP (gb_Rs 0 f p1) := by omega
    exact hc_mono (ch_close36 y4 hG h2 n0 n σ 0 (-1) 0 0 (by decide) (Nat.zero_le _) y3 (Or.inl ⟨rfl, rfl⟩)) (fun _ q e => ifn_y mc (ifn_y h2 e))
theorem e_close {σ σ2 : gb_S} {f f2 : gb_F} {w w2 : Int64} {p1 p2 ra qa : Int32} (_ : gb_TC σ) (hM : gb_TM f) (h : gb_R σ f) (ec : cs_Face_close gb_N σ p1 p2 = some (σ2, ra)) (em : ms_close gb_N f w p1 p2 = some (f2, w2, qa)) : ra = qa := gb_ieq (ifn_u2 (c_close h hM _ _ ec) (m_close hM _ _ _ em))
