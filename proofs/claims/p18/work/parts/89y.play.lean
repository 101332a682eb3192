/-! A NIGHT AS IT GOES: Play of the class, runs of the reference -/
def gb_tbt (x : Int32) (g : Nat) : Bool := x.toBitVec.getLsbD g
def gb_PR (R : Nat → Int32) (t : Prop) (σ : gb_S) (f : gb_F) : Prop :=
  (∀ g, g < 8 → σ.1 112 g = f 4 g ∧ σ.1 113 g = f 5 g ∧ (t → σ.1 114 g = f 6 g) ∧ σ.1 115 g = f 7 g) ∧
  (∀ g, g < 8 → gb_iv 0 2 (f 4 g) ∧ gb_iv (-1) 60 (f 5 g)) ∧
  (∀ p, p < 5 → σ.1 116 p = f 10 p ∧ σ.1 117 p = f 11 p ∧ σ.1 118 p = f 12 p) ∧
  (∀ g p, g < 8 → p < 5 → (σ.1 119 (8 * p + g)).toInt = (f 9 (5 * g + p)).toInt + 1 ∧ gb_iv (-1) 23 (f 9 (5 * g + p))) ∧
  (σ.1 109 10 = f 0 22 ∧ σ.1 109 11 = f 0 23) ∧
  (∀ g, g < gb_nG R → (¬ f 8 g = 0 ↔ (0 < (R (18 + 5 * g + 2)).toInt ∨ gb_tbt (σ.1 109 9) g = true)))
def gb_raN (R : Nat → Int32) : Prop := ∀ j, j < 97 → gb_iv (gt_R 1 j).1 (gt_R 1 j).2 (R j)
def gb_PC (k0 k1 : Nat) (R NR : Nat → Int32) (σ : gb_S) : Prop := σ.2.1 1 = k0 ∧ gb_cbx k0 R σ ∧ gb_RS 1 (σ.1 (k1 + 1)) NR ∧ k0 + 1 < 109 ∧ k1 + 1 < 109
def gb_PM (m : Nat) (R NR : Nat → Int32) (f : gb_F) : Prop := gb_mbx m R f ∧ gb_mnight NR f ∧ gb_raN NR
def gb_pfr (σ σ2 : gb_S) : Prop := σ2.2 = σ.2 ∧ ∀ k, k < 109 → σ2.1 k = σ.1 k
def gb_mfr (f f2 : gb_F) : Prop := f2 1 = f 1 ∧ f2 0 11 = f 0 11 ∧ f2 0 12 = f 0 12 ∧ f2 0 24 = f 0 24 ∧ f2 2 = f 2
theorem pfr_r {σ : gb_S} : gb_pfr σ σ := ⟨rfl, fun _ _ => rfl⟩
theorem pfr_t {σ σ1 σ2 : gb_S} (a : gb_pfr σ σ1) (b : gb_pfr σ1 σ2) : gb_pfr σ σ2 := ⟨b.1.trans a.1, fun k hk => (b.2 k hk).trans (a.2 k hk)⟩
theorem pfr_u {σ : gb_S} {k : Nat} {F : Nat → Int32} (h : 109 ≤ k) : gb_pfr σ (gb_su σ k F) := ⟨rfl, fun j hj => gb_sun (by omega)⟩
theorem mfr_r {f : gb_F} : gb_mfr f f := ⟨rfl, rfl, rfl, rfl, rfl⟩
theorem mfr_t {f g h : gb_F} (a : gb_mfr f g) (b : gb_mfr g h) : gb_mfr f h := ⟨b.1.trans a.1, b.2.1.trans a.2.1, b.2.2.1.trans a.2.2.1, b.2.2.2.1.trans a.2.2.2.1, b.2.2.2.2.trans a.2.2.2.2⟩
theorem mfr_u {f : gb_F} {k : Nat} {F : Nat → Int32} (h : 3 ≤ k) : gb_mfr f (gb_u f k F) := ⟨gb_un (by omega), by rw [gb_un (by omega)], by rw [gb_un (by omega)], by rw [gb_un (by omega)], gb_un (by omega)⟩
theorem mfr_0 {f : gb_F} {j : Nat} {v : Int32} (h : j ≠ 11 ∧ j ≠ 12 ∧ j ≠ 24) : gb_mfr f (gb_u f 0 (upd (f 0) j v)) := ⟨gb_un (by decide), by rw [gb_us, pk_un (Ne.symm h.1)], by rw [gb_us, pk_un (Ne.symm h.2.1)], by rw [gb_us, pk_un (Ne.symm h.2.2)], gb_un (by decide)⟩
theorem PC_k {k0 k1 : Nat} {R NR : Nat → Int32} {σ σ2 : gb_S} (h : gb_PC k0 k1 R NR σ) (g : gb_pfr σ σ2) : gb_PC k0 k1 R NR σ2 := by
  obtain ⟨h1, h2, h3, h4, h5⟩ := h
  refine ⟨by rw [g.1]; exact h1, ?_, ?_, h4, h5⟩
  · unfold gb_cbx
    rw [g.2 _ h4]
    exact h2
  · rw [g.2 _ h5]
    exact h3
theorem PM_k {m : Nat} {R NR : Nat → Int32} {f f2 : gb_F} (h : gb_PM m R NR f) (g : gb_mfr f f2) : gb_PM m R NR f2 := by
  obtain ⟨⟨a1, a2, a3, a4⟩, ⟨m2, b1, b2, b3⟩, h3⟩ := h
  have e11 : (f2 0 11).toInt = gb_pl 0 m := by rw [g.2.1]; exact a3
  have e12 : (f2 0 12).toInt = gb_pl 1 m2 := by rw [g.2.2.1]; exact b2
  exact ⟨⟨a1, a2, e11, fun j => by rw [g.1]; exact a4 j⟩, ⟨m2, b1, e12, fun j => by rw [g.1]; exact b3 j⟩, h3⟩
def gb_nD (NR : Nat → Int32) : Nat := (NR 0).toInt.toNat
theorem rN_0 {NR : Nat → Int32} (h : gb_raN NR) : (NR 0).toInt = gb_nD NR ∧ gb_nD NR ≤ 24 := by
  have i : gb_iv 0 24 (NR 0) := gb_iw (h 0 (by decide)) (by decide)
  have h1 := i.1
  have h2 := i.2
  unfold gb_nD
  omega
theorem rN_d {NR : Nat → Int32} {k i : Nat} (h : gb_raN NR) (hk : k < 24) (hi : i < 4) : gb_iv (if i = 0 then (0, 8) else if i = 1 then (-1, 10) else if i = 2 then (-1, 60) else ((-1, 4) : Int × Int)).1 (if i = 0 then (0, 8) else if i = 1 then (-1, 10) else if i = 2 then (-1, 60) else ((-1, 4) : Int × Int)).2 (NR (1 + 4 * k + i)) := by
  have := h (1 + 4 * k + i) (by omega)
  rw [gt_R1d hi] at this
  exact this
theorem ch_dN {n : Nat} {σ : gb_S} {k0 k1 k j : Nat} {R NR : Nat → Int32} {x y : Int32} (h : gb_PC k0 k1 R NR σ) (e1 : x.toInt = k) (hk : k < gb_nD NR) (hk2 : k < 24) (e2 : y.toInt = j) (hj : j < 4) : gb_hc (cs_Lines_cell_N n σ k1 x y) (fun s r => s = σ ∧ r = NR (1 + 4 * k + j)) := by
  refine hc_mono (ch_cellN e1 (by omega) e2 (by omega)) (fun s r g => ⟨g.1, ?_⟩)
  rw [g.2, show 1 + 4 * k + j = 1 + (4 * k + j) by omega]
  exact h.2.2.1.2.2.1 (Or.inl rfl) _ (by have e : gb_wid 1 = 4 := rfl; rw [e]; unfold gb_nD at hk; omega)
theorem ch_kN {n : Nat} {σ : gb_S} {k0 k1 k : Nat} {R NR : Nat → Int32} {x : Int32} (h : gb_PC k0 k1 R NR σ) (e1 : x.toInt = k) (hk : k < gb_nD NR) (hk2 : k < 24) : gb_hc (cs_Lines_kind_N n σ k1 x) (fun s r => s = σ ∧ r = NR (1 + 4 * k)) := by
  unfold cs_Lines_kind_N
  exact hc_kk (fun _ => hc_cd (ch_dN h e1 hk hk2 (j := 0) (by decide) (by decide)) (fun s r g => hc_some g))
/-- whether one stands somewhere -/
def gb_at2 (R : Nat → Int32) (f : gb_F) (x v : Int32) : Prop := gb_i0 x (R 1) ∧ f 4 x.toInt.toNat = v
theorem ch_stands {n : Nat} {σ : gb_S} {k0 k1 : Nat} {R NR : Nat → Int32} {f : gb_F} {t : Prop} {x v : Int32} (h : gb_PC k0 k1 R NR σ) (hR : gb_rB R) (hP : gb_PR R t σ f) : gb_hc (cs_Play_stands n σ x v) (fun s r => s = σ ∧ ((r = 0 ∧ ¬ gb_at2 R f x v) ∨ (r = 1 ∧ gb_at2 R f x v))) := by
  unfold cs_Play_stands
  rw [h.1]
  have h8 := (rB_nG hR).2
  refine hc_kk (fun _ => hc_cd (cbx_hasG h.2.1) (fun s r g => ?_))
  obtain ⟨rfl, g⟩ := g
  refine hc_if (fun c => hc_some ⟨rfl, Or.inl ⟨rfl, fun z => (yn_0 g c) z.1⟩⟩) (fun c => ?_)
  obtain ⟨g1, g2, g3⟩ := yn_1 g c
  rw [gi_tn g2, (hP.1 x.toInt.toNat (by omega)).1]
  refine hc_ck (fun _ _ => hc_lt (fun y ey => ?_))
  subst ey
  exact hc_if (fun d => hc_some ⟨rfl, Or.inr ⟨rfl, g1, d⟩⟩) (fun d => hc_some ⟨rfl, Or.inl ⟨rfl, fun z => d z.2⟩⟩)
theorem mh_isAt {n m : Nat} {R : Nat → Int32} {f : gb_F} {w : Int64} {x v : Int32} (h : gb_mbx m R f) : gb_hm (ms_isAt n f w x v) (fun f2 w2 r => f2 = f ∧ w2 = w ∧ ((r = 0 ∧ ¬ gb_at2 R f x v) ∨ (r = 1 ∧ gb_at2 R f x v))) := by
  unfold ms_isAt
  refine hm_bd (mbx_hasG h) (fun f2 w2 r g => ?_)
  obtain ⟨rfl, rfl, g⟩ := g
  refine hm_if (fun c => hm_some ⟨rfl, rfl, Or.inl ⟨rfl, fun z => (yn_0 g c) z.1⟩⟩) (fun c => ?_)
  obtain ⟨g1, g2, g3⟩ := yn_1 g c
  rw [gi_tn g2]
  refine hm_ck (fun _ _ => hm_lt (fun y ey => ?_))
  subst ey
  exact hm_if (fun d => hm_some ⟨rfl, rfl, Or.inr ⟨rfl, g1, d⟩⟩) (fun d => hm_some ⟨rfl, rfl, Or.inl ⟨rfl, fun z => d z.2⟩⟩)
/-! the latest that went by a path -/
def gb_fox (f : gb_F) (p : Nat) : Nat → Int × Int
  | 0 => (-1, -1)
  | g + 1 => if f 4 g = 2 ∨ f 9 (5 * g + p) = -1 then gb_fox f p g else if (gb_fox f p g).1 = -1 ∨ (gb_fox f p g).2 < (f 9 (5 * g + p)).toInt then ((g : Int), (f 9 (5 * g + p)).toInt) else gb_fox f p g
theorem fox_b (f : gb_F) (p : Nat) (hf : ∀ g, g < 8 → gb_iv (-1) 23 (f 9 (5 * g + p))) : ∀ g, g ≤ 8 → ((gb_fox f p g).1 = -1 ∧ (gb_fox f p g).2 = -1) ∨ (0 ≤ (gb_fox f p g).1 ∧ (gb_fox f p g).1 < g ∧ 0 ≤ (gb_fox f p g).2 ∧ (gb_fox f p g).2 = (f 9 (5 * (gb_fox f p g).1.toNat + p)).toInt ∧ (gb_fox f p g).2 ≤ 23) := by
  intro g
  induction g with
  | zero =>
    intro _
    exact Or.inl ⟨rfl, rfl⟩
  | succ g ih =>
    intro hg
    have i := hf g (by omega)
    have i1 := i.1
    have i2 := i.2
    have ih' := ih (by omega)
    show (((if f 4 g = 2 ∨ f 9 (5 * g + p) = -1 then gb_fox f p g else if (gb_fox f p g).1 = -1 ∨ (gb_fox f p g).2 < (f 9 (5 * g + p)).toInt then ((g : Int), (f 9 (5 * g + p)).toInt) else gb_fox f p g) : Int × Int).1 = -1 ∧ _) ∨ _
    have e : gb_fox f p (g + 1) = (if f 4 g = 2 ∨ f 9 (5 * g + p) = -1 then gb_fox f p g else if (gb_fox f p g).1 = -1 ∨ (gb_fox f p g).2 < (f 9 (5 * g + p)).toInt then ((g : Int), (f 9 (5 * g + p)).toInt) else gb_fox f p g) := rfl
    rw [← e]
    by_cases c : f 4 g = 2 ∨ f 9 (5 * g + p) = -1
    · rw [if_pos c] at e
      rw [e]
      rcases ih' with z | z
      · exact Or.inl z
      · exact Or.inr ⟨z.1, by omega, z.2.2⟩
    · rw [if_neg c] at e
      by_cases d : (gb_fox f p g).1 = -1 ∨ (gb_fox f p g).2 < (f 9 (5 * g + p)).toInt
      · rw [if_pos d] at e
        rw [e]
        have nm : (f 9 (5 * g + p)).toInt ≠ -1 := fun z => c (Or.inr (gi_m1.mpr z))
        exact Or.inr ⟨by show (0 : Int) ≤ (g : Int); omega, by show (g : Int) < ((g + 1 : Nat) : Int); omega, by show (0 : Int) ≤ (f 9 (5 * g + p)).toInt; omega, by show _ = (f 9 (5 * ((g : Int)).toNat + p)).toInt; rw [Int.toNat_natCast], i2⟩
      · rw [if_neg d] at e
        rw [e]
        rcases ih' with z | z
        · exact Or.inl z
        · exact Or.inr ⟨z.1, by omega, z.2.2⟩
theorem ch_goer7 {n : Nat} {σ : gb_S} {k0 k1 p : Nat} {R NR : Nat → Int32} {f : gb_F} {t : Prop} {v1 : Int32} (h : gb_PC k0 k1 R NR σ) (hR : gb_rB R) (hP : gb_PR R t σ f) (e1 : v1.toInt = p) (hp : p < 5) : ∀ (mm : Nat) (v2 v3 v4 : Int32) (g : Nat), v4.toInt = g → g ≤ gb_nG R → v3.toInt = (gb_fox f p g).1 → v2.toInt = (gb_fox f p g).2 + 1 → gb_hc (cs_Play_latestGoer_7 n mm σ v1 v2 v3 v4) (fun s r => s = σ ∧ r.toInt = (gb_fox f p (gb_nG R)).1) := by
  have h8 := (rB_nG hR).2
  have gE := (rB_nG hR).1
  have c8 : (8 : Int32).toInt = 8 := by decide
  intro mm
  induction mm with
  | zero =>
    intros
    exact hc_none
  | succ mm ih =>
    intro v2 v3 v4 g e4 hg e3 e2
    rw [cs_Play_latestGoer_7, h.1]
    refine hc_kk (fun _ => hc_cd ch_geese (fun s r k => ?_))
    obtain ⟨rfl, rfl⟩ := k
    have eg : s.1 (k0 + 1) 1 = R 1 := (h.2.1.2.1 rfl).1
    rw [eg]
    refine hc_if (fun d => hc_some ⟨rfl, ?_⟩) (fun d => ?_)
    · have := gi_le d
      rw [e3, show g = gb_nG R by omega]
    · have hgc : g < gb_nG R := by
        have := gi_nle d
        omega
      have m1 : (v1 * 8).toInt = ((8 * p : Nat) : Int) := by
        rw [gb_tmul (by rw [e1, c8]; omega) (by rw [e1, c8]; omega), e1, c8]
        omega
      rw [gi_tn (gi_pl m1 e4 (by omega) (by omega)), gi_tn e4, (hP.1 g (by omega)).1]
      obtain ⟨q1, q2⟩ := hP.2.2.2.1 g p (by omega) hp
      have q21 := q2.1
      have fb := fox_b f p (fun g hg => (hP.2.2.2.1 g p hg hp).2) g (by omega)
      have step : gb_fox f p (g + 1) = (if f 4 g = 2 ∨ f 9 (5 * g + p) = -1 then gb_fox f p g else if (gb_fox f p g).1 = -1 ∨ (gb_fox f p g).2 < (f 9 (5 * g + p)).toInt then ((g : Int), (f 9 (5 * g + p)).toInt) else gb_fox f p g) := rfl
      refine hc_ck (fun _ _ => hc_lt (fun x ex => ?_))
      rw [← ex] at q1
      refine hc_if (fun c => hc_lt (fun z ez => ?_)) (fun c => hc_ck (fun _ _ => hc_lt (fun y ey => ?_)))
      · have c' := gi_le c
        have same : gb_fox f p (g + 1) = gb_fox f p g := by
          rw [step]
          by_cases a : f 4 g = 2 ∨ f 9 (5 * g + p) = -1
          · rw [if_pos a]
          · rw [if_neg a, if_neg (fun b => ?_)]
            have nm : (f 9 (5 * g + p)).toInt ≠ -1 := fun z => a (Or.inr (gi_m1.mpr z))
            rcases b with b | b
            · rcases fb with z | z
              · omega
              · omega
            · omega
        exact ih v2 v3 z (g + 1) (gi_1 e4 (by omega) ez) (by omega) (by rw [same]; exact e3) (by rw [same]; exact e2)
      · have c' := gi_nle c
        subst ey
        refine hc_if (fun a => hc_lt (fun z ez => ?_)) (fun a => hc_lt (fun z ez => ?_))
        · have same : gb_fox f p (g + 1) = gb_fox f p g := by
            rw [step, if_pos (Or.inl a)]
          exact ih v2 v3 z (g + 1) (gi_1 e4 (by omega) ez) (by omega) (by rw [same]; exact e3) (by rw [same]; exact e2)
        · have new : gb_fox f p (g + 1) = ((g : Int), (f 9 (5 * g + p)).toInt) := by
            rw [step, if_neg (fun b => ?_), if_pos (Or.inr (by omega))]
            rcases b with b | b
            · exact a b
            · have := gi_m1.mp b
              rcases fb with z | z <;> omega
          exact ih x v4 z (g + 1) (gi_1 e4 (by omega) ez) (by omega) (by rw [new]; exact e4) (by rw [new]; show x.toInt = _; omega)
theorem ch_goer {n : Nat} {σ : gb_S} {k0 k1 p : Nat} {R NR : Nat → Int32} {f : gb_F} {t : Prop} {v1 : Int32} (h : gb_PC k0 k1 R NR σ) (hR : gb_rB R) (hP : gb_PR R t σ f) (e1 : v1.toInt = p) (hp : p < 5) : gb_hc (cs_Play_latestGoer n σ v1) (fun s r => s = σ ∧ r.toInt = (gb_fox f p (gb_nG R)).1) := by
  unfold cs_Play_latestGoer
  exact ch_goer7 h hR hP e1 hp n 0 (-1) 0 0 (by decide) (Nat.zero_le _) (show ((-1 : Int32)).toInt = (-1 : Int) by decide) (show ((0 : Int32)).toInt = (-1 : Int) + 1 by decide)
theorem mh_foxed4 {n m p : Nat} {R : Nat → Int32} {f : gb_F} {v1 : Int32} (h : gb_mbx m R f) (hf : ∀ g, g < 8 → gb_iv (-1) 23 (f 9 (5 * g + p))) (e1 : v1.toInt = p) (hp : p < 5) : ∀ (mm : Nat) (w : Int64) (v2 v3 : Int32) (g : Nat), v3.toInt = g → g ≤ gb_nG R → v2.toInt = (gb_fox f p g).1 → gb_hm (ms_foxed_4 n mm f w v1 v2 v3) (fun f2 w2 r => f2 = f ∧ w2 = w ∧ r.toInt = (gb_fox f p (gb_nG R)).1) := by
  have hR := mbx_rB h
  have h8 := (rB_nG hR).2
  have gE := (rB_nG hR).1
  have c5 : (5 : Int32).toInt = 5 := by decide
  intro mm
  induction mm with
  | zero =>
    intros
    exact hm_none
  | succ mm ih =>
    intro w v2 v3 g e3 hg e2
    rw [ms_foxed_4]
    refine hm_bd (mx_geese h) (fun f1 w1 r k => ?_)
    obtain ⟨rfl, rfl, rfl⟩ := k
    refine hm_if (fun d => hm_some ⟨rfl, rfl, ?_⟩) (fun d => ?_)
    · have := gi_le d
      rw [e2, show g = gb_nG R by omega]
    · have hgc : g < gb_nG R := by
        have := gi_nle d
        omega
      have ix : ∀ (x : Int32) (a : Nat), x.toInt = a → a ≤ 8 → (5 * x + v1).toInt = ((5 * a + p : Nat) : Int) := fun x a ea ha => by
        have m1 : (5 * x).toInt = ((5 * a : Nat) : Int) := by
          rw [gb_tmul (by rw [ea, c5]; omega) (by rw [ea, c5]; omega), ea, c5]
          omega
        exact gi_pl m1 e1 (by omega) (by omega)
      rw [gi_tn (ix v3 g e3 (by omega)), gi_tn e3]
      have q2 := hf g (by omega)
      have q21 := q2.1
      have fb := fox_b f1 p hf g (by omega)
      have step : gb_fox f1 p (g + 1) = (if f1 4 g = 2 ∨ f1 9 (5 * g + p) = -1 then gb_fox f1 p g else if (gb_fox f1 p g).1 = -1 ∨ (gb_fox f1 p g).2 < (f1 9 (5 * g + p)).toInt then ((g : Int), (f1 9 (5 * g + p)).toInt) else gb_fox f1 p g) := rfl
      have keep : ∀ z : Int32, z = v3 + 1 → gb_fox f1 p (g + 1) = gb_fox f1 p g → gb_hm (ms_foxed_4 n mm f1 w1 v1 v2 z) (fun f2 w2 r => f2 = f1 ∧ w2 = w1 ∧ r.toInt = (gb_fox f1 p (gb_nG R)).1) := fun z ez same => ih w1 v2 z (g + 1) (gi_1 e3 (by omega) ez) (by omega) (by rw [same]; exact e2)
      have take : ∀ z : Int32, z = v3 + 1 → gb_fox f1 p (g + 1) = ((g : Int), (f1 9 (5 * g + p)).toInt) → gb_hm (ms_foxed_4 n mm f1 w1 v1 v3 z) (fun f2 w2 r => f2 = f1 ∧ w2 = w1 ∧ r.toInt = (gb_fox f1 p (gb_nG R)).1) := fun z ez new => ih w1 v3 z (g + 1) (gi_1 e3 (by omega) ez) (by omega) (by rw [new]; exact e3)
      refine hm_ck (fun _ _ => hm_lt (fun x ex => ?_))
      subst ex
      refine hm_if (fun a => hm_lt (fun z ez => keep z ez (by rw [step, if_pos (Or.inl a)]))) (fun a => hm_ck (fun _ _ => hm_lt (fun y ey => ?_)))
      subst ey
      refine hm_if (fun b => hm_lt (fun z ez => keep z ez (by rw [step, if_pos (Or.inr b)]))) (fun b => ?_)
      have nab : ¬ (f1 4 g = 2 ∨ f1 9 (5 * g + p) = -1) := fun z => z.elim a b
      refine hm_if (fun c => hm_lt (fun z ez => take z ez ?_)) (fun c => ?_)
      · rw [step, if_neg nab, if_pos (Or.inl ?_)]
        rw [← e2]
        exact gi_m1.mp c
      · have cn : ¬ (gb_fox f1 p g).1 = -1 := fun z => c (gi_m1.mpr (by rw [e2]; exact z))
        rcases fb with z | ⟨z1, z2, z3, z4, z5⟩
        · exact absurd z.1 cn
        · rw [gi_tn (ix v2 (gb_fox f1 p g).1.toNat (by omega) (by omega))]
          refine hm_ck (fun _ _ => hm_lt (fun u eu => hm_ck (fun _ _ => hm_lt (fun v ev => ?_))))
          refine hm_if (fun q => hm_lt (fun z ez => keep z ez ?_)) (fun q => hm_lt (fun z ez => take z ez ?_))
          · have := gi_le q
            rw [eu, ev, ← z4] at this
            rw [step, if_neg nab, if_neg (by omega)]
          · have := gi_nle q
            rw [eu, ev, ← z4] at this
            rw [step, if_neg nab, if_pos (Or.inr (by omega))]
theorem mh_foxed {n m p : Nat} {R : Nat → Int32} {f : gb_F} {w : Int64} {v1 : Int32} (h : gb_mbx m R f) (hf : ∀ g, g < 8 → gb_iv (-1) 23 (f 9 (5 * g + p))) (e1 : v1.toInt = p) (hp : p < 5) : gb_hm (ms_foxed n f w v1) (fun f2 w2 r => f2 = f ∧ w2 = w ∧ r.toInt = (gb_fox f p (gb_nG R)).1) := by
  unfold ms_foxed
  exact mh_foxed4 h hf e1 hp n w (-1) 0 0 (by decide) (Nat.zero_le _) (show ((-1 : Int32)).toInt = (-1 : Int) by decide)
