/-! A BORDER on both sides: R its numbers as the reference has them -/
def gb_cbx (k0 : Nat) (R : Nat → Int32) (σ : gb_S) : Prop := gb_RS 0 (σ.1 (k0 + 1)) R
/-- what one leaves -/
def gb_mk (toes miles boots limp fr : Int32) : Int32 := if limp = 1 then 2 * ((if fr = 0 then 2 * (if boots < miles then boots else miles) else 0) + toes * (miles - (if boots < miles then boots else miles))) else (if fr = 0 then 2 * (if boots < miles then boots else miles) else 0) + toes * (miles - (if boots < miles then boots else miles))
def gb_toe (R : Nat → Int32) (g : Nat) : Int32 := R (18 + 5 * g) + R (18 + 5 * g + 1)
def gb_fm (R : Nat → Int32) (g p : Nat) : Int32 := gb_mk (gb_toe R g) (R (3 + 3 * p)) (R (18 + 5 * g + 2)) (R (18 + 5 * g + 3)) 0
def gb_pd (R : Nat → Int32) (p : Nat) (n : Int32) : Int32 := n + (n * R (3 + 3 * p + 2)) / 10
def gb_py (R : Nat → Int32) (p : Nat) (n : Int32) : Int32 := R (3 + 3 * p + 1) * gb_pd R p n
def gb_nP (R : Nat → Int32) : Nat := (R 0).toInt.toNat
def gb_nG (R : Nat → Int32) : Nat := (R 1).toInt.toNat
def gb_rB (R : Nat → Int32) : Prop := ∀ j, j < 58 → gb_iv (gt_R 0 j).1 (gt_R 0 j).2 (R j)
def gb_mbx (m : Nat) (R : Nat → Int32) (f : gb_F) : Prop := gb_rB R ∧ m < 2 ∧ gb_mb 11 0 m f ∧ ∀ j, f 1 (gb_pl 0 m + j) = R j
theorem rB_P {R : Nat → Int32} (h : gb_rB R) : gb_iv 0 5 (R 0) := gb_iw (h 0 (by decide)) (by decide)
theorem rB_G {R : Nat → Int32} (h : gb_rB R) : gb_iv 0 8 (R 1) := gb_iw (h 1 (by decide)) (by decide)
theorem rB_nP {R : Nat → Int32} (h : gb_rB R) : (R 0).toInt = gb_nP R ∧ gb_nP R ≤ 5 := by
  have := rB_P h
  have h1 := this.1
  have h2 := this.2
  unfold gb_nP
  omega
theorem rB_nG {R : Nat → Int32} (h : gb_rB R) : (R 1).toInt = gb_nG R ∧ gb_nG R ≤ 8 := by
  have := rB_G h
  have h1 := this.1
  have h2 := this.2
  unfold gb_nG
  omega
theorem rB_mi {R : Nat → Int32} {p : Nat} (h : gb_rB R) (hp : p < 5) : gb_iv 0 20 (R (3 + 3 * p)) := by
  have := h (3 + 3 * p) (by omega)
  have e := gt_R0p (c := p) (i := 0) (by omega) (by decide)
  rw [if_pos rfl, Nat.add_zero] at e
  rw [e] at this
  exact this
theorem rB_ra {R : Nat → Int32} {p : Nat} (h : gb_rB R) (hp : p < 5) : gb_iv 0 9 (R (3 + 3 * p + 1)) := by
  have := h (3 + 3 * p + 1) (by omega)
  have e := gt_R0p (c := p) (i := 1) (by omega) (by decide)
  rw [if_neg (by decide)] at e
  rw [e] at this
  exact this
theorem rB_pa {R : Nat → Int32} {p : Nat} (h : gb_rB R) (hp : p < 5) : gb_iv 0 9 (R (3 + 3 * p + 2)) := by
  have := h (3 + 3 * p + 2) (by omega)
  have e := gt_R0p (c := p) (i := 2) (by omega) (by decide)
  rw [if_neg (by decide)] at e
  rw [e] at this
  exact this
theorem rB_to {R : Nat → Int32} {g i : Nat} (h : gb_rB R) (hg : g < 8) (hi : i < 2) : gb_iv 0 4 (R (18 + 5 * g + i)) := by
  have := h (18 + 5 * g + i) (by omega)
  have e := gt_R0g (c := g) (i := i) (by omega) (by omega)
  rw [if_pos hi] at e
  rw [e] at this
  exact this
theorem rB_bo {R : Nat → Int32} {g : Nat} (h : gb_rB R) (hg : g < 8) : gb_iv 0 60 (R (18 + 5 * g + 2)) := by
  have := h (18 + 5 * g + 2) (by omega)
  have e := gt_R0g (c := g) (i := 2) (by omega) (by decide)
  rw [if_neg (by decide), if_pos rfl] at e
  rw [e] at this
  exact this
theorem rB_li {R : Nat → Int32} {g : Nat} (h : gb_rB R) (hg : g < 8) : gb_iv 0 1 (R (18 + 5 * g + 3)) := by
  have := h (18 + 5 * g + 3) (by omega)
  have e := gt_R0g (c := g) (i := 3) (by omega) (by decide)
  rw [if_neg (by decide), if_neg (by decide), if_pos rfl] at e
  rw [e] at this
  exact this
theorem rB_wo {R : Nat → Int32} {g : Nat} (h : gb_rB R) (hg : g < 8) : gb_iv 0 99 (R (18 + 5 * g + 4)) := by
  have := h (18 + 5 * g + 4) (by omega)
  have e := gt_R0g (c := g) (i := 4) (by omega) (by decide)
  rw [if_neg (by decide), if_neg (by decide), if_neg (by decide)] at e
  rw [e] at this
  exact this
theorem rB_of {f : gb_F} {m : Nat} (hM : gb_TM f) (hm : m < 2) : gb_rB (fun j => f 1 (gb_pl 0 m + j)) := fun j hj => by
  have h := hM.2 (gb_pl 0 m + j)
  rw [(gt_1R (by decide) (by omega) (show j < gb_sz 0 from hj)).1] at h
  exact h
theorem mbx_rB {m : Nat} {R : Nat → Int32} {f : gb_F} (h : gb_mbx m R f) : gb_rB R := h.1
/-! the class reads a border -/
theorem gi_3p {x : Int32} {p : Nat} (e : x.toInt = p) (hp : p ≤ 100) : ((3 : Int32) + (x * 3)).toInt = ((3 + 3 * p : Nat) : Int) := by
  have c3 : (3 : Int32).toInt = 3 := by decide
  have m1 : (x * 3).toInt = ((3 * p : Nat) : Int) := by
    rw [gb_tmul (by rw [e, c3]; omega) (by rw [e, c3]; omega), e, c3]
    omega
  rw [gb_tadd (by rw [m1, c3]; omega) (by rw [m1, c3]; omega), m1, c3]
  omega
theorem gi_18 {x : Int32} {g : Nat} (e : x.toInt = g) (hg : g ≤ 100) : ((18 : Int32) + (x * 5)).toInt = ((18 + 5 * g : Nat) : Int) := by
  have c5 : (5 : Int32).toInt = 5 := by decide
  have c18 : (18 : Int32).toInt = 18 := by decide
  have m1 : (x * 5).toInt = ((5 * g : Nat) : Int) := by
    rw [gb_tmul (by rw [e, c5]; omega) (by rw [e, c5]; omega), e, c5]
    omega
  rw [gb_tadd (by rw [m1, c18]; omega) (by rw [m1, c18]; omega), m1, c18]
  omega
theorem gi_pl {x y : Int32} {a b : Nat} (h : x.toInt = a) (g : y.toInt = b) (ha : a ≤ 100000) (hb : b ≤ 100000) : (x + y).toInt = ((a + b : Nat) : Int) := by
  rw [gb_tadd (by omega) (by omega), h, g]
  omega
theorem ch_miles {n : Nat} {σ : gb_S} {k0 p : Nat} {R : Nat → Int32} {x : Int32} (hb : gb_cbx k0 R σ) (hR : gb_rB R) (e : x.toInt = p) (hp : p < gb_nP R) : gb_hc (cs_Border_miles_B n σ k0 x) (fun s r => s = σ ∧ r = R (3 + 3 * p)) := by
  unfold cs_Border_miles_B
  have h5 := (rB_nP hR).2
  rw [gi_tn (gi_3p e (by omega))]
  refine hc_kk (fun _ => hc_ck (fun _ _ => hc_lt (fun y ey => hc_some ⟨rfl, ?_⟩)))
  rw [ey]
  exact (hb.2.1 rfl).2.2.1 p 0 hp (by decide)
theorem ch_rate {n : Nat} {σ : gb_S} {k0 p : Nat} {R : Nat → Int32} {x : Int32} (hb : gb_cbx k0 R σ) (hR : gb_rB R) (e : x.toInt = p) (hp : p < gb_nP R) : gb_hc (cs_Border_rate_B n σ k0 x) (fun s r => s = σ ∧ r = R (3 + 3 * p + 1)) := by
  unfold cs_Border_rate_B
  have h5 := (rB_nP hR).2
  rw [gi_tn (gi_pl (gi_3p e (by omega)) (b := 1) (by decide) (by omega) (by omega))]
  refine hc_kk (fun _ => hc_ck (fun _ _ => hc_lt (fun y ey => hc_some ⟨rfl, ?_⟩)))
  rw [ey]
  exact (hb.2.1 rfl).2.2.1 p 1 hp (by decide)
theorem ch_pad {n : Nat} {σ : gb_S} {k0 p : Nat} {R : Nat → Int32} {x : Int32} (hb : gb_cbx k0 R σ) (hR : gb_rB R) (e : x.toInt = p) (hp : p < gb_nP R) : gb_hc (cs_Border_pad_B n σ k0 x) (fun s r => s = σ ∧ r = R (3 + 3 * p + 2)) := by
  unfold cs_Border_pad_B
  have h5 := (rB_nP hR).2
  rw [gi_tn (gi_pl (gi_3p e (by omega)) (b := 2) (by decide) (by omega) (by omega))]
  refine hc_kk (fun _ => hc_ck (fun _ _ => hc_lt (fun y ey => hc_some ⟨rfl, ?_⟩)))
  rw [ey]
  exact (hb.2.1 rfl).2.2.1 p 2 hp (by decide)
theorem ch_toes {n : Nat} {σ : gb_S} {k0 g : Nat} {R : Nat → Int32} {x : Int32} (hb : gb_cbx k0 R σ) (hR : gb_rB R) (e : x.toInt = g) (hg : g < gb_nG R) : gb_hc (cs_Border_toes_B n σ k0 x) (fun s r => s = σ ∧ r = gb_toe R g) := by
  unfold cs_Border_toes_B
  have h8 := (rB_nG hR).2
  refine hc_kk (fun _ => hc_lt (fun y ey => ?_))
  have e1 := gi_18 e (by omega)
  rw [← ey] at e1
  rw [gi_tn e1, gi_tn (gi_pl e1 (b := 1) (by decide) (by omega) (by omega))]
  refine hc_ck (fun _ _ => hc_lt (fun z ez => hc_ck (fun _ _ => hc_lt (fun u eu => hc_some ⟨rfl, ?_⟩))))
  rw [ez, eu]
  unfold gb_toe
  rw [(hb.2.1 rfl).2.2.2 g 1 hg (by decide)]
  have q0 : σ.1 (k0 + 1) (18 + 5 * g) = R (18 + 5 * g) := (hb.2.1 rfl).2.2.2 g 0 hg (by decide)
  rw [q0]
theorem ch_boots {n : Nat} {σ : gb_S} {k0 g : Nat} {R : Nat → Int32} {x : Int32} (hb : gb_cbx k0 R σ) (hR : gb_rB R) (e : x.toInt = g) (hg : g < gb_nG R) : gb_hc (cs_Border_boots_B n σ k0 x) (fun s r => s = σ ∧ r = R (18 + 5 * g + 2)) := by
  unfold cs_Border_boots_B
  have h8 := (rB_nG hR).2
  rw [gi_tn (gi_pl (gi_18 e (by omega)) (b := 2) (by decide) (by omega) (by omega))]
  refine hc_kk (fun _ => hc_ck (fun _ _ => hc_lt (fun y ey => hc_some ⟨rfl, ?_⟩)))
  rw [ey]
  exact (hb.2.1 rfl).2.2.2 g 2 hg (by decide)
theorem ch_worth {n : Nat} {σ : gb_S} {k0 g : Nat} {R : Nat → Int32} {x : Int32} (hb : gb_cbx k0 R σ) (hR : gb_rB R) (e : x.toInt = g) (hg : g < gb_nG R) : gb_hc (cs_Border_worth_B n σ k0 x) (fun s r => s = σ ∧ r = R (18 + 5 * g + 4)) := by
  unfold cs_Border_worth_B
  have h8 := (rB_nG hR).2
  rw [gi_tn (gi_pl (gi_18 e (by omega)) (b := 4) (by decide) (by omega) (by omega))]
  refine hc_kk (fun _ => hc_ck (fun _ _ => hc_lt (fun y ey => hc_some ⟨rfl, ?_⟩)))
  rw [ey]
  exact (hb.2.1 rfl).2.2.2 g 4 hg (by decide)
theorem ch_limps {n : Nat} {σ : gb_S} {k0 g : Nat} {R : Nat → Int32} {x : Int32} (hb : gb_cbx k0 R σ) (hR : gb_rB R) (e : x.toInt = g) (hg : g < gb_nG R) : gb_hc (cs_Border_limps_B n σ k0 x) (fun s r => s = σ ∧ ((r = 1 ∧ R (18 + 5 * g + 3) = 1) ∨ (r = 0 ∧ ¬ R (18 + 5 * g + 3) = 1))) := by
  unfold cs_Border_limps_B
  have h8 := (rB_nG hR).2
  rw [gi_tn (gi_pl (gi_18 e (by omega)) (b := 3) (by decide) (by omega) (by omega))]
  have h3 := (hb.2.1 rfl).2.2.2 g 3 hg (by decide)
  refine hc_kk (fun _ => hc_ck (fun _ _ => hc_lt (fun y ey => ?_)))
  rw [h3] at ey
  subst ey
  exact hc_if (fun c => hc_some ⟨rfl, Or.inl ⟨rfl, c⟩⟩) (fun c => hc_some ⟨rfl, Or.inr ⟨rfl, c⟩⟩)
theorem ch_marksOver {n : Nat} {σ : gb_S} {k0 g : Nat} {R : Nat → Int32} {x mi bo fr : Int32} (hb : gb_cbx k0 R σ) (hR : gb_rB R) (e : x.toInt = g) (hg : g < gb_nG R) : gb_hc (cs_Border_marksOver_B n σ k0 x mi bo fr) (fun s r => s = σ ∧ r = gb_mk (gb_toe R g) mi bo (R (18 + 5 * g + 3)) fr) := by
  unfold cs_Border_marksOver_B
  refine hc_kk (fun _ => hc_lt (fun y ey => ?_))
  have go : ∀ t0 : Int32, t0 = (if fr = 0 then 2 * y else 0) → gb_hc (cs_Border_marksOver_B_20 n σ k0 x mi y t0) (fun s r => s = σ ∧ r = gb_mk (gb_toe R g) mi bo (R (18 + 5 * g + 3)) fr) := by
    intro t0 et
    unfold cs_Border_marksOver_B_20
    refine hc_kk (fun _ => hc_cd (ch_toes hb hR e hg) (fun s r h => ?_))
    obtain ⟨rfl, rfl⟩ := h
    refine hc_lt (fun z ez => hc_cd (ch_limps hb hR e hg) (fun s2 r2 h2 => ?_))
    obtain ⟨rfl, h2⟩ := h2
    refine hc_if (fun c => hc_some ⟨rfl, ?_⟩) (fun c => hc_some ⟨rfl, ?_⟩)
    · rcases h2 with q | q
      · rw [c] at q
        exact absurd q.1 (by decide)
      · unfold gb_mk
        rw [if_neg q.2, ez, et, ey]
    · rcases h2 with q | q
      · unfold gb_mk
        rw [if_pos q.2, ez, et, ey]
      · exact absurd q.1 c
  exact hc_if (fun c => go _ (by rw [if_pos c])) (fun c => go _ (by rw [if_neg c]))
theorem ch_marksFirst {n : Nat} {σ : gb_S} {k0 g p : Nat} {R : Nat → Int32} {x y : Int32} (hb : gb_cbx k0 R σ) (hR : gb_rB R) (e : x.toInt = g) (hg : g < gb_nG R) (e2 : y.toInt = p) (hp : p < gb_nP R) : gb_hc (cs_Border_marksFirst_B n σ k0 x y) (fun s r => s = σ ∧ r = gb_fm R g p) := by
  unfold cs_Border_marksFirst_B
  refine hc_kk (fun _ => hc_cd (ch_miles hb hR e2 hp) (fun s r h => ?_))
  obtain ⟨rfl, rfl⟩ := h
  refine hc_cd (ch_boots hb hR e hg) (fun s r h => ?_)
  obtain ⟨rfl, rfl⟩ := h
  exact hc_cd (ch_marksOver hb hR e hg) (fun s r h => hc_some h)
theorem ch_padded {n : Nat} {σ : gb_S} {k0 p : Nat} {R : Nat → Int32} {x y : Int32} (hb : gb_cbx k0 R σ) (hR : gb_rB R) (e : x.toInt = p) (hp : p < gb_nP R) : gb_hc (cs_Border_padded_B n σ k0 x y) (fun s r => s = σ ∧ r = gb_pd R p y) := by
  unfold cs_Border_padded_B
  refine hc_kk (fun _ => hc_cd (ch_pad hb hR e hp) (fun s r h => ?_))
  obtain ⟨rfl, rfl⟩ := h
  exact hc_lt (fun z ez => hc_some ⟨rfl, by rw [ez]; rfl⟩)
theorem ch_payOf {n : Nat} {σ : gb_S} {k0 p : Nat} {R : Nat → Int32} {x y : Int32} (hb : gb_cbx k0 R σ) (hR : gb_rB R) (e : x.toInt = p) (hp : p < gb_nP R) : gb_hc (cs_Border_payOf_B n σ k0 x y) (fun s r => s = σ ∧ r = gb_py R p y) := by
  unfold cs_Border_payOf_B
  refine hc_kk (fun _ => hc_cd (ch_rate hb hR e hp) (fun s r h => ?_))
  obtain ⟨rfl, rfl⟩ := h
  refine hc_cd (ch_padded hb hR e hp) (fun s2 r2 h2 => hc_some ⟨h2.1, ?_⟩)
  rw [h2.2]
  rfl
/-! the reference reads a border -/
theorem mx_paths {n m : Nat} {R : Nat → Int32} {f : gb_F} {w : Int64} (h : gb_mbx m R f) : gb_hm (ms_paths n f w) (fun f2 w2 r => f2 = f ∧ w2 = w ∧ r = R 0) := hm_mono (mh_paths h.2.2.1 h.2.1) (fun f2 w2 r g => ⟨g.1, g.2.1, by rw [g.2.2]; exact h.2.2.2 0⟩)
theorem mx_geese {n m : Nat} {R : Nat → Int32} {f : gb_F} {w : Int64} (h : gb_mbx m R f) : gb_hm (ms_geese n f w) (fun f2 w2 r => f2 = f ∧ w2 = w ∧ r = R 1) := hm_mono (mh_geese h.2.2.1 h.2.1) (fun f2 w2 r g => ⟨g.1, g.2.1, by rw [g.2.2]; exact h.2.2.2 1⟩)
theorem mx_ofPath {n m p j : Nat} {R : Nat → Int32} {f : gb_F} {w : Int64} {x y : Int32} (h : gb_mbx m R f) (e1 : x.toInt = p) (hp : p ≤ 100) (e2 : y.toInt = j) (hj : j ≤ 100) : gb_hm (ms_ofPath n f w x y) (fun f2 w2 r => f2 = f ∧ w2 = w ∧ r = R (3 + 3 * p + j)) := hm_mono (mh_ofPath h.2.2.1 h.2.1 e1 hp e2 hj) (fun f2 w2 r g => ⟨g.1, g.2.1, by rw [g.2.2]; exact h.2.2.2 _⟩)
theorem mx_ofGoose {n m p j : Nat} {R : Nat → Int32} {f : gb_F} {w : Int64} {x y : Int32} (h : gb_mbx m R f) (e1 : x.toInt = p) (hp : p ≤ 100) (e2 : y.toInt = j) (hj : j ≤ 100) : gb_hm (ms_ofGoose n f w x y) (fun f2 w2 r => f2 = f ∧ w2 = w ∧ r = R (18 + 5 * p + j)) := hm_mono (mh_ofGoose h.2.2.1 h.2.1 e1 hp e2 hj) (fun f2 w2 r g => ⟨g.1, g.2.1, by rw [g.2.2]; exact h.2.2.2 _⟩)
theorem mx_of {n m j : Nat} {R : Nat → Int32} {f : gb_F} {w : Int64} {x : Int32} (h : gb_mbx m R f) (e : x.toInt = j) (hj : j ≤ 1000) : gb_hm (ms_of n f w x) (fun f2 w2 r => f2 = f ∧ w2 = w ∧ r = R j) := hm_mono (mh_of h.2.2.1 h.2.1 e hj) (fun f2 w2 r g => ⟨g.1, g.2.1, by rw [g.2.2]; exact h.2.2.2 _⟩)
theorem mx_isPath {n m : Nat} {R : Nat → Int32} {f : gb_F} {w : Int64} {x : Int32} (h : gb_mbx m R f) : gb_hm (ms_isPath n f w x) (fun f2 w2 r => f2 = f ∧ w2 = w ∧ ((r = 0 ∧ gb_nk x (R 0)) ∨ ∃ p : Nat, r = 1 ∧ gb_lk x (R 0) p)) := by
  unfold ms_isPath
  refine hm_bd (mx_paths h) (fun g u r k => ?_)
  obtain ⟨rfl, rfl, rfl⟩ := k
  exact hm_bd (mh_below (gb_iw (rB_P h.1) (by decide))) (fun g2 u2 r2 h2 => hm_cb (fun _ => hm_some h2))
theorem mx_isGoose {n m : Nat} {R : Nat → Int32} {f : gb_F} {w : Int64} {x : Int32} (h : gb_mbx m R f) : gb_hm (ms_isGoose n f w x) (fun f2 w2 r => f2 = f ∧ w2 = w ∧ ((r = 0 ∧ gb_nk x (R 1)) ∨ ∃ p : Nat, r = 1 ∧ gb_lk x (R 1) p)) := by
  unfold ms_isGoose
  refine hm_bd (mx_geese h) (fun g u r k => ?_)
  obtain ⟨rfl, rfl, rfl⟩ := k
  exact hm_bd (mh_below (gb_iw (rB_G h.1) (by decide))) (fun g2 u2 r2 h2 => hm_cb (fun _ => hm_some h2))
theorem gb_m1 {x : Int32} (i : gb_iv 0 1 x) (y : Int32) : y * (1 + x) = if x = 1 then 2 * y else y := by
  rcases gb_01 i with e | e
  · subst e
    rw [if_neg (by decide), show (1 : Int32) + 0 = 1 from by decide, Int32.mul_one]
  · subst e
    rw [if_pos rfl, show (1 : Int32) + 1 = 2 from by decide, Int32.mul_comm]
theorem mx_left {n m g : Nat} {R : Nat → Int32} {f : gb_F} {w : Int64} {x mi bo fr li : Int32} (h : gb_mbx m R f) (e : x.toInt = g) (hg : g ≤ 100) (hl : gb_iv 0 1 li) : gb_hm (ms_left n f w x mi bo fr li) (fun f2 w2 r => f2 = f ∧ w2 = w ∧ r = gb_mk (gb_toe R g) mi bo li fr) := by
  have go : ∀ t0 : Int32, t0 = (if bo < mi then bo else mi) → gb_hm (ms_left_10 n f w x mi fr li t0) (fun f2 w2 r => f2 = f ∧ w2 = w ∧ r = gb_mk (gb_toe R g) mi bo li fr) := by
    intro t0 et
    unfold ms_left_10
    refine hm_bd (mx_ofGoose h e hg (j := 0) (by decide) (by decide)) (fun g1 u1 r1 h1 => ?_)
    obtain ⟨rfl, rfl, h1⟩ := h1
    refine hm_bd (mx_ofGoose h e hg (j := 1) (by decide) (by decide)) (fun g2 u2 r2 h2 => ?_)
    obtain ⟨rfl, rfl, h2⟩ := h2
    refine hm_lt (fun y ey => ?_)
    have ty : y = gb_toe R g := by
      rw [ey, h1, h2]
      rfl
    refine hm_if (fun c => hm_some ⟨rfl, rfl, ?_⟩) (fun c => hm_some ⟨rfl, rfl, ?_⟩)
    · unfold gb_mk
      rw [gb_m1 hl, ty, et, if_pos c]
    · unfold gb_mk
      rw [gb_m1 hl, ty, et, if_neg c]
  unfold ms_left
  refine hm_if (fun c => go _ ?_) (fun c => go _ ?_)
  · rw [if_neg (fun z => by have := gi_le c; have := gi_lt z; omega)]
  · rw [if_pos (Int32.lt_iff_toInt_lt.mpr (gi_nle c))]
theorem mx_firstMarks {n m g p : Nat} {R : Nat → Int32} {f : gb_F} {w : Int64} {x y : Int32} (h : gb_mbx m R f) (e : x.toInt = g) (hg : g < 8) (e2 : y.toInt = p) (hp : p < 5) : gb_hm (ms_firstMarks n f w x y) (fun f2 w2 r => f2 = f ∧ w2 = w ∧ r = gb_fm R g p) := by
  unfold ms_firstMarks
  have hR := mbx_rB h
  refine hm_bd (mx_ofPath h e2 (by omega) (j := 0) (by decide) (by decide)) (fun g1 u1 r1 h1 => ?_)
  obtain ⟨rfl, rfl, h1⟩ := h1
  refine hm_bd (mx_ofGoose h e (by omega) (j := 2) (by decide) (by decide)) (fun g2 u2 r2 h2 => ?_)
  obtain ⟨rfl, rfl, h2⟩ := h2
  refine hm_bd (mx_ofGoose h e (by omega) (j := 3) (by decide) (by decide)) (fun g3 u3 r3 h3 => ?_)
  obtain ⟨rfl, rfl, h3⟩ := h3
  rw [Nat.add_zero] at h1
  refine hm_bd (mx_left h e (by omega) (by rw [h3]; exact rB_li hR hg)) (fun g4 u4 r4 h4 => hm_some ⟨h4.1, h4.2.1, ?_⟩)
  rw [h4.2.2, h1, h2, h3]
  rfl
theorem mx_padded {n m p : Nat} {R : Nat → Int32} {f : gb_F} {w : Int64} {x y : Int32} (h : gb_mbx m R f) (e : y.toInt = p) (hp : p ≤ 100) : gb_hm (ms_padded n f w x y) (fun f2 w2 r => f2 = f ∧ w2 = w ∧ r = gb_pd R p x) := by
  unfold ms_padded
  refine hm_bd (mx_ofPath h e hp (j := 2) (by decide) (by decide)) (fun g1 u1 r1 h1 => ?_)
  obtain ⟨rfl, rfl, h1⟩ := h1
  refine hm_lt (fun z ez => hm_some ⟨rfl, rfl, ?_⟩)
  rw [ez, h1]
  rfl
/-! a border is chosen on both sides -/
theorem lk_uq {x c : Int32} {p q : Nat} (h : gb_lk x c p) (g : gb_lk x c q) : p = q := by
  have := h.1
  have := g.1
  omega
theorem lk_no {x c : Int32} {p : Nat} (h : gb_lk x c p) (g : gb_nk x c) : False := by
  have h1 := h.1
  have h2 := h.2
  rcases g with g | g <;> omega
theorem Lk_no {s : Nat} {x c : Int32} {p : Nat} (h : gb_Lk s x c p) (g : gb_Nk x c) : False := by
  have h1 := h.1
  have h2 := h.2
  rcases g with g | g <;> omega
theorem Lk_uq {s : Nat} {x c : Int32} {p q : Nat} (h : gb_Lk s x c p) (g : gb_Lk s x c q) : p = q := by
  have := h.1
  have := g.1
  omega
theorem R_sheet {σ : gb_S} {f : gb_F} {s m : Nat} {p : Int32} (h : gb_R σ f) (hs : s < 4) (hL : gb_Lk s p (f 1 s) m) : gb_RS s (σ.1 (gb_o s m + 1)) (fun j => f 1 (gb_pl s m + j)) := by
  have := h.1.2.2.2.2.2 s m hs (by have := hL.2; omega)
  rw [show gb_o s m + 1 = 1 + gb_o s m by omega]
  exact this
theorem R_held {σ : gb_S} {f : gb_F} {s : Nat} (h : gb_R σ f) (hs : s < 4) : σ.1 22 s = f 1 s := h.1.1 s hs
theorem mbx_u {m : Nat} {f f2 : gb_F} {v : Int32} (hM : gb_TM f) (hm : m < 2) (hb : gb_mb 11 0 m f2) (e : f2 = gb_u f 0 (upd (f 0) 11 v)) : gb_mbx m (fun j => f 1 (gb_pl 0 m + j)) f2 := ⟨rB_of hM hm, hm, hb, fun j => by rw [e, gb_un (by decide)]⟩
abbrev gb_i0 (x c : Int32) : Prop := 0 ≤ x.toInt ∧ x.toInt < c.toInt
theorem in_lk {x c : Int32} {p : Nat} (h : gb_lk x c p) : gb_i0 x c := ⟨by have := h.1; omega, by have := h.1; have := h.2; omega⟩
theorem in_nk {x c : Int32} (h : gb_nk x c) : ¬ gb_i0 x c := fun z => by
  rcases h with h | h
  · have := z.1; omega
  · have := z.2; omega
theorem in_Lk {s : Nat} {x c : Int32} {p : Nat} (h : gb_Lk s x c p) : gb_i0 x c := ⟨by have := h.1; omega, by have := h.1; have := h.2; omega⟩
theorem in_Nk {x c : Int32} (h : gb_Nk x c) : ¬ gb_i0 x c := fun z => by
  rcases h with h | h
  · have := z.1; omega
  · have := z.2; omega
theorem lk_t {x c : Int32} {p : Nat} (h : gb_lk x c p) : x.toInt.toNat = p := by have := h.1; omega
theorem Lk_t {s : Nat} {x c : Int32} {p : Nat} (h : gb_Lk s x c p) : x.toInt.toNat = p := by have := h.1; omega
/-- the numbers of the sheet that a number names -/
def gb_Rs (s : Nat) (f : gb_F) (p : Int32) : Nat → Int32 := fun j => f 1 (gb_pl s p.toInt.toNat + j)
theorem Rs_E {s m : Nat} {f : gb_F} {p c : Int32} (h : gb_Lk s p c m) : gb_Rs s f p = fun j => f 1 (gb_pl s m + j) := by
  unfold gb_Rs
  rw [Lk_t h]
/-- the class finds a border -/
theorem cx_border {n : Nat} {σ : gb_S} {f : gb_F} {p1 : Int32} (h : gb_R σ f) (hM : gb_TM f) : gb_hc (cs_Face_borderAt n σ p1) (fun s r => s = σ ∧ ((r = 0 ∧ ¬ gb_i0 p1 (f 1 0)) ∨ (r ≠ 0 ∧ gb_i0 p1 (f 1 0) ∧ gb_cbx r (gb_Rs 0 f p1) σ ∧ gb_rB (gb_Rs 0 f p1)))) := by
  refine hc_mono ch_borderAt (fun s r g => ⟨g.1, ?_⟩)
  have hh := R_held h (s := 0) (by decide)
  rw [hh] at g
  rcases g.2 with z | ⟨m, z1, z2, z3, z4⟩
  · exact Or.inl ⟨z.1, in_Nk z.2⟩
  · refine Or.inr ⟨z4, in_Lk z1, ?_, ?_⟩
    · rw [Rs_E z1, z3]
      exact R_sheet h (by decide) z1
    · rw [Rs_E z1]
      exact rB_of hM z2
/-- the reference finds a border -/
theorem mx_isBorder {n : Nat} {f : gb_F} {w : Int64} {p1 : Int32} (hM : gb_TM f) : gb_hm (ms_isBorder n f w p1) (fun f2 w2 r => w2 = w ∧ f2 1 = f 1 ∧ gb_TM f2 ∧ ((r = 0 ∧ ¬ gb_i0 p1 (f 1 0)) ∨ (r = 1 ∧ gb_i0 p1 (f 1 0) ∧ ∃ m, gb_mbx m (gb_Rs 0 f p1) f2))) := by
  refine hm_mono (hm_and (mh_isBorder hM) (hm_of (mt_isBorder hM))) (fun f2 w2 r g => ?_)
  obtain ⟨⟨g1, g2⟩, g3, -⟩ := g
  rcases g2 with ⟨z1, z2, z3⟩ | ⟨m, z1, z2, z3, z4, v, z5⟩
  · exact ⟨g1, by rw [z2], g3, Or.inl ⟨z1, in_Nk z3⟩⟩
  · refine ⟨g1, by rw [z5, gb_un (by decide)], g3, Or.inr ⟨z1, in_Lk z2, m, ?_⟩⟩
    rw [Rs_E z2]
    exact mbx_u hM z3 z4 z5
/-! marks -/
def gb_Amarks (f : gb_F) (p1 p2 p3 p4 : Int32) : Int32 := if gb_i0 p1 (f 1 0) then (if gb_i0 p2 (gb_Rs 0 f p1 1) ∧ gb_i0 p3 (gb_Rs 0 f p1 0) then gb_mk (gb_toe (gb_Rs 0 f p1) p2.toInt.toNat) (gb_Rs 0 f p1 (3 + 3 * p3.toInt.toNat)) (gb_Rs 0 f p1 (18 + 5 * p2.toInt.toNat + 2)) (gb_Rs 0 f p1 (18 + 5 * p2.toInt.toNat + 3)) p4 else -1) else -1
theorem cbx_has {n : Nat} {σ : gb_S} {k0 : Nat} {R : Nat → Int32} {x : Int32} (hb : gb_cbx k0 R σ) : gb_hc (cs_Border_hasPath_B n σ k0 x) (fun s r => s = σ ∧ ((r = 0 ∧ ¬ gb_i0 x (R 0)) ∨ (r = 1 ∧ gb_i0 x (R 0) ∧ x.toInt = x.toInt.toNat ∧ x.toInt.toNat < gb_nP R))) := by
  refine hc_mono ch_hasPath (fun s r h => ⟨h.1, ?_⟩)
  have e : σ.1 (k0 + 1) 0 = R 0 := hb.1
  rw [e] at h
  rcases h.2 with z | ⟨p, z1, z2⟩
  · exact Or.inl ⟨z.1, in_nk z.2⟩
  · have h1 := z2.1
    have h2 := z2.2
    exact Or.inr ⟨z1, in_lk z2, by omega, by unfold gb_nP; omega⟩
theorem cbx_hasG {n : Nat} {σ : gb_S} {k0 : Nat} {R : Nat → Int32} {x : Int32} (hb : gb_cbx k0 R σ) : gb_hc (cs_Border_hasGoose_B n σ k0 x) (fun s r => s = σ ∧ ((r = 0 ∧ ¬ gb_i0 x (R 1)) ∨ (r = 1 ∧ gb_i0 x (R 1) ∧ x.toInt = x.toInt.toNat ∧ x.toInt.toNat < gb_nG R))) := by
  refine hc_mono ch_hasGoose (fun s r h => ⟨h.1, ?_⟩)
  have e : σ.1 (k0 + 1) 1 = R 1 := (hb.2.1 rfl).1
  rw [e] at h
  rcases h.2 with z | ⟨p, z1, z2⟩
  · exact Or.inl ⟨z.1, in_nk z.2⟩
  · have h1 := z2.1
    have h2 := z2.2
    exact Or.inr ⟨z1, in_lk z2, by omega, by unfold gb_nG; omega⟩
theorem mbx_has {n m : Nat} {R : Nat → Int32} {f : gb_F} {w : Int64} {x : Int32} (h : gb_mbx m R f) : gb_hm (ms_isPath n f w x) (fun f2 w2 r => f2 = f ∧ w2 = w ∧ ((r = 0 ∧ ¬ gb_i0 x (R 0)) ∨ (r = 1 ∧ gb_i0 x (R 0) ∧ x.toInt = x.toInt.toNat ∧ x.toInt.toNat < gb_nP R))) := by
  refine hm_mono (mx_isPath h) (fun f2 w2 r g => ⟨g.1, g.2.1, ?_⟩)
  rcases g.2.2 with z | ⟨p, z1, z2⟩
  · exact Or.inl ⟨z.1, in_nk z.2⟩
  · have h1 := z2.1
    have h2 := z2.2
    exact Or.inr ⟨z1, in_lk z2, by omega, by unfold gb_nP; omega⟩
theorem mbx_hasG {n m : Nat} {R : Nat → Int32} {f : gb_F} {w : Int64} {x : Int32} (h : gb_mbx m R f) : gb_hm (ms_isGoose n f w x) (fun f2 w2 r => f2 = f ∧ w2 = w ∧ ((r = 0 ∧ ¬ gb_i0 x (R 1)) ∨ (r = 1 ∧ gb_i0 x (R 1) ∧ x.toInt = x.toInt.toNat ∧ x.toInt.toNat < gb_nG R))) := by
  refine hm_mono (mx_isGoose h) (fun f2 w2 r g => ⟨g.1, g.2.1, ?_⟩)
  rcases g.2.2 with z | ⟨p, z1, z2⟩
  · exact Or.inl ⟨z.1, in_nk z.2⟩
  · have h1 := z2.1
    have h2 := z2.2
    exact Or.inr ⟨z1, in_lk z2, by omega, by unfold gb_nG; omega⟩
/-- a yes or no that was answered -/
theorem yn_0 {r : Int32} {P Q : Prop} (h : (r = 0 ∧ P) ∨ (r = 1 ∧ Q)) (c : r = 0) : P := by
  rcases h with z | z
  · exact z.2
  · rw [c] at z
    exact absurd z.1 (by decide)
theorem yn_1 {r : Int32} {P Q : Prop} (h : (r = 0 ∧ P) ∨ (r = 1 ∧ Q)) (c : ¬ r = 0) : Q := by
  rcases h with z | z
  · exact absurd z.1 c
  · exact z.2
theorem c_marks {n : Nat} {σ : gb_S} {f : gb_F} {p1 p2 p3 p4 : Int32} (h : gb_R σ f) (hM : gb_TM f) : gb_hc (cs_Face_marks n σ p1 p2 p3 p4) (fun _ r => r = gb_Amarks f p1 p2 p3 p4) := by
  unfold cs_Face_marks
  refine hc_cd (cx_border h hM) (fun s r g => ?_)
  obtain ⟨rfl, g⟩ := g
  rcases g with ⟨g1, g2⟩ | ⟨g1, g2, g3, g4⟩
  · rw [if_pos g1]
    refine hc_some ?_
    unfold gb_Amarks
    rw [if_neg g2]
  · rw [if_neg g1]
    refine hc_kk (fun _ => hc_cd (cbx_hasG g3) (fun s2 r2 k => ?_))
    obtain ⟨rfl, k⟩ := k
    refine hc_if (fun c => hc_some ?_) (fun c => ?_)
    · unfold gb_Amarks
      rw [if_pos g2, if_neg (fun z => (yn_0 k c) z.1)]
    · obtain ⟨k1, k2, k3⟩ := yn_1 k c
      refine hc_cd (cbx_has g3) (fun s3 r3 k' => ?_)
      obtain ⟨rfl, k'⟩ := k'
      refine hc_if (fun c => hc_some ?_) (fun c => ?_)
      · unfold gb_Amarks
        rw [if_pos g2, if_neg (fun z => (yn_0 k' c) z.2)]
      · obtain ⟨l1, l2, l3⟩ := yn_1 k' c
        refine hc_cd (ch_miles g3 g4 l2 l3) (fun s4 r4 e4 => ?_)
        obtain ⟨rfl, rfl⟩ := e4
        refine hc_cd (ch_boots g3 g4 k2 k3) (fun s5 r5 e5 => ?_)
        obtain ⟨rfl, rfl⟩ := e5
        refine hc_cd (ch_marksOver g3 g4 k2 k3) (fun s6 r6 e6 => hc_some ?_)
        rw [e6.2]
        unfold gb_Amarks
        rw [if_pos g2, if_pos ⟨k1, l1⟩]
theorem m_marks {n : Nat} {f : gb_F} {w : Int64} {p1 p2 p3 p4 : Int32} (hM : gb_TM f) : gb_hm (ms_marks n f w p1 p2 p3 p4) (fun _ _ r => r = gb_Amarks f p1 p2 p3 p4) := by
  unfold ms_marks
  refine hm_bd (mx_isBorder hM) (fun f1 w1 r g => ?_)
  obtain ⟨-, -, hM1, g⟩ := g
  refine hm_if (fun c => hm_some ?_) (fun c => ?_)
  · unfold gb_Amarks
    rw [if_neg (yn_0 g c)]
  · obtain ⟨g2, m, g3⟩ := yn_1 g c
    have g4 := mbx_rB g3
    refine hm_bd (mbx_hasG g3) (fun f2 w2 r2 k => ?_)
    obtain ⟨rfl, rfl, k⟩ := k
    refine hm_if (fun c => hm_some ?_) (fun c => ?_)
    · unfold gb_Amarks
      rw [if_pos g2, if_neg (fun z => (yn_0 k c) z.1)]
    · obtain ⟨k1, k2, k3⟩ := yn_1 k c
      have k8 := (rB_nG g4).2
      refine hm_bd (mbx_has g3) (fun f3 w3 r3 k' => ?_)
      obtain ⟨rfl, rfl, k'⟩ := k'
      refine hm_if (fun c => hm_some ?_) (fun c => ?_)
      · unfold gb_Amarks
        rw [if_pos g2, if_neg (fun z => (yn_0 k' c) z.2)]
      · obtain ⟨l1, l2, l3⟩ := yn_1 k' c
        have l5 := (rB_nP g4).2
        refine hm_bd (mx_ofPath g3 l2 (by omega) (j := 0) (by decide) (by decide)) (fun f4 w4 r4 e4 => ?_)
        obtain ⟨rfl, rfl, e4⟩ := e4
        refine hm_bd (mx_ofGoose g3 k2 (by omega) (j := 2) (by decide) (by decide)) (fun f5 w5 r5 e5 => ?_)
        obtain ⟨rfl, rfl, e5⟩ := e5
        refine hm_bd (mx_ofGoose g3 k2 (by omega) (j := 3) (by decide) (by decide)) (fun f6 w6 r6 e6 => ?_)
        obtain ⟨rfl, rfl, e6⟩ := e6
        rw [Nat.add_zero] at e4
        refine hm_bd (mx_left g3 k2 (by omega) (by rw [e6]; exact rB_li g4 (by omega))) (fun f7 w7 r7 e7 => hm_some ?_)
        rw [e7.2.2, e4, e5, e6]
        unfold gb_Amarks
        rw [if_pos g2, if_pos ⟨k1, l1⟩]
theorem e_marks {σ σ2 : gb_S} {f f2 : gb_F} {w w2 : Int64} {p1 p2 p3 p4 ra qa : Int32} (_ : gb_TC σ) (hM : gb_TM f) (h : gb_R σ f) (ec : cs_Face_marks gb_N σ p1 p2 p3 p4 = some (σ2, ra)) (em : ms_marks gb_N f w p1 p2 p3 p4 = some (f2, w2, qa)) : ra = qa := (c_marks h hM _ _ ec).trans (m_marks hM _ _ _ em).symm
