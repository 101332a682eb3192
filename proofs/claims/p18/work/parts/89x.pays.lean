/-! pays, alike, lame: both sides -/
def gb_pst (kd a b x s : Int32) : Int32 := if kd = 0 then s + a * x else if kd = 1 then (if x ≤ a then s + 0 else s + b) else if kd = 2 then (if a ≤ x then s + 0 else s + b) else if kd = 3 then (if x - x / 2 * 2 = 1 then s + a else s + 0) else (if s ≤ a then s else a)
def gb_ps (R : Nat → Int32) (x : Int32) : Nat → Int32
  | 0 => 0
  | k + 1 => gb_pst (R (1 + 3 * k)) (R (2 + 3 * k)) (R (3 + 3 * k)) x (gb_ps R x k)
def gb_raL (R : Nat → Int32) : Prop := ∀ j, j < 25 → gb_iv (gt_R 2 j).1 (gt_R 2 j).2 (R j)
theorem rL_k {R : Nat → Int32} {k : Nat} (h : gb_raL R) (hk : k < 8) : gb_iv 0 4 (R (1 + 3 * k)) := by
  have := h (1 + 3 * k) (by omega)
  have e := gt_R2t (c := k) (i := 0) (by decide)
  rw [if_pos rfl, Nat.add_zero] at e
  rw [e] at this
  exact this
theorem rL_0 {R : Nat → Int32} (h : gb_raL R) : gb_iv 0 8 (R 0) := gb_iw (h 0 (by decide)) (by decide)
theorem rL_of {f : gb_F} {p1 : Int32} (hM : gb_TM f) (h : gb_i0 p1 (f 1 2)) : gb_raL (gb_Rs 2 f p1) := fun j hj => by
  have i := (hl_0 hM.2 (s := 2) (by decide)).2
  have g := hM.2 (gb_pl 2 p1.toInt.toNat + j)
  rw [(gt_1R (s := 2) (k := p1.toInt.toNat) (by decide) (by have := h.1; have := h.2; omega) (show j < gb_sz 2 from hj)).1] at g
  exact g
theorem gi_1 {x : Int32} {k : Nat} (h : x.toInt = k) (hk : k ≤ 100000) {y : Int32} (e : y = x + 1) : y.toInt = ((k + 1 : Nat) : Int) := by
  rw [e]
  have c1 : (1 : Int32).toInt = 1 := by decide
  rw [gb_tadd (by omega) (by omega), c1, h]
  omega
theorem ch_payFor4 {n : Nat} {σ : gb_S} {k0 : Nat} {R : Nat → Int32} {x : Int32} {c : Nat} (hS : gb_RS 2 (σ.1 (k0 + 1)) R) (hL : gb_raL R) (hc : (R 0).toInt = c) (hc8 : c ≤ 8) : ∀ (mm : Nat) (v2 v3 : Int32) (k : Nat), v3.toInt = k → k ≤ c → v2 = gb_ps R x k → gb_hc (cs_Law_payFor_L_4 n mm σ k0 x v2 v3) (fun s r => s = σ ∧ r = gb_ps R x c) := by
  have rd : ∀ k j, k < c → j < 3 → σ.1 (k0 + 1) (1 + 3 * k + j) = R (1 + 3 * k + j) := fun k j hk hj => by
    have := hS.2.2.1 (Or.inr rfl) (3 * k + j) (by have e : gb_wid 2 = 3 := rfl; rw [e]; omega)
    rw [show 1 + 3 * k + j = 1 + (3 * k + j) by omega]
    exact this
  intro mm
  induction mm with
  | zero =>
    intros
    exact hc_none
  | succ mm ih =>
    intro v2 v3 k e3 hk e2
    rw [cs_Law_payFor_L_4]
    refine hc_kk (fun _ => hc_cd ch_sizeL (fun s r h => ?_))
    obtain ⟨rfl, rfl⟩ := h
    rw [hS.1]
    refine hc_if (fun d => hc_some ⟨rfl, ?_⟩) (fun d => ?_)
    · have := gi_le d
      have hkc : k = c := by omega
      rw [e2, hkc]
    · have hkc : k < c := by
        have := gi_nle d
        omega
      refine hc_cd (ch_cellL e3 (by omega) (j := 1) (by decide) (by decide)) (fun s r h => ?_)
      obtain ⟨rfl, ra⟩ := h
      refine hc_cd (ch_cellL e3 (by omega) (j := 2) (by decide) (by decide)) (fun s r2 h => ?_)
      obtain ⟨rfl, rb⟩ := h
      refine hc_cd (P := fun s2 r3 => s2 = s ∧ r3 = s.1 (k0 + 1) (1 + 3 * k + 0)) ?_ (fun s2 r3 h => ?_)
      · unfold cs_Lines_kind_L
        exact hc_kk (fun _ => hc_cd (ch_cellL e3 (by omega) (j := 0) (by decide) (by decide)) (fun s2 r2 h => hc_some h))
      · obtain ⟨rfl, rk⟩ := h
        rw [rd k 1 hkc (by decide)] at ra
        rw [rd k 2 hkc (by decide)] at rb
        rw [rd k 0 hkc (by decide), Nat.add_zero] at rk
        rw [show 1 + 3 * k + 1 = 2 + 3 * k by omega] at ra
        rw [show 1 + 3 * k + 2 = 3 + 3 * k by omega] at rb
        subst ra
        subst rb
        subst rk
        have ik := rL_k hL (k := k) (by omega)
        have fin : ∀ (y z : Int32), y = gb_pst (R (1 + 3 * k)) (R (2 + 3 * k)) (R (3 + 3 * k)) x v2 → z = v3 + 1 → gb_hc (cs_Law_payFor_L_4 n mm s2 k0 x y z) (fun s r => s = s2 ∧ r = gb_ps R x c) := fun y z hy hz => by
          refine ih y z (k + 1) (gi_1 e3 (by omega) hz) (by omega) ?_
          rw [hy, e2]
          rfl
        refine hc_if (fun c0 => hc_lt (fun y ey => hc_lt (fun z ez => fin y z (by unfold gb_pst; rw [if_pos c0]; exact ey) ez))) (fun c0 => ?_)
        refine hc_if (fun c1 => hc_if (fun d1 => hc_lt (fun y ey => hc_lt (fun z ez => fin y z (by unfold gb_pst; rw [if_neg c0, if_pos c1, if_pos d1]; exact ey) ez))) (fun d1 => hc_lt (fun y ey => hc_lt (fun z ez => fin y z (by unfold gb_pst; rw [if_neg c0, if_pos c1, if_neg d1]; exact ey) ez)))) (fun c1 => ?_)
        refine hc_if (fun c2 => hc_if (fun d1 => hc_lt (fun y ey => hc_lt (fun z ez => fin y z (by unfold gb_pst; rw [if_neg c0, if_neg c1, if_pos c2, if_pos d1]; exact ey) ez))) (fun d1 => hc_lt (fun y ey => hc_lt (fun z ez => fin y z (by unfold gb_pst; rw [if_neg c0, if_neg c1, if_pos c2, if_neg d1]; exact ey) ez)))) (fun c2 => ?_)
        refine hc_if (fun c3 => hc_lt (fun q eq => hc_if (fun d1 => hc_lt (fun y ey => hc_lt (fun z ez => fin y z (by unfold gb_pst; rw [if_neg c0, if_neg c1, if_neg c2, if_pos c3, if_pos (by rw [← eq]; exact d1)]; exact ey) ez))) (fun d1 => hc_lt (fun y ey => hc_lt (fun z ez => fin y z (by unfold gb_pst; rw [if_neg c0, if_neg c1, if_neg c2, if_pos c3, if_neg (by rw [← eq]; exact d1)]; exact ey) ez))))) (fun c3 => ?_)
        refine hc_if (fun c4 => hc_lt (fun y ey => hc_lt (fun z ez => fin y z ?_ ez))) (fun c4 => ?_)
        · unfold gb_pst
          rw [if_neg c0, if_neg c1, if_neg c2, if_neg c3, ey]
          by_cases q : R (2 + 3 * k) < v2
          · rw [if_pos q, if_neg (fun w => by have := gi_lt q; have := gi_le w; omega)]
          · rw [if_neg q, if_pos (Int32.le_iff_toInt_le.mpr (gi_nlt q))]
        · rcases gb_or5 ik with q | q | q | q | q
          · exact absurd q c0
          · exact absurd q c1
          · exact absurd q c2
          · exact absurd q c3
          · exact absurd q c4
theorem mh_paysBy4 {n : Nat} {f : gb_F} {R : Nat → Int32} {x : Int32} {c : Nat} (hm : gb_mlaw R f) (hc : (R 0).toInt = c) (hc8 : c ≤ 8) : ∀ (mm : Nat) (w : Int64) (v2 v3 : Int32) (k : Nat), v3.toInt = k → k ≤ c → v2 = gb_ps R x k → gb_hm (ms_paysBy_4 n mm f w x v2 v3) (fun f2 w2 r => f2 = f ∧ w2 = w ∧ r = gb_ps R x c) := by
  intro mm
  induction mm with
  | zero =>
    intros
    exact hm_none
  | succ mm ih =>
    intro w v2 v3 k e3 hk e2
    rw [ms_paysBy_4, mx_nlaw hm]
    refine hm_ck (fun _ _ => hm_lt (fun y0 ey0 => ?_))
    subst ey0
    refine hm_if (fun d => hm_some ⟨rfl, rfl, ?_⟩) (fun d => ?_)
    · have := gi_le d
      have hkc : k = c := by omega
      rw [e2, hkc]
    · have hkc : k < c := by
        have := gi_nle d
        omega
      refine hm_bd (mx_termOf hm e3 (by omega) (j := 1) (by decide) (by decide)) (fun f1 w1 r h => ?_)
      obtain ⟨rfl, rfl, ra⟩ := h
      refine hm_bd (mx_termOf hm e3 (by omega) (j := 2) (by decide) (by decide)) (fun f2 w2 r2 h => ?_)
      obtain ⟨rfl, rfl, rb⟩ := h
      refine hm_bd (mx_termOf hm e3 (by omega) (j := 0) (by decide) (by decide)) (fun f3 w3 r3 h => ?_)
      obtain ⟨rfl, rfl, rk⟩ := h
      rw [Nat.add_zero] at rk
      rw [show 1 + 3 * k + 1 = 2 + 3 * k by omega] at ra
      rw [show 1 + 3 * k + 2 = 3 + 3 * k by omega] at rb
      subst ra
      subst rb
      subst rk
      have fin : ∀ (y z : Int32), y = gb_pst (R (1 + 3 * k)) (R (2 + 3 * k)) (R (3 + 3 * k)) x v2 → z = v3 + 1 → gb_hm (ms_paysBy_4 n mm f3 w3 x y z) (fun f2 w2 r => f2 = f3 ∧ w2 = w3 ∧ r = gb_ps R x c) := fun y z hy hz => by
        refine ih w3 y z (k + 1) (gi_1 e3 (by omega) hz) (by omega) ?_
        rw [hy, e2]
        rfl
      refine hm_if (fun c0 => hm_lt (fun y ey => hm_lt (fun z ez => fin y z (by unfold gb_pst; rw [if_pos c0]; exact ey) ez))) (fun c0 => ?_)
      refine hm_if (fun c1 => hm_if (fun d1 => hm_lt (fun y ey => hm_lt (fun z ez => fin y z (by unfold gb_pst; rw [if_neg c0, if_pos c1, if_pos d1]; exact ey) ez))) (fun d1 => hm_lt (fun y ey => hm_lt (fun z ez => fin y z (by unfold gb_pst; rw [if_neg c0, if_pos c1, if_neg d1]; exact ey) ez)))) (fun c1 => ?_)
      refine hm_if (fun c2 => hm_if (fun d1 => hm_lt (fun y ey => hm_lt (fun z ez => fin y z (by unfold gb_pst; rw [if_neg c0, if_neg c1, if_pos c2, if_pos d1]; exact ey) ez))) (fun d1 => hm_lt (fun y ey => hm_lt (fun z ez => fin y z (by unfold gb_pst; rw [if_neg c0, if_neg c1, if_pos c2, if_neg d1]; exact ey) ez)))) (fun c2 => ?_)
      refine hm_if (fun c3 => hm_lt (fun q eq => hm_if (fun d1 => hm_lt (fun y ey => hm_lt (fun z ez => fin y z (by unfold gb_pst; rw [if_neg c0, if_neg c1, if_neg c2, if_pos c3, if_pos (by rw [← eq]; exact d1)]; exact ey) ez))) (fun d1 => hm_lt (fun y ey => hm_lt (fun z ez => fin y z (by unfold gb_pst; rw [if_neg c0, if_neg c1, if_neg c2, if_pos c3, if_neg (by rw [← eq]; exact d1)]; exact ey) ez))))) (fun c3 => ?_)
      refine hm_if (fun q => hm_lt (fun z ez => fin _ z (by unfold gb_pst; rw [if_neg c0, if_neg c1, if_neg c2, if_neg c3, if_pos q]) ez)) (fun q => hm_lt (fun z ez => fin _ z (by unfold gb_pst; rw [if_neg c0, if_neg c1, if_neg c2, if_neg c3, if_neg q]) ez))
def gb_payL (R : Nat → Int32) (x : Int32) : Int32 := gb_ps R x (R 0).toInt.toNat
theorem ch_payFor {n : Nat} {σ : gb_S} {k0 : Nat} {R : Nat → Int32} {x : Int32} (hS : gb_RS 2 (σ.1 (k0 + 1)) R) (hL : gb_raL R) : gb_hc (cs_Law_payFor_L n σ k0 x) (fun s r => s = σ ∧ r = gb_payL R x) := by
  unfold cs_Law_payFor_L
  have i := rL_0 hL
  have i1 := i.1
  have i2 := i.2
  exact hc_kk (fun _ => ch_payFor4 hS hL (c := (R 0).toInt.toNat) (by omega) (by omega) n 0 0 0 (by decide) (Nat.zero_le _) rfl)
theorem mh_paysBy {n : Nat} {f : gb_F} {w : Int64} {R : Nat → Int32} {x : Int32} (hm : gb_mlaw R f) (hL : gb_raL R) : gb_hm (ms_paysBy n f w x) (fun f2 w2 r => f2 = f ∧ w2 = w ∧ r = gb_payL R x) := by
  unfold ms_paysBy
  have i := rL_0 hL
  have i1 := i.1
  have i2 := i.2
  exact mh_paysBy4 hm (c := (R 0).toInt.toNat) (by omega) (by omega) n w 0 0 0 (by decide) (Nat.zero_le _) rfl
def gb_Apays (f : gb_F) (p1 p2 : Int32) : Int32 := if gb_i0 p1 (f 1 2) ∧ (0 ≤ p2.toInt ∧ p2.toInt ≤ 9999) then gb_payL (gb_Rs 2 f p1) p2 else -1
theorem c_pays {n : Nat} {σ : gb_S} {f : gb_F} {p1 p2 : Int32} (h : gb_R σ f) (hM : gb_TM f) : gb_hc (cs_Face_pays n σ p1 p2) (fun _ r => r = gb_Apays f p1 p2) := by
  unfold cs_Face_pays
  have c0 : (0 : Int32).toInt = 0 := by decide
  have c9 : (9999 : Int32).toInt = 9999 := by decide
  refine hc_cd (cx_law h hM) (fun s r g => ?_)
  obtain ⟨rfl, g⟩ := g
  rcases g with ⟨g1, g2⟩ | ⟨g1, g2, g3, g4⟩
  · rw [if_pos g1]
    refine hc_some ?_
    unfold gb_Apays
    rw [if_neg (fun z => g2 z.1)]
  · rw [if_neg g1]
    refine hc_kk (fun _ => hc_if (fun c => hc_some ?_) (fun c => hc_if (fun d => ?_) (fun d => hc_some ?_)))
    · have := gi_lt c
      unfold gb_Apays
      rw [if_neg (by omega)]
    · have a1 := gi_nlt c
      have a2 := gi_le d
      refine hc_cd (ch_payFor g3 (rL_of hM g2)) (fun s2 r2 k => hc_some ?_)
      rw [k.2]
      unfold gb_Apays
      rw [if_pos ⟨g2, by omega, by omega⟩]
    · have := gi_nle d
      unfold gb_Apays
      rw [if_neg (by omega)]
theorem m_pays {n : Nat} {f : gb_F} {w : Int64} {p1 p2 : Int32} (hM : gb_TM f) : gb_hm (ms_pays n f w p1 p2) (fun _ _ r => r = gb_Apays f p1 p2) := by
  unfold ms_pays
  have c0 : (0 : Int32).toInt = 0 := by decide
  have c9 : (9999 : Int32).toInt = 9999 := by decide
  refine hm_bd (mh_isOf hM (s := 2) (by decide) (by decide)) (fun g u r hg => ?_)
  obtain ⟨rfl, rfl, hg⟩ := hg
  refine hm_if (fun c => hm_some ?_) (fun c => ?_)
  · rcases hg with z | ⟨m, z, -⟩
    · unfold gb_Apays
      rw [if_neg (fun y => in_Nk z.2 y.1)]
    · rw [c] at z
      exact absurd z (by decide)
  · rcases hg with z | ⟨m, z1, z2, z3⟩
    · exact absurd z.1 c
    · refine hm_bd mh_isIn (fun g2 u2 r2 k => ?_)
      obtain ⟨rfl, rfl, k⟩ := k
      rw [c0, c9] at k
      refine hm_if (fun d => hm_some ?_) (fun d => ?_)
      · have nn : ¬ (0 ≤ p2.toInt ∧ p2.toInt ≤ 9999) := by
          rcases k with y | y
          · rw [d] at y
            exact absurd y.1 (by decide)
          · omega
        unfold gb_Apays
        rw [if_neg (fun y => nn y.2)]
      · have yy : 0 ≤ p2.toInt ∧ p2.toInt ≤ 9999 := by
          rcases k with y | y
          · exact y.2
          · exact absurd y.1 d
        refine hm_bd (hm_of (mt_placeOfE (s := 2) (by decide) (by decide) z2.1 (by omega))) (fun g3 u3 r3 hh => hm_lt (fun y ey => ?_))
        obtain ⟨e1, e2, e3⟩ := hh
        subst e1
        subst e2
        have hml : gb_mlaw (gb_Rs 2 g3 p1) y := by
          refine ⟨m, z3, ?_, fun j => ?_⟩
          · unfold gb_mb
            rw [ey, gb_us, pk_us]
            exact e3
          · rw [ey, gb_un (by decide), Rs_E z2]
        refine hm_bd (mh_paysBy hml (rL_of hM (in_Lk z2))) (fun g4 u4 r4 k4 => hm_some ?_)
        rw [k4.2.2]
        unfold gb_Apays
        rw [if_pos ⟨in_Lk z2, yy⟩]
theorem e_pays {σ σ2 : gb_S} {f f2 : gb_F} {w w2 : Int64} {p1 p2 ra qa : Int32} (_ : gb_TC σ) (hM : gb_TM f) (h : gb_R σ f) (ec : cs_Face_pays gb_N σ p1 p2 = some (σ2, ra)) (em : ms_pays gb_N f w p1 p2 = some (f2, w2, qa)) : ra = qa := (c_pays h hM _ _ ec).trans (m_pays hM _ _ _ em).symm
/-! alike -/
def gb_al (R : Nat → Int32) (a b : Nat) : Nat → Int32
  | 0 => 0
  | k + 1 => if gb_fm R a k = gb_fm R b k then gb_al R a b k ||| gb_bit (nI k) else gb_al R a b k
theorem gi_nI {x : Int32} {k : Nat} (h : x.toInt = k) (hk : k ≤ 100000) : x = nI k := gb_ieq (by rw [h, nI_toInt (by omega)])
theorem ch_alike43 {n : Nat} {σ : gb_S} {k0 a b : Nat} {R : Nat → Int32} {v2 v3 : Int32} (hb : gb_cbx k0 R σ) (hR : gb_rB R) (ea : v2.toInt = a) (ha : a < gb_nG R) (eb : v3.toInt = b) (hb2 : b < gb_nG R) : ∀ (mm : Nat) (v5 v6 : Int32) (k : Nat), v6.toInt = k → k ≤ gb_nP R → v5 = gb_al R a b k → gb_hc (cs_Face_alike_43 n mm σ v2 v3 k0 v5 v6) (fun _ r => r = gb_al R a b (gb_nP R)) := by
  have h5 := (rB_nP hR).2
  have nE := (rB_nP hR).1
  intro mm
  induction mm with
  | zero =>
    intros
    exact hc_none
  | succ mm ih =>
    intro v5 v6 k e6 hk e5
    rw [cs_Face_alike_43]
    refine hc_kk (fun _ => hc_cd ch_paths (fun s r h => ?_))
    obtain ⟨rfl, rfl⟩ := h
    have e0 : s.1 (k0 + 1) 0 = R 0 := hb.1
    rw [e0]
    refine hc_if (fun d => hc_some ?_) (fun d => ?_)
    · have := gi_le d
      rw [e5, show k = gb_nP R by omega]
    · have hkc : k < gb_nP R := by
        have := gi_nle d
        omega
      refine hc_cd (ch_marksFirst hb hR ea ha e6 hkc) (fun s1 r1 h1 => ?_)
      obtain ⟨rfl, rfl⟩ := h1
      refine hc_cd (ch_marksFirst hb hR eb hb2 e6 hkc) (fun s2 r2 h2 => ?_)
      obtain ⟨rfl, rfl⟩ := h2
      refine hc_if (fun q => hc_lt (fun y ey => hc_lt (fun z ez => ih y z (k + 1) (gi_1 e6 (by omega) ez) (by omega) ?_))) (fun q => hc_lt (fun z ez => ih v5 z (k + 1) (gi_1 e6 (by omega) ez) (by omega) ?_))
      · show y = if gb_fm R a k = gb_fm R b k then gb_al R a b k ||| gb_bit (nI k) else gb_al R a b k
        rw [if_pos q, ey, e5, ← gi_nI e6 (by omega)]
        rfl
      · show v5 = if gb_fm R a k = gb_fm R b k then gb_al R a b k ||| gb_bit (nI k) else gb_al R a b k
        rw [if_neg q, e5]
theorem mh_alike37 {n m a b : Nat} {f : gb_F} {R : Nat → Int32} {v2 v3 : Int32} (hb : gb_mbx m R f) (ea : v2.toInt = a) (ha : a < gb_nG R) (eb : v3.toInt = b) (hb2 : b < gb_nG R) : ∀ (mm : Nat) (w : Int64) (v4 v5 : Int32) (k : Nat), v5.toInt = k → k ≤ gb_nP R → v4 = gb_al R a b k → gb_hm (ms_alike_37 n mm f w v2 v3 v4 v5) (fun _ _ r => r = gb_al R a b (gb_nP R)) := by
  have hR := mbx_rB hb
  have h5 := (rB_nP hR).2
  have h8 := (rB_nG hR).2
  have nE := (rB_nP hR).1
  intro mm
  induction mm with
  | zero =>
    intros
    exact hm_none
  | succ mm ih =>
    intro w v4 v5 k e5 hk e4
    rw [ms_alike_37]
    refine hm_bd (mx_paths hb) (fun f1 w1 r h => ?_)
    obtain ⟨rfl, rfl, rfl⟩ := h
    refine hm_if (fun d => hm_some ?_) (fun d => ?_)
    · have := gi_le d
      rw [e4, show k = gb_nP R by omega]
    · have hkc : k < gb_nP R := by
        have := gi_nle d
        omega
      refine hm_bd (mx_firstMarks hb ea (by omega) e5 (by omega)) (fun f2 w2 r1 h1 => ?_)
      obtain ⟨rfl, rfl, rfl⟩ := h1
      refine hm_bd (mx_firstMarks hb eb (by omega) e5 (by omega)) (fun f3 w3 r2 h2 => ?_)
      obtain ⟨rfl, rfl, rfl⟩ := h2
      refine hm_if (fun q => hm_lt (fun y ey => hm_lt (fun z ez => ih w3 y z (k + 1) (gi_1 e5 (by omega) ez) (by omega) ?_))) (fun q => hm_lt (fun y ey => hm_lt (fun z ez => ih w3 y z (k + 1) (gi_1 e5 (by omega) ez) (by omega) ?_)))
      · show y = if gb_fm R a k = gb_fm R b k then gb_al R a b k ||| gb_bit (nI k) else gb_al R a b k
        rw [if_pos q, ey, e4, ← gi_nI e5 (by omega)]
        rfl
      · show y = if gb_fm R a k = gb_fm R b k then gb_al R a b k ||| gb_bit (nI k) else gb_al R a b k
        rw [if_neg q, ey, e4, Int32.or_zero]
def gb_Aalike (f : gb_F) (p1 p2 p3 : Int32) : Int32 := if gb_i0 p1 (f 1 0) then (if ¬ p2 = p3 ∧ gb_i0 p2 (gb_Rs 0 f p1 1) ∧ gb_i0 p3 (gb_Rs 0 f p1 1) then gb_al (gb_Rs 0 f p1) p2.toInt.toNat p3.toInt.toNat (gb_nP (gb_Rs 0 f p1)) else -1) else -1
theorem c_alike {n : Nat} {σ : gb_S} {f : gb_F} {p1 p2 p3 : Int32} (h : gb_R σ f) (hM : gb_TM f) : gb_hc (cs_Face_alike n σ p1 p2 p3) (fun _ r => r = gb_Aalike f p1 p2 p3) := by
  unfold cs_Face_alike
  refine hc_cd (cx_border h hM) (fun s r g => ?_)
  obtain ⟨rfl, g⟩ := g
  rcases g with ⟨g1, g2⟩ | ⟨g1, g2, g3, g4⟩
  · rw [if_pos g1]
    refine hc_some ?_
    unfold gb_Aalike
    rw [if_neg g2]
  · rw [if_neg g1]
    refine hc_kk (fun _ => hc_if (fun c => hc_some ?_) (fun c => hc_cd (cbx_hasG g3) (fun s2 r2 k => ?_)))
    · unfold gb_Aalike
      rw [if_pos g2, if_neg (fun z => z.1 c)]
    · obtain ⟨rfl, k⟩ := k
      refine hc_if (fun d => hc_some ?_) (fun d => hc_cd (cbx_hasG g3) (fun s3 r3 k' => ?_))
      · unfold gb_Aalike
        rw [if_pos g2, if_neg (fun z => (yn_0 k d) z.2.1)]
      · obtain ⟨rfl, k'⟩ := k'
        obtain ⟨k1, k2, k3⟩ := yn_1 k d
        refine hc_if (fun e => hc_some ?_) (fun e => ?_)
        · unfold gb_Aalike
          rw [if_pos g2, if_neg (fun z => (yn_0 k' e) z.2.2)]
        · obtain ⟨l1, l2, l3⟩ := yn_1 k' e
          refine hc_mono (ch_alike43 g3 g4 k2 k3 l2 l3 n 0 0 0 (by decide) (Nat.zero_le _) rfl) (fun _ r hr => ?_)
          rw [hr]
          unfold gb_Aalike
          rw [if_pos g2, if_pos ⟨c, k1, l1⟩]
theorem m_alike {n : Nat} {f : gb_F} {w : Int64} {p1 p2 p3 : Int32} (hM : gb_TM f) : gb_hm (ms_alike n f w p1 p2 p3) (fun _ _ r => r = gb_Aalike f p1 p2 p3) := by
  unfold ms_alike
  refine hm_bd (mx_isBorder hM) (fun f1 w1 r g => ?_)
  obtain ⟨-, -, hM1, g⟩ := g
  refine hm_if (fun c => hm_some ?_) (fun c => ?_)
  · unfold gb_Aalike
    rw [if_neg (yn_0 g c)]
  · obtain ⟨g2, m, g3⟩ := yn_1 g c
    refine hm_bd (mbx_hasG g3) (fun f2 w2 r2 k => ?_)
    obtain ⟨rfl, rfl, k⟩ := k
    refine hm_if (fun d => hm_some ?_) (fun d => ?_)
    · unfold gb_Aalike
      rw [if_pos g2, if_neg (fun z => (yn_0 k d) z.2.1)]
    · obtain ⟨k1, k2, k3⟩ := yn_1 k d
      refine hm_bd (mbx_hasG g3) (fun f3 w3 r3 k' => ?_)
      obtain ⟨rfl, rfl, k'⟩ := k'
      refine hm_if (fun e => hm_some ?_) (fun e => ?_)
      · unfold gb_Aalike
        rw [if_pos g2, if_neg (fun z => (yn_0 k' e) z.2.2)]
      · obtain ⟨l1, l2, l3⟩ := yn_1 k' e
        refine hm_if (fun c => hm_some ?_) (fun c => ?_)
        · unfold gb_Aalike
          rw [if_pos g2, if_neg (fun z => z.1 c)]
        · refine hm_mono (mh_alike37 g3 k2 k3 l2 l3 n w3 0 0 0 (by decide) (Nat.zero_le _) rfl) (fun _ _ r hr => ?_)
          rw [hr]
          unfold gb_Aalike
          rw [if_pos g2, if_pos ⟨c, k1, l1⟩]
theorem e_alike {σ σ2 : gb_S} {f f2 : gb_F} {w w2 : Int64} {p1 p2 p3 ra qa : Int32} (_ : gb_TC σ) (hM : gb_TM f) (h : gb_R σ f) (ec : cs_Face_alike gb_N σ p1 p2 p3 = some (σ2, ra)) (em : ms_alike gb_N f w p1 p2 p3 = some (f2, w2, qa)) : ra = qa := (c_alike h hM _ _ ec).trans (m_alike hM _ _ _ em).symm
