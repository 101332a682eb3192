/-! border, deed, term, seen: both sides -/
theorem gi_dv {p : Int32} (h : 0 ≤ p.toInt) : (p / 10).toInt = p.toInt / 10 ∧ (p - p / 10 * 10).toInt = p.toInt % 10 := by
  have c10 : (10 : Int32).toInt = 10 := by decide
  have ip := gb_it p
  have i : gb_iv 0 2147483647 p := ⟨h, ip.2⟩
  have d := gb_tdiv i (gb_ic c10) (by decide)
  rw [c10, Int.tdiv_eq_ediv_of_nonneg h] at d
  have i2 := ip.2
  have m1 : (p / 10 * 10).toInt = p.toInt / 10 * 10 := by
    rw [gb_tmul (by rw [d, c10]; omega) (by rw [d, c10]; omega), d, c10]
  refine ⟨d, ?_⟩
  rw [gb_tsub (by rw [m1]; omega) (by rw [m1]; omega), m1]
  omega
theorem gi_m1 {p : Int32} : p = -1 ↔ p.toInt = -1 := ⟨fun h => by rw [h]; decide, fun h => gi_eq h (by decide)⟩
def gb_bn (R : Nat → Int32) (x : Int) : Int32 := if 0 ≤ x ∧ x ≤ 2 then R x.toNat else if 10 ≤ x ∧ x ≤ 39 then (if x % 10 < (R 0).toInt then R (3 + 3 * (x % 10).toNat + (x / 10 - 1).toNat) else -2) else if 40 ≤ x ∧ x ≤ 89 then (if x % 10 < (R 1).toInt then R (18 + 5 * (x % 10).toNat + (x / 10 - 4).toNat) else -2) else -2
def gb_Abord (f : gb_F) (p1 p2 : Int32) : Int32 := if gb_i0 p1 (f 1 0) then gb_bn (gb_Rs 0 f p1) p2.toInt else -2
theorem c_told {n : Nat} {σ : gb_S} {k0 : Nat} {R : Nat → Int32} {x : Int32} (hb : gb_cbx k0 R σ) (hR : gb_rB R) (hx : ¬ (0 ≤ x.toInt ∧ x.toInt ≤ 2)) : gb_hc (cs_Border_numberTold_B n σ k0 x) (fun s r => s = σ ∧ r = gb_bn R x.toInt) := by
  unfold cs_Border_numberTold_B
  have c1 : (1 : Int32).toInt = 1 := by decide
  have c3 : (3 : Int32).toInt = 3 := by decide
  have c5 : (5 : Int32).toInt = 5 := by decide
  have c10 : (10 : Int32).toInt = 10 := by decide
  have c18 : (18 : Int32).toInt = 18 := by decide
  have c89 : (89 : Int32).toInt = 89 := by decide
  have h5 := (rB_nP hR).2
  have h8 := (rB_nG hR).2
  have nE := (rB_nP hR).1
  have gE := (rB_nG hR).1
  refine hc_kk (fun _ => hc_if (fun c => hc_some ⟨rfl, ?_⟩) (fun c => hc_if (fun d => ?_) (fun d => hc_some ⟨rfl, ?_⟩)))
  · have := gi_lt c
    unfold gb_bn
    rw [if_neg hx, if_neg (by omega), if_neg (by omega)]
  · have x1 := gi_nlt c
    have x2 := gi_le d
    obtain ⟨d1, d2⟩ := gi_dv (p := x) (by omega)
    refine hc_lt (fun t et => hc_lt (fun u eu => ?_))
    rw [← et] at d1
    rw [← eu] at d2
    refine hc_if (fun g => hc_lt (fun v ev => ?_)) (fun g => ?_)
    · have g1 := gi_lt g
      have v1 : (t - 1).toInt = t.toInt - 1 := by rw [gb_tsub (by omega) (by omega), c1]
      have v2 : v.toInt = (((x.toInt / 10 - 4).toNat : Nat) : Int) := by
        rw [ev, gb_tsub (by omega) (by omega), v1, c3]
        omega
      refine hc_cd (cbx_hasG hb) (fun s r h => ?_)
      obtain ⟨rfl, h⟩ := h
      refine hc_if (fun z => hc_some ⟨rfl, ?_⟩) (fun z => ?_)
      · have nn := yn_0 h z
        unfold gb_bn
        rw [if_neg hx, if_neg (by omega), if_pos (by omega), if_neg (fun q => nn ⟨by omega, by omega⟩)]
      · obtain ⟨y1, y2, y3⟩ := yn_1 h z
        rw [gi_tn (gi_pl (gi_18 y2 (by omega)) v2 (by omega) (by omega))]
        refine hc_ck (fun _ _ => hc_lt (fun q eq => hc_some ⟨rfl, ?_⟩))
        rw [eq, (hb.2.1 rfl).2.2.2 u.toInt.toNat (x.toInt / 10 - 4).toNat y3 (by omega)]
        unfold gb_bn
        have := y1.2
        rw [if_neg hx, if_neg (by omega), if_pos (by omega), if_pos (by omega), d2]
    · have g1 := gi_nlt g
      refine hc_cd (cbx_has hb) (fun s r h => ?_)
      obtain ⟨rfl, h⟩ := h
      refine hc_if (fun z => hc_some ⟨rfl, ?_⟩) (fun z => ?_)
      · have nn := yn_0 h z
        unfold gb_bn
        rw [if_neg hx, if_pos (by omega), if_neg (fun q => nn ⟨by omega, by omega⟩)]
      · obtain ⟨y1, y2, y3⟩ := yn_1 h z
        have w1 : ((3 : Int32) + (u * 3) + t).toInt = ((3 + 3 * u.toInt.toNat + (x.toInt / 10).toNat : Nat) : Int) := gi_pl (gi_3p y2 (by omega)) (by omega) (by omega) (by omega)
        have w2 : ((3 : Int32) + (u * 3) + t - 1).toInt = ((3 + 3 * u.toInt.toNat + (x.toInt / 10 - 1).toNat : Nat) : Int) := by
          rw [gb_tsub (by omega) (by omega), w1, c1]
          omega
        rw [gi_tn w2]
        refine hc_ck (fun _ _ => hc_lt (fun q eq => hc_some ⟨rfl, ?_⟩))
        rw [eq, (hb.2.1 rfl).2.2.1 u.toInt.toNat (x.toInt / 10 - 1).toNat y3 (by omega)]
        unfold gb_bn
        have := y1.2
        rw [if_neg hx, if_pos (by omega), if_pos (by omega), d2]
  · have := gi_nle d
    unfold gb_bn
    rw [if_neg hx, if_neg (by omega), if_neg (by omega)]
theorem c_border {n : Nat} {σ : gb_S} {f : gb_F} {p1 p2 : Int32} (h : gb_R σ f) (hM : gb_TM f) : gb_hc (cs_Face_border n σ p1 p2) (fun _ r => r = gb_Abord f p1 p2) := by
  unfold cs_Face_border
  refine hc_cd (cx_border h hM) (fun s r g => ?_)
  obtain ⟨rfl, g⟩ := g
  rcases g with ⟨g1, g2⟩ | ⟨g1, g2, g3, g4⟩
  · rw [if_pos g1]
    refine hc_some ?_
    unfold gb_Abord
    rw [if_neg g2]
  · rw [if_neg g1]
    have sm : ∀ (v : Int32) (k : Nat), v.toInt = k → k ≤ 2 → p2 = v → gb_Abord f p1 p2 = gb_Rs 0 f p1 k := fun v k ek hk e => by
      unfold gb_Abord gb_bn
      rw [e, ek, if_pos g2, if_pos (by omega), Int.toNat_natCast]
    refine hc_kk (fun _ => hc_if (fun c => ?_) (fun c0 => hc_if (fun c => ?_) (fun c1 => hc_if (fun c => ?_) (fun c2 => ?_))))
    · refine hc_cd ch_paths (fun s2 r2 k => hc_some ?_)
      rw [k.2, sm 0 0 (by decide) (by decide) c]
      exact g3.1
    · refine hc_cd ch_geese (fun s2 r2 k => hc_some ?_)
      rw [k.2, sm 1 1 (by decide) (by decide) c]
      exact (g3.2.1 rfl).1
    · refine hc_cd ch_cap (fun s2 r2 k => hc_some ?_)
      rw [k.2, sm 2 2 (by decide) (by decide) c]
      exact (g3.2.1 rfl).2.1
    · have hx : ¬ (0 ≤ p2.toInt ∧ p2.toInt ≤ 2) := fun z => by
        have a0 : p2.toInt ≠ 0 := fun q => c0 (gi_eq q (by decide))
        have a1 : p2.toInt ≠ 1 := fun q => c1 (gi_eq q (by decide))
        have a2 : p2.toInt ≠ 2 := fun q => c2 (gi_eq q (by decide))
        omega
      refine hc_cd (c_told g3 g4 hx) (fun s2 r2 k => hc_some ?_)
      rw [k.2]
      unfold gb_Abord
      rw [if_pos g2]
theorem m_border {n : Nat} {f : gb_F} {w : Int64} {p1 p2 : Int32} (hM : gb_TM f) : gb_hm (ms_border n f w p1 p2) (fun _ _ r => r = gb_Abord f p1 p2) := by
  unfold ms_border
  have c0 : (0 : Int32).toInt = 0 := by decide
  have c1 : (1 : Int32).toInt = 1 := by decide
  have c2 : (2 : Int32).toInt = 2 := by decide
  have c4 : (4 : Int32).toInt = 4 := by decide
  have c10 : (10 : Int32).toInt = 10 := by decide
  have c39 : (39 : Int32).toInt = 39 := by decide
  have c40 : (40 : Int32).toInt = 40 := by decide
  have c89 : (89 : Int32).toInt = 89 := by decide
  refine hm_bd (mx_isBorder hM) (fun f1 w1 r g => ?_)
  obtain ⟨-, -, hM1, g⟩ := g
  refine hm_if (fun c => hm_some ?_) (fun c => ?_)
  · unfold gb_Abord
    rw [if_neg (yn_0 g c)]
  · obtain ⟨g2, m, g3⟩ := yn_1 g c
    have g4 := mbx_rB g3
    have h5 := (rB_nP g4).2
    have h8 := (rB_nG g4).2
    have ab : gb_Abord f p1 p2 = gb_bn (gb_Rs 0 f p1) p2.toInt := by
      unfold gb_Abord
      rw [if_pos g2]
    rw [ab]
    refine hm_bd mh_isIn (fun f2 w2 r2 k => ?_)
    obtain ⟨rfl, rfl, k⟩ := k
    rw [c0, c2] at k
    refine hm_if (fun z => ?_) (fun z => ?_)
    · have hx : ¬ (0 ≤ p2.toInt ∧ p2.toInt ≤ 2) := by
        rcases k with q | q
        · rw [z] at q
          exact absurd q.1 (by decide)
        · omega
      refine hm_lt (fun u eu => hm_bd mh_isIn (fun f3 w3 r3 k3 => ?_))
      obtain ⟨rfl, rfl, k3⟩ := k3
      rw [c10, c39] at k3
      refine hm_if (fun z3 => ?_) (fun z3 => ?_)
      · have n3 : ¬ (10 ≤ p2.toInt ∧ p2.toInt ≤ 39) := by
          rcases k3 with q | q
          · rw [z3] at q
            exact absurd q.1 (by decide)
          · omega
        refine hm_bd mh_isIn (fun f4 w4 r4 k4 => ?_)
        obtain ⟨rfl, rfl, k4⟩ := k4
        rw [c40, c89] at k4
        refine hm_if (fun z4 => hm_some ?_) (fun z4 => ?_)
        · have n4 : ¬ (40 ≤ p2.toInt ∧ p2.toInt ≤ 89) := by
            rcases k4 with q | q
            · rw [z4] at q
              exact absurd q.1 (by decide)
            · omega
          unfold gb_bn
          rw [if_neg hx, if_neg n3, if_neg n4]
        · have y4 : 40 ≤ p2.toInt ∧ p2.toInt ≤ 89 := by
            rcases k4 with q | q
            · exact q.2
            · exact absurd q.1 z4
          obtain ⟨d1, d2⟩ := gi_dv (p := p2) (by omega)
          rw [← eu] at d2
          refine hm_bd (mbx_hasG g3) (fun f5 w5 r5 k5 => ?_)
          obtain ⟨rfl, rfl, k5⟩ := k5
          refine hm_if (fun z5 => hm_some ?_) (fun z5 => hm_lt (fun t et => ?_))
          · have nn := yn_0 k5 z5
            unfold gb_bn
            rw [if_neg hx, if_neg n3, if_pos y4, if_neg (fun q => nn ⟨by omega, by omega⟩)]
          · obtain ⟨y1, y2, y3⟩ := yn_1 k5 z5
            rw [← et] at d1
            have v1 : (t - 4).toInt = (((p2.toInt / 10 - 4).toNat : Nat) : Int) := by
              rw [gb_tsub (by omega) (by omega), d1, c4]
              omega
            refine hm_bd (mx_ofGoose g3 y2 (by omega) v1 (by omega)) (fun f6 w6 r6 k6 => hm_some ?_)
            rw [k6.2.2]
            unfold gb_bn
            have := y1.2
            rw [if_neg hx, if_neg n3, if_pos y4, if_pos (by omega), d2]
      · have y3' : 10 ≤ p2.toInt ∧ p2.toInt ≤ 39 := by
          rcases k3 with q | q
          · exact q.2
          · exact absurd q.1 z3
        obtain ⟨d1, d2⟩ := gi_dv (p := p2) (by omega)
        rw [← eu] at d2
        refine hm_bd (mbx_has g3) (fun f5 w5 r5 k5 => ?_)
        obtain ⟨rfl, rfl, k5⟩ := k5
        refine hm_if (fun z5 => hm_some ?_) (fun z5 => hm_lt (fun t et => ?_))
        · have nn := yn_0 k5 z5
          unfold gb_bn
          rw [if_neg hx, if_pos y3', if_neg (fun q => nn ⟨by omega, by omega⟩)]
        · obtain ⟨y1, y2, y3⟩ := yn_1 k5 z5
          rw [← et] at d1
          have v1 : (t - 1).toInt = (((p2.toInt / 10 - 1).toNat : Nat) : Int) := by
            rw [gb_tsub (by omega) (by omega), d1, c1]
            omega
          refine hm_bd (mx_ofPath g3 y2 (by omega) v1 (by omega)) (fun f6 w6 r6 k6 => hm_some ?_)
          rw [k6.2.2]
          unfold gb_bn
          have := y1.2
          rw [if_neg hx, if_pos y3', if_pos (by omega), d2]
    · have hx : 0 ≤ p2.toInt ∧ p2.toInt ≤ 2 := by
        rcases k with q | q
        · exact q.2
        · exact absurd q.1 z
      refine hm_bd (mx_of g3 (j := p2.toInt.toNat) (by omega) (by omega)) (fun f3 w3 r3 k3 => hm_some ?_)
      rw [k3.2.2]
      unfold gb_bn
      rw [if_pos hx]
theorem e_border {σ σ2 : gb_S} {f f2 : gb_F} {w w2 : Int64} {p1 p2 ra qa : Int32} (_ : gb_TC σ) (hM : gb_TM f) (h : gb_R σ f) (ec : cs_Face_border gb_N σ p1 p2 = some (σ2, ra)) (em : ms_border gb_N f w p1 p2 = some (f2, w2, qa)) : ra = qa := (c_border h hM _ _ ec).trans (m_border hM _ _ _ em).symm
/-! lines: deed, term, seen -/
def gb_lnv (R : Nat → Int32) (wd : Nat) (mx k what : Int) : Int32 := if k = -1 then (if what = 0 then R 0 else -2) else if (0 ≤ k ∧ k < (R 0).toInt) ∧ (0 ≤ what ∧ what ≤ mx) then R (1 + wd * k.toNat + what.toNat) else -2
def gb_Aln (s wd : Nat) (mx : Int) (f : gb_F) (p1 p2 p3 : Int32) : Int32 := if gb_i0 p1 (f 1 s) then gb_lnv (gb_Rs s f p1) wd mx p2.toInt p3.toInt else -2
theorem ch_cellN {n : Nat} {σ : gb_S} {k0 : Nat} {p1 p2 : Int32} {k j : Nat} (e1 : p1.toInt = k) (hk : k ≤ 1000) (e2 : p2.toInt = j) (hj : j ≤ 10) : gb_hc (cs_Lines_cell_N n σ k0 p1 p2) (fun s r => s = σ ∧ r = σ.1 (k0 + 1) (1 + 4 * k + j)) := by
  unfold cs_Lines_cell_N
  have c1 : (1 : Int32).toInt = 1 := by decide
  have c3 : ((3 : Int32) + 1).toInt = 4 := by decide
  have m1 : (p1 * ((3 : Int32) + 1)).toInt = ((4 * k : Nat) : Int) := by
    rw [gb_tmul (by rw [e1, c3]; omega) (by rw [e1, c3]; omega), e1, c3]
    omega
  have m2 : ((1 : Int32) + p1 * ((3 : Int32) + 1)).toInt = ((1 + 4 * k : Nat) : Int) := by
    rw [gb_tadd (by rw [m1, c1]; omega) (by rw [m1, c1]; omega), m1, c1]
    omega
  have m3 : (((1 : Int32) + p1 * ((3 : Int32) + 1)) + p2).toInt = ((1 + 4 * k + j : Nat) : Int) := by
    rw [gb_tadd (by rw [m2, e2]; omega) (by rw [m2, e2]; omega), m2, e2]
    omega
  rw [gi_tn m3]
  exact hc_kk (fun _ => hc_ck (fun _ _ => hc_lt (fun x ex => hc_some ⟨rfl, ex⟩)))
theorem ch_sizeN {n : Nat} {σ : gb_S} {k0 : Nat} : gb_hc (cs_Lines_size_N n σ k0) (fun s r => s = σ ∧ r = σ.1 (k0 + 1) 0) := by
  unfold cs_Lines_size_N
  exact hc_kk (fun _ => hc_lt (fun x ex => hc_some ⟨rfl, ex⟩))
theorem cx_night {n : Nat} {σ : gb_S} {f : gb_F} {p1 : Int32} (h : gb_R σ f) (hM : gb_TM f) : gb_hc (cs_Face_nightAt n σ p1) (fun s r => s = σ ∧ ((r = 0 ∧ ¬ gb_i0 p1 (f 1 1)) ∨ (r ≠ 0 ∧ gb_i0 p1 (f 1 1) ∧ gb_RS 1 (σ.1 (r + 1)) (gb_Rs 1 f p1) ∧ gb_rg 1 (gb_Rs 1 f p1)))) := by
  refine hc_mono ch_nightAt (fun s r g => ⟨g.1, ?_⟩)
  have hh := R_held h (s := 1) (by decide)
  rw [hh] at g
  rcases g.2 with z | ⟨m, z1, z2, z3, z4⟩
  · exact Or.inl ⟨z.1, in_Nk z.2⟩
  · refine Or.inr ⟨z4, in_Lk z1, ?_, ?_⟩
    · rw [Rs_E z1, z3]
      exact R_sheet h (by decide) z1
    · rw [Rs_E z1]
      have := rg_F (q := 0) hM.2 (s := 1) (m := m) (by decide) (by omega)
      have e00 : (fun j => f 1 (992 * 0 + (gb_pl 1 m + j))) = (fun j => f 1 (gb_pl 1 m + j)) := funext (fun j => by rw [show 992 * 0 + (gb_pl 1 m + j) = gb_pl 1 m + j by omega])
      rw [e00] at this
      exact this
/-- the reference's place of such a sheet -/
def gb_mnight (R : Nat → Int32) (f : gb_F) : Prop := ∃ m : Nat, m < 2 ∧ gb_mb 12 1 m f ∧ ∀ j, f 1 (gb_pl 1 m + j) = R j
theorem mx_night {n : Nat} {f : gb_F} {w : Int64} {p1 : Int32} {Q : gb_F → Int64 → Int32 → Prop} {x : gb_MR Int32} {k : gb_F → Int64 → gb_MR Int32} (hM : gb_TM f) (ex : x = gb_bd (ms_isOf n f w 1 p1) (fun f_1 wl_2 r_3 => (if r_3 = 0 then some (f_1, wl_2, (-2)) else gb_bd (ms_placeOf n f_1 wl_2 1 p1) (fun f_7 wl_8 r_9 => gb_lt (gb_u f_7 0 (upd (f_7 0) 12 r_9)) (fun f_12 => k f_12 wl_8))))) (h1 : ¬ gb_i0 p1 (f 1 1) → Q f w (-2)) (h2 : ∀ f2 : gb_F, gb_i0 p1 (f 1 1) → gb_TM f2 → gb_mnight (gb_Rs 1 f p1) f2 → gb_hm (k f2 w) Q) : gb_hm x Q := by
  rw [ex]
  refine hm_bd (mh_isOf hM (s := 1) (by decide) (by decide)) (fun g u r hg => ?_)
  obtain ⟨rfl, rfl, hg⟩ := hg
  refine hm_if (fun c => hm_some ?_) (fun c => ?_)
  · rcases hg with z | ⟨m, z, -⟩
    · exact h1 (in_Nk z.2)
    · rw [c] at z
      exact absurd z (by decide)
  · rcases hg with z | ⟨m, z1, z2, z3⟩
    · exact absurd z.1 c
    · refine hm_bd (hm_and (hm_of (mt_placeOfE (s := 1) (by decide) (by decide) z2.1 (by omega))) (hm_of (mt_placeOf1 (p2 := p1) ⟨by have := z2.1; omega, by have := z2.1; omega⟩))) (fun g2 u2 r2 hh => hm_lt (fun y ey => ?_))
      obtain ⟨⟨e1, e2, e3⟩, -, -, e4⟩ := hh
      subst e1
      subst e2
      refine h2 y (in_Lk z2) (by rw [ey]; exact gb_TM12 hM (Or.inr e4)) ⟨m, z3, ?_, fun j => ?_⟩
      · unfold gb_mb
        rw [ey, gb_us, pk_us]
        exact e3
      · rw [ey, gb_un (by decide), Rs_E z2]
theorem ch_cellL {n : Nat} {σ : gb_S} {k0 : Nat} {p1 p2 : Int32} {k j : Nat} (e1 : p1.toInt = k) (hk : k ≤ 1000) (e2 : p2.toInt = j) (hj : j ≤ 10) : gb_hc (cs_Lines_cell_L n σ k0 p1 p2) (fun s r => s = σ ∧ r = σ.1 (k0 + 1) (1 + 3 * k + j)) := by
  unfold cs_Lines_cell_L
  have c1 : (1 : Int32).toInt = 1 := by decide
  have c3 : ((2 : Int32) + 1).toInt = 3 := by decide
  have m1 : (p1 * ((2 : Int32) + 1)).toInt = ((3 * k : Nat) : Int) := by
    rw [gb_tmul (by rw [e1, c3]; omega) (by rw [e1, c3]; omega), e1, c3]
    omega
  have m2 : ((1 : Int32) + p1 * ((2 : Int32) + 1)).toInt = ((1 + 3 * k : Nat) : Int) := by
    rw [gb_tadd (by rw [m1, c1]; omega) (by rw [m1, c1]; omega), m1, c1]
    omega
  have m3 : (((1 : Int32) + p1 * ((2 : Int32) + 1)) + p2).toInt = ((1 + 3 * k + j : Nat) : Int) := by
    rw [gb_tadd (by rw [m2, e2]; omega) (by rw [m2, e2]; omega), m2, e2]
    omega
  rw [gi_tn m3]
  exact hc_kk (fun _ => hc_ck (fun _ _ => hc_lt (fun x ex => hc_some ⟨rfl, ex⟩)))
theorem ch_sizeL {n : Nat} {σ : gb_S} {k0 : Nat} : gb_hc (cs_Lines_size_L n σ k0) (fun s r => s = σ ∧ r = σ.1 (k0 + 1) 0) := by
  unfold cs_Lines_size_L
  exact hc_kk (fun _ => hc_lt (fun x ex => hc_some ⟨rfl, ex⟩))
theorem cx_law {n : Nat} {σ : gb_S} {f : gb_F} {p1 : Int32} (h : gb_R σ f) (hM : gb_TM f) : gb_hc (cs_Face_lawAt n σ p1) (fun s r => s = σ ∧ ((r = 0 ∧ ¬ gb_i0 p1 (f 1 2)) ∨ (r ≠ 0 ∧ gb_i0 p1 (f 1 2) ∧ gb_RS 2 (σ.1 (r + 1)) (gb_Rs 2 f p1) ∧ gb_rg 2 (gb_Rs 2 f p1)))) := by
  refine hc_mono ch_lawAt (fun s r g => ⟨g.1, ?_⟩)
  have hh := R_held h (s := 2) (by decide)
  rw [hh] at g
  rcases g.2 with z | ⟨m, z1, z2, z3, z4⟩
  · exact Or.inl ⟨z.1, in_Nk z.2⟩
  · refine Or.inr ⟨z4, in_Lk z1, ?_, ?_⟩
    · rw [Rs_E z1, z3]
      exact R_sheet h (by decide) z1
    · rw [Rs_E z1]
      have := rg_F (q := 0) hM.2 (s := 2) (m := m) (by decide) (by omega)
      have e00 : (fun j => f 1 (992 * 0 + (gb_pl 2 m + j))) = (fun j => f 1 (gb_pl 2 m + j)) := funext (fun j => by rw [show 992 * 0 + (gb_pl 2 m + j) = gb_pl 2 m + j by omega])
      rw [e00] at this
      exact this
/-- the reference's place of such a sheet -/
def gb_mlaw (R : Nat → Int32) (f : gb_F) : Prop := ∃ m : Nat, m < 2 ∧ gb_mb 25 2 m f ∧ ∀ j, f 1 (gb_pl 2 m + j) = R j
theorem mx_law {n : Nat} {f : gb_F} {w : Int64} {p1 : Int32} {Q : gb_F → Int64 → Int32 → Prop} {x : gb_MR Int32} {k : gb_F → Int64 → gb_MR Int32} (hM : gb_TM f) (ex : x = gb_bd (ms_isOf n f w 2 p1) (fun f_1 wl_2 r_3 => (if r_3 = 0 then some (f_1, wl_2, (-2)) else gb_bd (ms_placeOf n f_1 wl_2 2 p1) (fun f_7 wl_8 r_9 => gb_lt (gb_u f_7 0 (upd (f_7 0) 25 r_9)) (fun f_12 => k f_12 wl_8))))) (h1 : ¬ gb_i0 p1 (f 1 2) → Q f w (-2)) (h2 : ∀ f2 : gb_F, gb_i0 p1 (f 1 2) → gb_TM f2 → gb_mlaw (gb_Rs 2 f p1) f2 → gb_hm (k f2 w) Q) : gb_hm x Q := by
  rw [ex]
  refine hm_bd (mh_isOf hM (s := 2) (by decide) (by decide)) (fun g u r hg => ?_)
  obtain ⟨rfl, rfl, hg⟩ := hg
  refine hm_if (fun c => hm_some ?_) (fun c => ?_)
  · rcases hg with z | ⟨m, z, -⟩
    · exact h1 (in_Nk z.2)
    · rw [c] at z
      exact absurd z (by decide)
  · rcases hg with z | ⟨m, z1, z2, z3⟩
    · exact absurd z.1 c
    · refine hm_bd (hm_and (hm_of (mt_placeOfE (s := 2) (by decide) (by decide) z2.1 (by omega))) (hm_of (mt_placeOf2 (p2 := p1) ⟨by have := z2.1; omega, by have := z2.1; omega⟩))) (fun g2 u2 r2 hh => hm_lt (fun y ey => ?_))
      obtain ⟨⟨e1, e2, e3⟩, -, -, e4⟩ := hh
      subst e1
      subst e2
      refine h2 y (in_Lk z2) (by rw [ey]; exact gb_TM25 hM (Or.inr e4)) ⟨m, z3, ?_, fun j => ?_⟩
      · unfold gb_mb
        rw [ey, gb_us, pk_us]
        exact e3
      · rw [ey, gb_un (by decide), Rs_E z2]
theorem ch_sizeD {n : Nat} {σ : gb_S} {k0 : Nat} : gb_hc (cs_Lines_size_D n σ k0) (fun s r => s = σ ∧ r = σ.1 (k0 + 1) 0) := by
  unfold cs_Lines_size_D
  exact hc_kk (fun _ => hc_lt (fun x ex => hc_some ⟨rfl, ex⟩))
theorem cx_dawn {n : Nat} {σ : gb_S} {f : gb_F} {p1 : Int32} (h : gb_R σ f) (hM : gb_TM f) : gb_hc (cs_Face_dawnAt n σ p1) (fun s r => s = σ ∧ ((r = 0 ∧ ¬ gb_i0 p1 (f 1 3)) ∨ (r ≠ 0 ∧ gb_i0 p1 (f 1 3) ∧ gb_RS 3 (σ.1 (r + 1)) (gb_Rs 3 f p1) ∧ gb_rg 3 (gb_Rs 3 f p1)))) := by
  refine hc_mono ch_dawnAt (fun s r g => ⟨g.1, ?_⟩)
  have hh := R_held h (s := 3) (by decide)
  rw [hh] at g
  rcases g.2 with z | ⟨m, z1, z2, z3, z4⟩
  · exact Or.inl ⟨z.1, in_Nk z.2⟩
  · refine Or.inr ⟨z4, in_Lk z1, ?_, ?_⟩
    · rw [Rs_E z1, z3]
      exact R_sheet h (by decide) z1
    · rw [Rs_E z1]
      have := rg_F (q := 0) hM.2 (s := 3) (m := m) (by decide) (by omega)
      have e00 : (fun j => f 1 (992 * 0 + (gb_pl 3 m + j))) = (fun j => f 1 (gb_pl 3 m + j)) := funext (fun j => by rw [show 992 * 0 + (gb_pl 3 m + j) = gb_pl 3 m + j by omega])
      rw [e00] at this
      exact this
/-- the reference's place of such a sheet -/
def gb_mdawn (R : Nat → Int32) (f : gb_F) : Prop := ∃ m : Nat, m < 2 ∧ gb_mb 29 3 m f ∧ ∀ j, f 1 (gb_pl 3 m + j) = R j
theorem mx_dawn {n : Nat} {f : gb_F} {w : Int64} {p1 : Int32} {Q : gb_F → Int64 → Int32 → Prop} {x : gb_MR Int32} {k : gb_F → Int64 → gb_MR Int32} (hM : gb_TM f) (ex : x = gb_bd (ms_isOf n f w 3 p1) (fun f_1 wl_2 r_3 => (if r_3 = 0 then some (f_1, wl_2, (-2)) else gb_bd (ms_placeOf n f_1 wl_2 3 p1) (fun f_7 wl_8 r_9 => gb_lt (gb_u f_7 0 (upd (f_7 0) 29 r_9)) (fun f_12 => k f_12 wl_8))))) (h1 : ¬ gb_i0 p1 (f 1 3) → Q f w (-2)) (h2 : ∀ f2 : gb_F, gb_i0 p1 (f 1 3) → gb_TM f2 → gb_mdawn (gb_Rs 3 f p1) f2 → gb_hm (k f2 w) Q) : gb_hm x Q := by
  rw [ex]
  refine hm_bd (mh_isOf hM (s := 3) (by decide) (by decide)) (fun g u r hg => ?_)
  obtain ⟨rfl, rfl, hg⟩ := hg
  refine hm_if (fun c => hm_some ?_) (fun c => ?_)
  · rcases hg with z | ⟨m, z, -⟩
    · exact h1 (in_Nk z.2)
    · rw [c] at z
      exact absurd z (by decide)
  · rcases hg with z | ⟨m, z1, z2, z3⟩
    · exact absurd z.1 c
    · refine hm_bd (hm_and (hm_of (mt_placeOfE (s := 3) (by decide) (by decide) z2.1 (by omega))) (hm_of (mt_placeOf3 (p2 := p1) ⟨by have := z2.1; omega, by have := z2.1; omega⟩))) (fun g2 u2 r2 hh => hm_lt (fun y ey => ?_))
      obtain ⟨⟨e1, e2, e3⟩, -, -, e4⟩ := hh
      subst e1
      subst e2
      refine h2 y (in_Lk z2) (by rw [ey]; exact gb_TM29 hM (Or.inr e4)) ⟨m, z3, ?_, fun j => ?_⟩
      · unfold gb_mb
        rw [ey, gb_us, pk_us]
        exact e3
      · rw [ey, gb_un (by decide), Rs_E z2]
theorem c_lineOfN {n : Nat} {σ : gb_S} {k0 : Nat} {R : Nat → Int32} {p2 p3 : Int32} (hS : gb_RS 1 (σ.1 (k0 + 1)) R) (hg : gb_rg 1 R) : gb_hc (cs_Face_lineOf_N n σ k0 p2 p3) (fun s r => s = σ ∧ r = gb_lnv R 4 3 p2.toInt p3.toInt) := by
  unfold cs_Face_lineOf_N
  have c0 : (0 : Int32).toInt = 0 := by decide
  have cn : (3 : Int32).toInt = 3 := by decide
  have i0 : gb_iv 0 24 (R 0) := gb_iw (hg.2.1 rfl) (by decide)
  have i1 := i0.1
  have i2 := i0.2
  refine hc_kk (fun _ => hc_if (fun c => hc_if (fun d => ?_) (fun d => hc_some ⟨rfl, ?_⟩)) (fun c => hc_if (fun d => hc_some ⟨rfl, ?_⟩) (fun d => ?_)))
  · refine hc_cd ch_sizeN (fun s r h => hc_some ⟨h.1, ?_⟩)
    rw [h.2, hS.1]
    unfold gb_lnv
    rw [if_pos (gi_m1.mp c), if_pos (by rw [d]; exact c0)]
  · unfold gb_lnv
    rw [if_pos (gi_m1.mp c), if_neg (fun q => d (gi_eq q c0))]
  · have := gi_lt d
    unfold gb_lnv
    rw [if_neg (fun q => c (gi_m1.mpr q)), if_neg (by omega)]
  · have d1 := gi_nlt d
    refine hc_cd ch_sizeN (fun s r h => ?_)
    obtain ⟨rfl, rfl⟩ := h
    rw [hS.1]
    refine hc_if (fun g => hc_some ⟨rfl, ?_⟩) (fun g => hc_if (fun g2 => hc_some ⟨rfl, ?_⟩) (fun g2 => hc_if (fun g3 => ?_) (fun g3 => hc_some ⟨rfl, ?_⟩)))
    · have := gi_le g
      unfold gb_lnv
      rw [if_neg (fun q => c (gi_m1.mpr q)), if_neg (by omega)]
    · have := gi_lt g2
      unfold gb_lnv
      rw [if_neg (fun q => c (gi_m1.mpr q)), if_neg (by omega)]
    · have g1 := gi_nle g
      have g21 := gi_nlt g2
      have g31 := gi_le g3
      refine hc_cd (ch_cellN (k := p2.toInt.toNat) (j := p3.toInt.toNat) (by omega) (by omega) (by omega) (by omega)) (fun s2 r2 h2 => hc_some ⟨h2.1, ?_⟩)
      rw [h2.2]
      unfold gb_lnv
      rw [if_neg (fun q => c (gi_m1.mpr q)), if_pos ⟨⟨by omega, by omega⟩, by omega, by omega⟩]
      have e : 1 + 4 * p2.toInt.toNat + p3.toInt.toNat = 1 + (4 * p2.toInt.toNat + p3.toInt.toNat) := by omega
      rw [e]
      have wE : gb_wid 1 = 4 := rfl
      exact hS.2.2.1 (by decide) _ (by rw [wE]; omega)
    · have := gi_nle g3
      unfold gb_lnv
      rw [if_neg (fun q => c (gi_m1.mpr q)), if_neg (by omega)]
theorem c_deed {n : Nat} {σ : gb_S} {f : gb_F} {p1 p2 p3 : Int32} (h : gb_R σ f) (hM : gb_TM f) : gb_hc (cs_Face_deed n σ p1 p2 p3) (fun _ r => r = gb_Aln 1 4 3 f p1 p2 p3) := by
  unfold cs_Face_deed
  refine hc_cd (cx_night h hM) (fun s r g => ?_)
  obtain ⟨rfl, g⟩ := g
  rcases g with ⟨g1, g2⟩ | ⟨g1, g2, g3, g4⟩
  · rw [if_pos g1]
    refine hc_some ?_
    unfold gb_Aln
    rw [if_neg g2]
  · rw [if_neg g1]
    refine hc_kk (fun _ => hc_cd (c_lineOfN g3 g4) (fun s2 r2 k => hc_some ?_))
    rw [k.2]
    unfold gb_Aln
    rw [if_pos g2]
theorem mx_deedOf {n : Nat} {f : gb_F} {w : Int64} {R : Nat → Int32} {x y : Int32} {k j : Nat} (h : gb_mnight R f) (e1 : x.toInt = k) (hk : k ≤ 1000) (e2 : y.toInt = j) (hj : j ≤ 10) : gb_hm (ms_deedOf n f w x y) (fun f2 w2 r => f2 = f ∧ w2 = w ∧ r = R (1 + 4 * k + j)) := by
  unfold ms_deedOf
  obtain ⟨m, hm, hb, hR⟩ := h
  have hb' : (f 0 12).toInt = gb_pl 1 m := hb
  have hp : gb_pl 1 m ≤ 1000 := by
    rcases pl_E (s := 1) (m := m) (by decide) with a | a | a | a <;> omega
  have c1 : (1 : Int32).toInt = ((1 : Nat) : Int) := by decide
  have cw : (4 : Int32).toInt = 4 := by decide
  have m1 : (4 * x).toInt = ((4 * k : Nat) : Int) := by
    rw [gb_tmul (by rw [e1, cw]; omega) (by rw [e1, cw]; omega), e1, cw]
    omega
  have m2 := gi_pl (gi_pl (gi_pl hb' c1 (by omega) (by omega)) m1 (by omega) (by omega)) e2 (by omega) (by omega)
  rw [gi_tn m2]
  refine hm_ck (fun _ _ => hm_lt (fun z ez => hm_some ⟨rfl, rfl, ?_⟩))
  rw [ez, show gb_pl 1 m + 1 + 4 * k + j = gb_pl 1 m + (1 + 4 * k + j) by omega]
  exact hR _
theorem mx_nnight {f : gb_F} {R : Nat → Int32} (h : gb_mnight R f) : f 1 (Int32.toNatClampNeg (f 0 12)) = R 0 := by
  obtain ⟨m, hm, hb, hR⟩ := h
  have hb' : (f 0 12).toInt = gb_pl 1 m := hb
  rw [gi_tn hb']
  have := hR 0
  rw [Nat.add_zero] at this
  exact this
theorem rs_night {f : gb_F} {p1 : Int32} (hM : gb_TM f) (h : gb_i0 p1 (f 1 1)) : gb_rg 1 (gb_Rs 1 f p1) := by
  have i := hl_0 hM.2 (s := 1) (by decide)
  have i2 := i.2
  have := rg_F (q := 0) hM.2 (s := 1) (m := p1.toInt.toNat) (by decide) (by have := h.1; have := h.2; omega)
  have e00 : (fun j => f 1 (992 * 0 + (gb_pl 1 p1.toInt.toNat + j))) = gb_Rs 1 f p1 := funext (fun j => by rw [show 992 * 0 + (gb_pl 1 p1.toInt.toNat + j) = gb_pl 1 p1.toInt.toNat + j by omega]; rfl)
  rw [e00] at this
  exact this
theorem c_lineOfL {n : Nat} {σ : gb_S} {k0 : Nat} {R : Nat → Int32} {p2 p3 : Int32} (hS : gb_RS 2 (σ.1 (k0 + 1)) R) (hg : gb_rg 2 R) : gb_hc (cs_Face_lineOf_L n σ k0 p2 p3) (fun s r => s = σ ∧ r = gb_lnv R 3 2 p2.toInt p3.toInt) := by
  unfold cs_Face_lineOf_L
  have c0 : (0 : Int32).toInt = 0 := by decide
  have cn : (2 : Int32).toInt = 2 := by decide
  have i0 : gb_iv 0 24 (R 0) := gb_iw (hg.2.2.1 rfl) (by decide)
  have i1 := i0.1
  have i2 := i0.2
  refine hc_kk (fun _ => hc_if (fun c => hc_if (fun d => ?_) (fun d => hc_some ⟨rfl, ?_⟩)) (fun c => hc_if (fun d => hc_some ⟨rfl, ?_⟩) (fun d => ?_)))
  · refine hc_cd ch_sizeL (fun s r h => hc_some ⟨h.1, ?_⟩)
    rw [h.2, hS.1]
    unfold gb_lnv
    rw [if_pos (gi_m1.mp c), if_pos (by rw [d]; exact c0)]
  · unfold gb_lnv
    rw [if_pos (gi_m1.mp c), if_neg (fun q => d (gi_eq q c0))]
  · have := gi_lt d
    unfold gb_lnv
    rw [if_neg (fun q => c (gi_m1.mpr q)), if_neg (by omega)]
  · have d1 := gi_nlt d
    refine hc_cd ch_sizeL (fun s r h => ?_)
    obtain ⟨rfl, rfl⟩ := h
    rw [hS.1]
    refine hc_if (fun g => hc_some ⟨rfl, ?_⟩) (fun g => hc_if (fun g2 => hc_some ⟨rfl, ?_⟩) (fun g2 => hc_if (fun g3 => ?_) (fun g3 => hc_some ⟨rfl, ?_⟩)))
    · have := gi_le g
      unfold gb_lnv
      rw [if_neg (fun q => c (gi_m1.mpr q)), if_neg (by omega)]
    · have := gi_lt g2
      unfold gb_lnv
      rw [if_neg (fun q => c (gi_m1.mpr q)), if_neg (by omega)]
    · have g1 := gi_nle g
      have g21 := gi_nlt g2
      have g31 := gi_le g3
      refine hc_cd (ch_cellL (k := p2.toInt.toNat) (j := p3.toInt.toNat) (by omega) (by omega) (by omega) (by omega)) (fun s2 r2 h2 => hc_some ⟨h2.1, ?_⟩)
      rw [h2.2]
      unfold gb_lnv
      rw [if_neg (fun q => c (gi_m1.mpr q)), if_pos ⟨⟨by omega, by omega⟩, by omega, by omega⟩]
      have e : 1 + 3 * p2.toInt.toNat + p3.toInt.toNat = 1 + (3 * p2.toInt.toNat + p3.toInt.toNat) := by omega
      rw [e]
      have wE : gb_wid 2 = 3 := rfl
      exact hS.2.2.1 (by decide) _ (by rw [wE]; omega)
    · have := gi_nle g3
      unfold gb_lnv
      rw [if_neg (fun q => c (gi_m1.mpr q)), if_neg (by omega)]
theorem c_term {n : Nat} {σ : gb_S} {f : gb_F} {p1 p2 p3 : Int32} (h : gb_R σ f) (hM : gb_TM f) : gb_hc (cs_Face_term n σ p1 p2 p3) (fun _ r => r = gb_Aln 2 3 2 f p1 p2 p3) := by
  unfold cs_Face_term
  refine hc_cd (cx_law h hM) (fun s r g => ?_)
  obtain ⟨rfl, g⟩ := g
  rcases g with ⟨g1, g2⟩ | ⟨g1, g2, g3, g4⟩
  · rw [if_pos g1]
    refine hc_some ?_
    unfold gb_Aln
    rw [if_neg g2]
  · rw [if_neg g1]
    refine hc_kk (fun _ => hc_cd (c_lineOfL g3 g4) (fun s2 r2 k => hc_some ?_))
    rw [k.2]
    unfold gb_Aln
    rw [if_pos g2]
theorem mx_termOf {n : Nat} {f : gb_F} {w : Int64} {R : Nat → Int32} {x y : Int32} {k j : Nat} (h : gb_mlaw R f) (e1 : x.toInt = k) (hk : k ≤ 1000) (e2 : y.toInt = j) (hj : j ≤ 10) : gb_hm (ms_termOf n f w x y) (fun f2 w2 r => f2 = f ∧ w2 = w ∧ r = R (1 + 3 * k + j)) := by
  unfold ms_termOf
  obtain ⟨m, hm, hb, hR⟩ := h
  have hb' : (f 0 25).toInt = gb_pl 2 m := hb
  have hp : gb_pl 2 m ≤ 1000 := by
    rcases pl_E (s := 2) (m := m) (by decide) with a | a | a | a <;> omega
  have c1 : (1 : Int32).toInt = ((1 : Nat) : Int) := by decide
  have cw : (3 : Int32).toInt = 3 := by decide
  have m1 : (3 * x).toInt = ((3 * k : Nat) : Int) := by
    rw [gb_tmul (by rw [e1, cw]; omega) (by rw [e1, cw]; omega), e1, cw]
    omega
  have m2 := gi_pl (gi_pl (gi_pl hb' c1 (by omega) (by omega)) m1 (by omega) (by omega)) e2 (by omega) (by omega)
  rw [gi_tn m2]
  refine hm_ck (fun _ _ => hm_lt (fun z ez => hm_some ⟨rfl, rfl, ?_⟩))
  rw [ez, show gb_pl 2 m + 1 + 3 * k + j = gb_pl 2 m + (1 + 3 * k + j) by omega]
  exact hR _
theorem mx_nlaw {f : gb_F} {R : Nat → Int32} (h : gb_mlaw R f) : f 1 (Int32.toNatClampNeg (f 0 25)) = R 0 := by
  obtain ⟨m, hm, hb, hR⟩ := h
  have hb' : (f 0 25).toInt = gb_pl 2 m := hb
  rw [gi_tn hb']
  have := hR 0
  rw [Nat.add_zero] at this
  exact this
theorem rs_law {f : gb_F} {p1 : Int32} (hM : gb_TM f) (h : gb_i0 p1 (f 1 2)) : gb_rg 2 (gb_Rs 2 f p1) := by
  have i := hl_0 hM.2 (s := 2) (by decide)
  have i2 := i.2
  have := rg_F (q := 0) hM.2 (s := 2) (m := p1.toInt.toNat) (by decide) (by have := h.1; have := h.2; omega)
  have e00 : (fun j => f 1 (992 * 0 + (gb_pl 2 p1.toInt.toNat + j))) = gb_Rs 2 f p1 := funext (fun j => by rw [show 992 * 0 + (gb_pl 2 p1.toInt.toNat + j) = gb_pl 2 p1.toInt.toNat + j by omega]; rfl)
  rw [e00] at this
  exact this
theorem mx_seenOf {n : Nat} {f : gb_F} {w : Int64} {R : Nat → Int32} {x y : Int32} {k j : Nat} (h : gb_mdawn R f) (e1 : x.toInt = k) (hk : k ≤ 1000) (e2 : y.toInt = j) (hj : j ≤ 10) : gb_hm (ms_seenOf n f w x y) (fun f2 w2 r => f2 = f ∧ w2 = w ∧ r = R (1 + 2 * k + j)) := by
  unfold ms_seenOf
  obtain ⟨m, hm, hb, hR⟩ := h
  have hb' : (f 0 29).toInt = gb_pl 3 m := hb
  have hp : gb_pl 3 m ≤ 1000 := by
    rcases pl_E (s := 3) (m := m) (by decide) with a | a | a | a <;> omega
  have c1 : (1 : Int32).toInt = ((1 : Nat) : Int) := by decide
  have cw : (2 : Int32).toInt = 2 := by decide
  have m1 : (2 * x).toInt = ((2 * k : Nat) : Int) := by
    rw [gb_tmul (by rw [e1, cw]; omega) (by rw [e1, cw]; omega), e1, cw]
    omega
  have m2 := gi_pl (gi_pl (gi_pl hb' c1 (by omega) (by omega)) m1 (by omega) (by omega)) e2 (by omega) (by omega)
  rw [gi_tn m2]
  refine hm_ck (fun _ _ => hm_lt (fun z ez => hm_some ⟨rfl, rfl, ?_⟩))
  rw [ez, show gb_pl 3 m + 1 + 2 * k + j = gb_pl 3 m + (1 + 2 * k + j) by omega]
  exact hR _
theorem mx_ndawn {f : gb_F} {R : Nat → Int32} (h : gb_mdawn R f) : f 1 (Int32.toNatClampNeg (f 0 29)) = R 0 := by
  obtain ⟨m, hm, hb, hR⟩ := h
  have hb' : (f 0 29).toInt = gb_pl 3 m := hb
  rw [gi_tn hb']
  have := hR 0
  rw [Nat.add_zero] at this
  exact this
theorem rs_dawn {f : gb_F} {p1 : Int32} (hM : gb_TM f) (h : gb_i0 p1 (f 1 3)) : gb_rg 3 (gb_Rs 3 f p1) := by
  have i := hl_0 hM.2 (s := 3) (by decide)
  have i2 := i.2
  have := rg_F (q := 0) hM.2 (s := 3) (m := p1.toInt.toNat) (by decide) (by have := h.1; have := h.2; omega)
  have e00 : (fun j => f 1 (992 * 0 + (gb_pl 3 p1.toInt.toNat + j))) = gb_Rs 3 f p1 := funext (fun j => by rw [show 992 * 0 + (gb_pl 3 p1.toInt.toNat + j) = gb_pl 3 p1.toInt.toNat + j by omega]; rfl)
  rw [e00] at this
  exact this
theorem m_deed {n : Nat} {f : gb_F} {w : Int64} {p1 p2 p3 : Int32} (hM : gb_TM f) : gb_hm (ms_deed n f w p1 p2 p3) (fun _ _ r => r = gb_Aln 1 4 3 f p1 p2 p3) := by
  have c0 : (0 : Int32).toInt = 0 := by decide
  have cn : (3 : Int32).toInt = 3 := by decide
  refine mx_night hM rfl (fun g => ?_) (fun f2 g hM2 hm => ?_)
  · unfold gb_Aln
    rw [if_neg g]
  · have ab : gb_Aln 1 4 3 f p1 p2 p3 = gb_lnv (gb_Rs 1 f p1) 4 3 p2.toInt p3.toInt := by
      unfold gb_Aln
      rw [if_pos g]
    rw [ab]
    have i0 : gb_iv 0 1000 (gb_Rs 1 f p1 0) := gb_iw ((rs_night hM g).2.1 rfl) (by decide)
    have i1 := i0.1
    have i2 := i0.2
    have dd : ∀ w : Int64, gb_hm (ms_deeds n f2 w) (fun f3 w3 r => f3 = f2 ∧ w3 = w ∧ r = gb_Rs 1 f p1 0) := fun w => by
      unfold ms_deeds
      exact hm_ck (fun _ _ => hm_lt (fun x ex => hm_some ⟨rfl, rfl, by rw [ex]; exact mx_nnight hm⟩))
    refine hm_if (fun c => hm_if (fun d => ?_) (fun d => hm_some ?_)) (fun c => ?_)
    · refine hm_bd (dd w) (fun f3 w3 r3 k3 => hm_some ?_)
      rw [k3.2.2]
      unfold gb_lnv
      rw [if_pos (gi_m1.mp c), if_pos (by rw [d]; exact c0)]
    · unfold gb_lnv
      rw [if_pos (gi_m1.mp c), if_neg (fun q => d (gi_eq q c0))]
    · refine hm_bd (dd w) (fun f3 w3 r3 k3 => ?_)
      obtain ⟨rfl, rfl, rfl⟩ := k3
      refine hm_bd (mh_below i0) (fun f4 w4 r4 k4 => ?_)
      obtain ⟨rfl, rfl, k4⟩ := k4
      refine hm_if (fun z => hm_some ?_) (fun z => ?_)
      · rcases k4 with q | ⟨p, q, -⟩
        · have nn := in_nk q.2
          unfold gb_lnv
          rw [if_neg (fun q => c (gi_m1.mpr q)), if_neg (fun y => nn y.1)]
        · rw [z] at q
          exact absurd q (by decide)
      · rcases k4 with q | ⟨p, q1, q2⟩
        · exact absurd q.1 z
        · have hin := in_lk q2
          have hin2 := hin.2
          refine hm_bd mh_isIn (fun f5 w5 r5 k5 => ?_)
          obtain ⟨rfl, rfl, k5⟩ := k5
          rw [c0, cn] at k5
          refine hm_if (fun z5 => hm_some ?_) (fun z5 => ?_)
          · have nn : ¬ (0 ≤ p3.toInt ∧ p3.toInt ≤ 3) := by
              rcases k5 with y | y
              · rw [z5] at y
                exact absurd y.1 (by decide)
              · omega
            unfold gb_lnv
            rw [if_neg (fun q => c (gi_m1.mpr q)), if_neg (fun y => nn y.2)]
          · have yy : 0 ≤ p3.toInt ∧ p3.toInt ≤ 3 := by
              rcases k5 with y | y
              · exact y.2
              · exact absurd y.1 z5
            have hin1 := hin.1
            refine hm_bd (mx_deedOf hm (k := p2.toInt.toNat) (j := p3.toInt.toNat) (by omega) (by omega) (by omega) (by omega)) (fun f6 w6 r6 k6 => hm_some ?_)
            rw [k6.2.2]
            unfold gb_lnv
            rw [if_neg (fun q => c (gi_m1.mpr q)), if_pos ⟨hin, yy⟩]
theorem e_deed {σ σ2 : gb_S} {f f2 : gb_F} {w w2 : Int64} {p1 p2 p3 ra qa : Int32} (_ : gb_TC σ) (hM : gb_TM f) (h : gb_R σ f) (ec : cs_Face_deed gb_N σ p1 p2 p3 = some (σ2, ra)) (em : ms_deed gb_N f w p1 p2 p3 = some (f2, w2, qa)) : ra = qa := (c_deed h hM _ _ ec).trans (m_deed hM _ _ _ em).symm
theorem m_term {n : Nat} {f : gb_F} {w : Int64} {p1 p2 p3 : Int32} (hM : gb_TM f) : gb_hm (ms_term n f w p1 p2 p3) (fun _ _ r => r = gb_Aln 2 3 2 f p1 p2 p3) := by
  have c0 : (0 : Int32).toInt = 0 := by decide
  have cn : (2 : Int32).toInt = 2 := by decide
  refine mx_law hM rfl (fun g => ?_) (fun f2 g hM2 hm => ?_)
  · unfold gb_Aln
    rw [if_neg g]
  · have ab : gb_Aln 2 3 2 f p1 p2 p3 = gb_lnv (gb_Rs 2 f p1) 3 2 p2.toInt p3.toInt := by
      unfold gb_Aln
      rw [if_pos g]
    rw [ab]
    have i0 : gb_iv 0 1000 (gb_Rs 2 f p1 0) := gb_iw ((rs_law hM g).2.2.1 rfl) (by decide)
    have i1 := i0.1
    have i2 := i0.2
    refine hm_if (fun c => hm_if (fun d => ?_) (fun d => hm_some ?_)) (fun c => ?_)
    · refine hm_ck (fun _ _ => hm_lt (fun x ex => hm_some ?_))
      rw [ex, mx_nlaw hm]
      unfold gb_lnv
      rw [if_pos (gi_m1.mp c), if_pos (by rw [d]; exact c0)]
    · unfold gb_lnv
      rw [if_pos (gi_m1.mp c), if_neg (fun q => d (gi_eq q c0))]
    · refine hm_ck (fun _ _ => hm_lt (fun x ex => ?_))
      rw [mx_nlaw hm] at ex
      subst ex
      refine hm_bd (mh_below i0) (fun f4 w4 r4 k4 => ?_)
      obtain ⟨rfl, rfl, k4⟩ := k4
      refine hm_if (fun z => hm_some ?_) (fun z => ?_)
      · rcases k4 with q | ⟨p, q, -⟩
        · have nn := in_nk q.2
          unfold gb_lnv
          rw [if_neg (fun q => c (gi_m1.mpr q)), if_neg (fun y => nn y.1)]
        · rw [z] at q
          exact absurd q (by decide)
      · rcases k4 with q | ⟨p, q1, q2⟩
        · exact absurd q.1 z
        · have hin := in_lk q2
          have hin2 := hin.2
          refine hm_bd mh_isIn (fun f5 w5 r5 k5 => ?_)
          obtain ⟨rfl, rfl, k5⟩ := k5
          rw [c0, cn] at k5
          refine hm_if (fun z5 => hm_some ?_) (fun z5 => ?_)
          · have nn : ¬ (0 ≤ p3.toInt ∧ p3.toInt ≤ 2) := by
              rcases k5 with y | y
              · rw [z5] at y
                exact absurd y.1 (by decide)
              · omega
            unfold gb_lnv
            rw [if_neg (fun q => c (gi_m1.mpr q)), if_neg (fun y => nn y.2)]
          · have yy : 0 ≤ p3.toInt ∧ p3.toInt ≤ 2 := by
              rcases k5 with y | y
              · exact y.2
              · exact absurd y.1 z5
            have hin1 := hin.1
            refine hm_bd (mx_termOf hm (k := p2.toInt.toNat) (j := p3.toInt.toNat) (by omega) (by omega) (by omega) (by omega)) (fun f6 w6 r6 k6 => hm_some ?_)
            rw [k6.2.2]
            unfold gb_lnv
            rw [if_neg (fun q => c (gi_m1.mpr q)), if_pos ⟨hin, yy⟩]
theorem e_term {σ σ2 : gb_S} {f f2 : gb_F} {w w2 : Int64} {p1 p2 p3 ra qa : Int32} (_ : gb_TC σ) (hM : gb_TM f) (h : gb_R σ f) (ec : cs_Face_term gb_N σ p1 p2 p3 = some (σ2, ra)) (em : ms_term gb_N f w p1 p2 p3 = some (f2, w2, qa)) : ra = qa := (c_term h hM _ _ ec).trans (m_term hM _ _ _ em).symm
def gb_Aseen (f : gb_F) (p1 p2 p3 : Int32) : Int32 := if gb_i0 p1 (f 1 3) then gb_lnv (gb_Rs 3 f p1) 2 1 p2.toInt p3.toInt else -2
theorem c_lineOfD {n : Nat} {σ : gb_S} {k0 : Nat} {p2 p3 : Int32} (hi : gb_iv 0 24 (σ.1 (k0 + 1) 0)) : gb_hc (cs_Face_lineOf_D n σ k0 p2 p3) (fun s r => s = σ ∧ r = gb_lnv (σ.1 (k0 + 1)) 3 2 p2.toInt p3.toInt) := by
  unfold cs_Face_lineOf_D
  have c0 : (0 : Int32).toInt = 0 := by decide
  have cn : (2 : Int32).toInt = 2 := by decide
  have i1 := hi.1
  have i2 := hi.2
  refine hc_kk (fun _ => hc_if (fun c => hc_if (fun d => ?_) (fun d => hc_some ⟨rfl, ?_⟩)) (fun c => hc_if (fun d => hc_some ⟨rfl, ?_⟩) (fun d => ?_)))
  · refine hc_cd ch_sizeD (fun s r h => hc_some ⟨h.1, ?_⟩)
    rw [h.2]
    unfold gb_lnv
    rw [if_pos (gi_m1.mp c), if_pos (by rw [d]; exact c0)]
  · unfold gb_lnv
    rw [if_pos (gi_m1.mp c), if_neg (fun q => d (gi_eq q c0))]
  · have := gi_lt d
    unfold gb_lnv
    rw [if_neg (fun q => c (gi_m1.mpr q)), if_neg (by omega)]
  · have d1 := gi_nlt d
    refine hc_cd ch_sizeD (fun s r h => ?_)
    obtain ⟨rfl, rfl⟩ := h
    refine hc_if (fun g => hc_some ⟨rfl, ?_⟩) (fun g => hc_if (fun g2 => hc_some ⟨rfl, ?_⟩) (fun g2 => hc_if (fun g3 => ?_) (fun g3 => hc_some ⟨rfl, ?_⟩)))
    · have := gi_le g
      unfold gb_lnv
      rw [if_neg (fun q => c (gi_m1.mpr q)), if_neg (by omega)]
    · have := gi_lt g2
      unfold gb_lnv
      rw [if_neg (fun q => c (gi_m1.mpr q)), if_neg (by omega)]
    · have g1 := gi_nle g
      have g21 := gi_nlt g2
      have g31 := gi_le g3
      refine hc_cd (ch_cellD (k := p2.toInt.toNat) (j := p3.toInt.toNat) (by omega) (by omega) (by omega) (by omega)) (fun s2 r2 h2 => hc_some ⟨h2.1, ?_⟩)
      rw [h2.2]
      unfold gb_lnv
      rw [if_neg (fun q => c (gi_m1.mpr q)), if_pos ⟨⟨by omega, by omega⟩, by omega, by omega⟩]
    · have := gi_nle g3
      unfold gb_lnv
      rw [if_neg (fun q => c (gi_m1.mpr q)), if_neg (by omega)]
theorem c_seen {n : Nat} {σ : gb_S} {f : gb_F} {p1 p2 p3 : Int32} (h : gb_R σ f) (hM : gb_TM f) : gb_hc (cs_Face_seen n σ p1 p2 p3) (fun _ r => r = gb_Aseen f p1 p2 p3) := by
  unfold cs_Face_seen
  have c0 : (0 : Int32).toInt = 0 := by decide
  have c1 : (1 : Int32).toInt = 1 := by decide
  refine hc_cd (cx_dawn h hM) (fun s r g => ?_)
  obtain ⟨rfl, g⟩ := g
  rcases g with ⟨g1, g2⟩ | ⟨g1, g2, g3, g4⟩
  · rw [if_pos g1]
    refine hc_some ?_
    unfold gb_Aseen
    rw [if_neg g2]
  · rw [if_neg g1]
    have ab : gb_Aseen f p1 p2 p3 = gb_lnv (gb_Rs 3 f p1) 2 1 p2.toInt p3.toInt := by
      unfold gb_Aseen
      rw [if_pos g2]
    rw [ab]
    have i0 : gb_iv 0 5 (gb_Rs 3 f p1 0) := g4.2.2.2 rfl
    have i1 := i0.1
    have i2 := i0.2
    have iG : gb_iv 0 24 (s.1 (r + 1) 0) := by
      rw [g3.1]
      exact gb_iw i0 (by decide)
    refine hc_kk (fun _ => hc_if (fun c => hc_some ?_) (fun c => hc_if (fun d => hc_if (fun e => ?_) (fun e => ?_)) (fun d => hc_some ?_)))
    · have := gi_lt c
      unfold gb_lnv
      by_cases q : p2.toInt = -1
      · rw [if_pos q, if_neg (by omega)]
      · rw [if_neg q, if_neg (by omega)]
    · refine hc_cd (c_lineOfD iG) (fun s2 r2 k => hc_some ?_)
      rw [k.2]
      unfold gb_lnv
      rw [if_pos (gi_m1.mp e), if_pos (gi_m1.mp e), g3.1]
    · have a1 := gi_nlt c
      have a2 := gi_le d
      have p31 : (p3 + 1).toInt = p3.toInt + 1 := by rw [gb_tadd (by omega) (by omega), c1]
      refine hc_cd (c_lineOfD iG) (fun s2 r2 k => hc_some ?_)
      rw [k.2]
      have ne : ¬ p2.toInt = -1 := fun q => e (gi_m1.mpr q)
      unfold gb_lnv
      rw [if_neg ne, if_neg ne, g3.1]
      by_cases q : 0 ≤ p2.toInt ∧ p2.toInt < (gb_Rs 3 f p1 0).toInt
      · rw [if_pos ⟨q, by omega, by omega⟩, if_pos ⟨q, by omega, by omega⟩, p31]
        have rs := g3.2.2.2 rfl p2.toInt.toNat (by omega)
        have p3c : p3.toInt = 0 ∨ p3.toInt = 1 := by omega
        rcases p3c with z | z
        · rw [z, show 1 + 3 * p2.toInt.toNat + ((0 : Int) + 1).toNat = 2 + 3 * p2.toInt.toNat by omega, rs.1, show 1 + 2 * p2.toInt.toNat + (0 : Int).toNat = 1 + 2 * p2.toInt.toNat by omega]
        · rw [z, show 1 + 3 * p2.toInt.toNat + ((1 : Int) + 1).toNat = 3 + 3 * p2.toInt.toNat by omega, rs.2, show 1 + 2 * p2.toInt.toNat + (1 : Int).toNat = 2 + 2 * p2.toInt.toNat by omega]
      · rw [if_neg (fun z => q z.1), if_neg (fun z => q z.1)]
    · have := gi_nle d
      unfold gb_lnv
      by_cases q : p2.toInt = -1
      · rw [if_pos q, if_neg (by omega)]
      · rw [if_neg q, if_neg (by omega)]
theorem m_seen {n : Nat} {f : gb_F} {w : Int64} {p1 p2 p3 : Int32} (hM : gb_TM f) : gb_hm (ms_seen n f w p1 p2 p3) (fun _ _ r => r = gb_Aseen f p1 p2 p3) := by
  have c0 : (0 : Int32).toInt = 0 := by decide
  have cn : (1 : Int32).toInt = 1 := by decide
  refine mx_dawn hM rfl (fun g => ?_) (fun f2 g hM2 hm => ?_)
  · unfold gb_Aseen
    rw [if_neg g]
  · have ab : gb_Aseen f p1 p2 p3 = gb_lnv (gb_Rs 3 f p1) 2 1 p2.toInt p3.toInt := by
      unfold gb_Aseen
      rw [if_pos g]
    rw [ab]
    have i0 : gb_iv 0 1000 (gb_Rs 3 f p1 0) := gb_iw ((rs_dawn hM g).2.2.2 rfl) (by decide)
    have i1 := i0.1
    have i2 := i0.2
    refine hm_if (fun c => hm_if (fun d => ?_) (fun d => hm_some ?_)) (fun c => ?_)
    · refine hm_ck (fun _ _ => hm_lt (fun x ex => hm_some ?_))
      rw [ex, mx_ndawn hm]
      unfold gb_lnv
      rw [if_pos (gi_m1.mp c), if_pos (by rw [d]; exact c0)]
    · unfold gb_lnv
      rw [if_pos (gi_m1.mp c), if_neg (fun q => d (gi_eq q c0))]
    · refine hm_ck (fun _ _ => hm_lt (fun x ex => ?_))
      rw [mx_ndawn hm] at ex
      subst ex
      refine hm_bd (mh_below i0) (fun f4 w4 r4 k4 => ?_)
      obtain ⟨rfl, rfl, k4⟩ := k4
      refine hm_if (fun z => hm_some ?_) (fun z => ?_)
      · rcases k4 with q | ⟨p, q, -⟩
        · have nn := in_nk q.2
          unfold gb_lnv
          rw [if_neg (fun q => c (gi_m1.mpr q)), if_neg (fun y => nn y.1)]
        · rw [z] at q
          exact absurd q (by decide)
      · rcases k4 with q | ⟨p, q1, q2⟩
        · exact absurd q.1 z
        · have hin := in_lk q2
          have hin2 := hin.2
          refine hm_bd mh_isIn (fun f5 w5 r5 k5 => ?_)
          obtain ⟨rfl, rfl, k5⟩ := k5
          rw [c0, cn] at k5
          refine hm_if (fun z5 => hm_some ?_) (fun z5 => ?_)
          · have nn : ¬ (0 ≤ p3.toInt ∧ p3.toInt ≤ 1) := by
              rcases k5 with y | y
              · rw [z5] at y
                exact absurd y.1 (by decide)
              · omega
            unfold gb_lnv
            rw [if_neg (fun q => c (gi_m1.mpr q)), if_neg (fun y => nn y.2)]
          · have yy : 0 ≤ p3.toInt ∧ p3.toInt ≤ 1 := by
              rcases k5 with y | y
              · exact y.2
              · exact absurd y.1 z5
            have hin1 := hin.1
            refine hm_bd (mx_seenOf hm (k := p2.toInt.toNat) (j := p3.toInt.toNat) (by omega) (by omega) (by omega) (by omega)) (fun f6 w6 r6 k6 => hm_some ?_)
            rw [k6.2.2]
            unfold gb_lnv
            rw [if_neg (fun q => c (gi_m1.mpr q)), if_pos ⟨hin, yy⟩]
theorem e_seen {σ σ2 : gb_S} {f f2 : gb_F} {w w2 : Int64} {p1 p2 p3 ra qa : Int32} (_ : gb_TC σ) (hM : gb_TM f) (h : gb_R σ f) (ec : cs_Face_seen gb_N σ p1 p2 p3 = some (σ2, ra)) (em : ms_seen gb_N f w p1 p2 p3 = some (f2, w2, qa)) : ra = qa := (c_seen h hM _ _ ec).trans (m_seen hM _ _ _ em).symm
