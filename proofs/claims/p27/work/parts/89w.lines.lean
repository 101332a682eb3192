/-! border, deed, term, seen: both sides -/
theorem gi_dv {p : Int32} (h : 0 ≤ p.toInt) : (p / 10).toInt = p.toInt / 10 ∧ (p - p / 10 * 10).toInt = p.toInt % 10 := by
  have c10 : (10 : Int32).toInt = 10 := by decide
  have ip := gb_it p
  have i : gb_iv 0 2147483647 p := ⟨h, ip.2⟩
  have d := gb_tdiv i (gb_ic c10) (by decide)
  rw [c10, Int.tdiv_eq_ediv_of_nonneg h] at d
  have i2 := ip.2
  have m1 : (p / 10 * 10).toInt = p.toInt / 10 * 10 := by
    rw [gb_tmul (by rw [d, c10]; omega) (by rw [d, c10]; omega), d, c10]
  refine ⟨d, ?_⟩
  rw [gb_tsub (by rw [m1]; omega) (by rw [m1]; omega), m1]
  omega
theorem gi_m1 {p : Int32} : p = -1 ↔ p.toInt = -1 := ⟨fun h => by rw [h]; decide, fun h => gi_eq h (by decide)⟩
def gb_bn (R : Nat → Int32) (x : Int) : Int32 := if 0 ≤ x ∧ x ≤ 2 then R x.toNat else if 10 ≤ x ∧ x ≤ 39 then (if x % 10 < (R 0).toInt then R (3 + 3 * (x % 10).toNat + (x / 10 - 1).toNat) else -2) else if 40 ≤ x ∧ x ≤ 89 then (if x % 10 < (R 1).toInt then R (18 + 5 * (x % 10).toNat + (x / 10 - 4).toNat) else -2) else -2
def gb_Abord (f : gb_F) (p1 p2 : Int32) : Int32 := if gb_i0 p1 (f 1 0) then gb_bn (gb_Rs 0 f p1) p2.toInt else -2
theorem c_told {n : Nat} {σ : gb_S} {k0 : Nat} {R : Nat → Int32} {x : Int32} (hb : gb_cbx k0 R σ) (hR : gb_rB R) (hx : ¬ (0 ≤ x.toInt ∧ x.toInt ≤ 2)) : gb_hc (cs_Border_numberTold_B n σ k0 x) (fun s r => s = σ ∧ r = gb_bn R x.toInt) := by
  unfold cs_Border_numberTold_B
  have c1 : (1 : Int32).toInt = 1 := by decide
  have c3 : (3 : Int32).toInt = 3 := by decide
  have c5 : (5 : Int32).toInt = 5 := by decide
  have c10 : (10 : Int32).toInt = 10 := by decide
  have c18 : (18 : Int32).toInt = 18 := by decide
  have c89 : (89 : Int32).toInt = 89 := by decide
  have h5 := (rB_nP hR).2
  have h8 := (rB_nG hR).2
  have nE := (rB_nP hR).1
  have gE := (rB_nG hR).1
  refine hc_kk (fun _ => hc_if (fun c => hc_some ⟨rfl, ?_⟩) (fun c => hc_if (fun d => ?_) (fun d => hc_some ⟨rfl, ?_⟩)))
  · have := gi_lt c
    unfold gb_bn
    rw [if_neg hx, if_neg (by omega), if_neg (by omega)]
  · have x1 := gi_nlt c
    have x2 := gi_le d
    obtain ⟨d1, d2⟩ := gi_dv (p := x) (by omega)
    refine hc_lt (fun t et => hc_lt (fun u eu => ?_))
    rw [← et] at d1
    rw [← eu] at d2
    refine hc_if (fun g => hc_lt (fun v ev => ?_)) (fun g => ?_)
    · have g1 := gi_lt g
      have v1 : (t - 1).toInt = t.toInt - 1 := by rw [gb_tsub (by omega) (by omega), c1]
      have v2 : v.toInt = (((x.toInt / 10 - 4).toNat : Nat) : Int) := by
        rw [ev, gb_tsub (by omega) (by omega), v1, c3]
        omega
      refine hc_cd (cbx_hasG hb) (fun s r h => ?_)
      obtain ⟨rfl, h⟩ := h
      refine hc_if (fun z => hc_some ⟨rfl, ?_⟩) (fun z => ?_)
      · have nn := yn_0 h z
        unfold gb_bn
        rw [if_neg hx, if_neg (by omega), if_pos (by omega), if_neg (fun q => nn ⟨by omega, by omega⟩)]
      · obtain ⟨y1, y2, y3⟩ := yn_1 h z
        rw [gi_tn (gi_pl (gi_18 y2 (by omega)) v2 (by omega) (by omega))]
        refine hc_ck (fun _ _ => hc_lt (fun q eq => hc_some ⟨rfl, ?_⟩))
        rw [eq, (hb.2.1 rfl).2.2.2 u.toInt.toNat (x.toInt / 10 - 4).toNat y3 (by omega)]
        unfold gb_bn
        have := y1.2
        rw [if_neg hx, if_neg (by omega), if_pos (by omega), if_pos (by omega), d2]
    · have g1 := gi_nlt g
      refine hc_cd (cbx_has hb) (fun s r h => ?_)
      obtain ⟨rfl, h⟩ := h
      refine hc_if (fun z => hc_some ⟨rfl, ?_⟩) (fun z => ?_)
      · have nn := yn_0 h z
        unfold gb_bn
        rw [if_neg hx, if_pos (by omega), if_neg (fun q => nn ⟨by omega, by omega⟩)]
      · obtain ⟨y1, y2, y3⟩ := yn_1 h z
        have w1 : ((3 : Int32) + (u * 3) + t).toInt = ((3 + 3 * u.toInt.toNat + (x.toInt / 10).toNat : Nat) : Int) := gi_pl (gi_3p y2 (by omega)) (by omega) (by omega) (by omega)
        have w2 : ((3 : Int32) + (u * 3) + t - 1).toInt = ((3 + 3 * u.toInt.toNat + (x.toInt / 10 - 1).toNat : Nat) : Int) := by
          rw [gb_tsub (by omega) (by omega), w1, c1]
          omega
        rw [gi_tn w2]
        refine hc_ck (fun _ _ => hc_lt (fun q eq => hc_some ⟨rfl, ?_⟩))
        rw [eq, (hb.2.1 rfl).2.2.1 u.toInt.toNat (x.toInt / 10 - 1).toNat y3 (by omega)]
        unfold gb_bn
        have := y1.2
        rw [if_neg hx, if_pos (by omega), if_pos (by omega), d2]
  · have := gi_nle d
    unfold gb_bn
    rw [if_neg hx, if_neg (by omega), if_neg (by omega)]
theorem c_border {n : Nat} {σ : gb_S} {f : gb_F} {p1 p2 : Int32} (h : gb_R σ f) (hM : gb_TM f) : gb_hc (cs_Face_border n σ p1 p2) (fun _ r => r = gb_Abord f p1 p2) := by
  unfold cs_Face_border
  refine hc_cd (cx_border h hM) (fun s r g => ?_)
  obtain ⟨rfl, g⟩ := g
  rcases g with ⟨g1, g2⟩ | ⟨g1, g2, g3, g4⟩
  · rw [if_pos g1]
    refine hc_some ?_
    unfold gb_Abord
    rw [if_neg g2]
  · rw [if_neg g1]
    have sm : ∀ (v : Int32) (k : Nat), v.toInt = k → k ≤ 2 → p2 = v → gb_Abord f p1 p2 = gb_Rs 0 f p1 k := fun v k ek hk e => by
      unfold gb_Abord gb_bn
      rw [e, ek, if_pos g2, if_pos (by omega), Int.toNat_natCast]
    refine hc_kk (fun _ => hc_if (fun c => ?_) (fun c0 => hc_if (fun c => ?_) (fun c1 => hc_if (fun c => ?_) (fun c2 => ?_))))
    · refine hc_cd ch_paths (fun s2 r2 k => hc_some ?_)
      rw [k.2, sm 0 0 (by decide) (by decide) c]
      exact g3.1
    · refine hc_cd ch_geese (fun s2 r2 k => hc_some ?_)
      rw [k.2, sm 1 1 (by decide) (by decide) c]
      exact (g3.2.1 rfl).1
    · refine hc_cd ch_cap (fun s2 r2 k => hc_some ?_)
      rw [k.2, sm 2 2 (by decide) (by decide) c]
      exact (g3.2.1 rfl).2.1
    · have hx : ¬ (0 ≤ p2.toInt ∧ p2.toInt ≤ 2) := fun z => by
        have a0 : p2.toInt ≠ 0 := fun q => c0 (gi_eq q (by decide))
        have a1 : p2.toInt ≠ 1 := fun q => c1 (gi_eq q (by decide))
        have a2 : p2.toInt ≠ 2 := fun q => c2 (gi_eq q (by decide))
        omega
      refine hc_cd (c_told g3 g4 hx) (fun s2 r2 k => hc_some ?_)
      rw [k.2]
      unfold gb_Abord
      rw [if_pos g2]
theorem m_border {n : Nat} {f : gb_F} {w : Int64} {p1 p2 : Int32} (hM : gb_TM f) : gb_hm (ms_border n f w p1 p2) (fun _ _ r => r = gb_Abord f p1 p2) := by
  unfold ms_border
  have c0 : (0 : Int32).toInt = 0 := by decide
  have c1 : (1 : Int32).toInt = 1 := by decide
  have c2 : (2 : Int32).toInt = 2 := by decide
  have c4 : (4 : Int32).toInt = 4 := by decide
  have c10 : (10 : Int32).toInt = 10 := by decide
  have c39 : (39 : Int32).toInt = 39 := by decide
  have c40 : (40 : Int32).toInt = 40 := by decide
  have c89 : (89 : Int32).toInt = 89 := by decide
  refine hm_bd (mx_isBorder hM) (fun f1 w1 r g => ?_)
  obtain ⟨-, -, hM1, g⟩ := g
  refine hm_if (fun c => hm_some ?_) (fun c => ?_)
  · unfold gb_Abord
    rw [if_neg (yn_0 g c)]
  · obtain ⟨g2, m, g3⟩ := yn_1 g c
    have g4 := mbx_rB g3
    have h5 := (rB_nP g4).2
    have h8 := (rB_nG g4).2
    have ab : gb_Abord f p1 p2 = gb_bn (gb_Rs 0 f p1) p2.toInt := by
      unfold gb_Abord
      rw [if_pos g2]
    rw [ab]
    refine hm_bd mh_isIn (fun f2 w2 r2 k => ?_)
    obtain ⟨rfl, rfl, k⟩ := k
    rw [c0, c2] at k
    refine hm_if (fun z => ?_) (fun z => ?_)
    · have hx : ¬ (0 ≤ p2.toInt ∧ p2.toInt ≤ 2) := by
        rcases k with q | q
        · rw [z] at q
          exact absurd q.1 (by decide)
        · omega
      refine hm_lt (fun u eu => hm_bd mh_isIn (fun f3 w3 r3 k3 => ?_))
      obtain ⟨rfl, rfl, k3⟩ := k3
      rw [c10, c39] at k3
      refine hm_if (fun z3 => ?_) (fun z3 => ?_)
      · have n3 : ¬ (10 ≤ p2.toInt ∧ p2.toInt ≤ 39) := by
          rcases k3 with q | q
          · rw [z3] at q
            exact absurd q.1 (by decide)
          · omega
        refine hm_bd mh_isIn (fun f4 w4 r4 k4 => ?_)
        obtain ⟨rfl, rfl, k4⟩ := k4
        rw [c40, c89] at k4
        refine hm_if (fun z4 => hm_some ?_) (fun z4 => ?_)
        · have n4 : ¬ (40 ≤ p2.toInt ∧ p2.toInt ≤ 89) := by
            rcases k4 with q | q
            · rw [z4] at q
              exact absurd q.1 (by decide)
            · omega
          unfold gb_bn
          rw [if_neg hx, if_neg n3, if_neg n4]
        · have y4 : 40 ≤ p2.toInt ∧ p2.toInt ≤ 89 := by
            rcases k4 with q | q
            · exact q.2
            · exact absurd q.1 z4
          obtain ⟨d1, d2⟩ := gi_dv (p := p2) (by omega)
          rw [← eu] at d2
          refine hm_bd (mbx_hasG g3) (fun f5 w5 r5 k5 => ?_)
          obtain ⟨rfl, rfl, k5⟩ := k5
          refine hm_if (fun z5 => hm_some ?_) (fun z5 => hm_lt (fun t et => ?_))
          · have nn := yn_0 k5 z5
            unfold gb_bn
            rw [if_neg hx, if_neg n3, if_pos y4, if_neg (fun q => nn ⟨by omega, by omega⟩)]
          · obtain ⟨y1, y2, y3⟩ := yn_1 k5 z5
            rw [← et] at d1
            have v1 : (t - 4).toInt = (((p2.toInt / 10 - 4).toNat : Nat) : Int) := by
              rw [gb_tsub (by omega) (by omega), d1, c4]
              omega
            refine hm_bd (mx_ofGoose g3 y2 (by omega) v1 (by omega)) (fun f6 w6 r6 k6 => hm_some ?_)
            rw [k6.2.2]
            unfold gb_bn
            have := y1.2
            rw [if_neg hx, if_neg n3, if_pos y4, if_pos (by omega), d2]
      · have y3' : 10 ≤ p2.toInt ∧ p2.toInt ≤ 39 := by
          rcases k3 with q | q
          · exact q.2
          · exact absurd q.1 z3
        obtain ⟨d1, d2⟩ := gi_dv (p := p2) (by omega)
        rw [← eu] at d2
        refine hm_bd (mbx_has g3) (fun f5 w5 r5 k5 => ?_)
        obtain ⟨rfl, rfl, k5⟩ := k5
        refine hm_if (fun z5 => hm_some ?_) (fun z5 => hm_lt (fun t et => ?_))
        · have nn := yn_0 k5 z5
          unfold gb_bn
          rw [if_neg hx, if_pos y3', if_neg (fun q => nn ⟨by omega, by omega⟩)]
        · obtain ⟨y1, y2, y3⟩ := yn_1 k5 z5
          rw [← et] at d1
          have v1 : (t - 1).toInt = (((p2.toInt / 10 - 1).toNat : Nat) : Int) := by
            rw [gb_tsub (by omega) (by omega), d1, c1]
            omega
          refine hm_bd (mx_ofPath g3 y2 (by omega) v1 (by omega)) (fun f6 w6 r6 k6 => hm_some ?_)
          rw [k6.2.2]
          unfold gb_bn
          have := y1.2
          rw [if_neg hx, if_pos y3', if_pos (by omega), d2]
    · have hx : 0 ≤ p2.toInt ∧ p2.toInt ≤ 2 := by
        rcases k with q | q
        · exact q.2
        · exact absurd q.1 z
      refine hm_bd (mx_of g3 (j := p2.toInt.toNat) (by omega) (by omega)) (fun f3 w3 r3 k3 => hm_some ?_)
      rw [k3.2.2]
      unfold gb_bn
      rw [if_pos hx]
theorem e_border {σ σ2 : gb_S} {f f2 : gb_F} {w w2 : Int64} {p1 p2 ra qa : Int32} (_ : gb_TC σ) (hM : gb_TM f) (h : gb_R σ f) (ec : cs_Face_border gb_N σ p1 p2 = some (σ2, ra)) (em : ms_border gb_N f w p1 p2 = some (f2, w2, qa)) : ra = qa := (c_border h hM _ _ ec).trans (m_border hM _ _ _ em).symm
/-! lines: deed, term, seen -/
def gb_lnv (R : Nat → Int32) (wd : Nat) (mx k what : Int) : Int32 := if k = -1 then (if what = 0 then R 0 else -2) else if (0 ≤ k ∧ k < (R 0).toInt) ∧ (0 ≤ what ∧ what ≤ mx) then R (1 + wd * k.toNat + what.toNat) else -2
def gb_Aln (s wd : Nat) (mx : Int) (f : gb_F) (p1 p2 p3 : Int32) : Int32 := if gb_i0 p1 (f 1 s) then gb_lnv (gb_Rs s f p1) wd mx p2.toInt p3.toInt else -2
theorem ch_cellN {n : Nat} {σ : gb_S} {k0 : Nat} {p1 p2 : Int32} {k j : Nat} (e1 : p1.toInt = k) (hk : k ≤ 1000) (e2 : p2.toInt = j) (hj : j ≤ 10) : gb_hc (cs_Lines_cell_N n σ k0 p1 p2) (fun s r => s = σ ∧ r = σ.1 (k0 + 1) (1 + 4 * k + j)) := by
  unfold cs_Lines_cell_N
  have c1 : (1 : Int32).toInt = 1 := by decide
  have c3 : ((3 : Int32) + 1).toInt = 4 := by decide
  have m1 : (p1 * ((3 : Int32) + 1)).toInt = ((4 * k : Nat) : Int) := by
    rw [gb_tmul (by rw [e1, c3]; omega) (by rw [e1, c3]; omega), e1, c3]
    omega
  have m2 : ((1 : Int32) + p1 * ((3 : Int32) + 1)).toInt = ((1 + 4 * k : Nat) : Int) := by
    rw [gb_tadd (by rw [m1, c1]; omega) (by rw [m1, c1]; omega), m1, c1]
    omega
  have m3 : (((1 : Int32) + p1 * ((3 : Int32) + 1)) + p2).toInt = ((1 + 4 * k + j : Nat) : Int) := by
    rw [gb_tadd (by rw [m2, e2]; omega) (by rw [m2, e2]; omega), m2, e2]
    omega
  rw [gi_tn m3]
  exact hc_kk (fun _ => hc_ck (fun _ _ => hc_lt (fun x ex => hc_some ⟨rfl, ex⟩)))
theorem ch_sizeN {n : Nat} {σ : gb_S} {k0 : Nat} : gb_hc (cs_Lines_size_N n σ k0) (fun s r => s = σ ∧ r = σ.1 (k0 + 1) 0) := by
  unfold cs_Lines_size_N
  exact hc_kk (fun _ => hc_lt (fun x ex => hc_some ⟨rfl, ex⟩))
theorem cx_night {n : Nat} {σ : gb_S} {f : gb_F} {p1 : Int32} (h : gb_R σ f) (hM : gb_TM f) : gb_hc (cs_Face_nightAt n σ p1) (fun s r => s = σ ∧ ((r = 0 ∧ ¬ gb_i0 p1 (f 1 1)) ∨ (r ≠ 0 ∧ gb_i0 p1 (f 1 1) ∧ gb_RS 1 (σ.1 (r + 1)) (gb_Rs 1 f p1) ∧ gb_rg 1 (gb_Rs 1 f p1)))) := by
  refine hc_mono ch_nightAt (fun s r g => ⟨g.1, ?_⟩)
  have hh := R_held h (s := 1) (by decide)
  rw [hh] at g
  rcases g.2 with z | ⟨m, z1, z2, z3, z4⟩
  · exact Or.inl ⟨z.1, in_Nk z.2⟩
  · refine Or.inr ⟨z4, in_Lk z1, ?_, ?_⟩
    · rw [Rs_E z1, z3]
      exact R_sheet h (by decide) z1
    · rw [Rs_E z1]
      have := rg_F (q := 0) hM.2 (s := 1) (m := m) (by decide) (by omega)
      have e00 : (fun j => f 1 (992 * 0 + (gb_pl 1 m + j))) = (fun j => f 1 (gb_pl 1 m + j)) := funext (fun j => by rw [show 992 * 0 + (gb_pl 1 m + j) = gb_pl 1 m + j by omega])
      rw [e00] at this
      exact this
/-- the reference's place of such a sheet -/
def gb_mnight (R : Nat → Int32) (f : gb_F) : Prop := ∃ m : Nat, m < 2 ∧ gb_mb 12 1 m f ∧ ∀ j, f 1 (gb_pl 1 m + j) = R j
theorem mx_night {n : Nat} {f : gb_F} {w : Int64} {p1 : Int32} {Q : gb_F → Int64 → Int32 → Prop} {x : gb_MR Int32} {k : gb_F → Int64 → gb_MR Int32} (hM : gb_TM f) (ex : x = gb_bd (ms_isOf n f w 1 p1) (fun f_1 wl_2 r_3 => (if r_3 = 0 then some (f_1, wl_2, (-2)) else gb_bd (ms_placeOf n f_1 wl_2 1 p1) (fun f_7 wl_8 r_9 => gb_lt (gb_u f_7 0 (upd (f_7 0) 12 r_9)) (fun f_12 => k f_12 wl_8))))) (h1 : ¬ gb_i0 p1 (f 1 1) → Q f w (-2)) (h2 : ∀ f2 : gb_F, gb_i0 p1 (f 1 1) → gb_TM f2 → gb_mnight (gb_Rs 1 f p1) f2 → gb_hm (k f2 w) Q) : gb_hm x Q := by
  rw [ex]
  refine hm_bd (mh_isOf hM (s := 1) (by decide) (by decide)) (fun g u r hg => ?_)
  obtain ⟨rfl, rfl, hg⟩ := hg
  refine hm_if (fun c => hm_some ?_) (fun c => ?_)
  · rcases hg with z | ⟨m, z, -⟩
    · exact h1 (in_Nk z.2)
    · rw [c] at z
      exact absurd z (by decide)
  · rcases hg with z | ⟨m, z1, z2, z3⟩
    · exact absurd z.1 c
    · refine hm_bd (hm_and (hm_of (mt_placeOfE (s := 1) (by decide) (by decide) z2.1 (by omega))) (hm_of (mt_placeOf1 (p2 := p1) ⟨by have := z2.1; omega, by have := z2.1; omega⟩))) (fun g2 u2 r2 hh => hm_lt (fun y ey => ?_))
      obtain ⟨⟨e1, e2, e3⟩, -, -, e4⟩ := hh
      subst e1
      subst e2
      refine h2 y (in_Lk z2) (by rw [ey]; exact gb_TM12 hM (Or.inr e4)) ⟨m, z3, ?_, fun j => ?_⟩
      · unfold gb_mb
        rw [ey, gb_us, pk_us]
        exact e3
      · rw [ey, gb_un (by decide), Rs_E z2]
theorem ch_cellL {n : Nat} {σ : gb_S} {k0 : Nat} {p1 p2 : Int32} {k j : Nat} (e1 : p1.toInt = k) (hk : k ≤ 1000) (e2 : p2.toInt = j) (hj : j ≤ 10) : gb_hc (cs_Lines_cell_L n σ k0 p1 p2) (fun s r => s = σ ∧ r = σ.1 (k0 + 1) (1 + 3 * k + j)) := by
  unfold cs_Lines_cell_L
  have c1 : (1 : Int32).toInt = 1 := by decide
  have c3 : ((2 : Int32) + 1).toInt = 3 := by decide
  have m1 : (p1 * ((2 : Int32) + 1)).toInt = ((3 * k : Nat) : Int) := by
    rw [gb_tmul (by rw [e1, c3]; omega) (by rw [e1, c3]; omega), e1, c3]
    omega
  have m2 : ((1 : Int32) + p1 * ((2 : Int32) + 1)).toInt = ((1 + 3 * k : Nat) : Int) := by
    rw [gb_tadd (by rw [m1, c1]; omega) (by rw [m1, c1]; omega), m1, c1]
    omega
  have m3 : (((1 : Int32) + p1 * ((2 : Int32) + 1)) + p2).toInt = ((1 + 3 * k + j : Nat) : Int) := by
    rw [gb_tadd (by rw [m2, e2]; omega) (by rw [m2, e2]; omega), m2, e2]
    omega
  rw [gi_tn m3]
  exact hc_kk (fun _ => hc_ck (fun _ _ => hc_lt (fun x ex => hc_some ⟨rfl, ex⟩)))
theorem ch_sizeL {n : Nat} {σ : gb_S} {k0 : Nat} : gb_hc (cs_Lines_size_L n σ k0) (fun s r => s = σ ∧ r = σ.1 (k0 + 1) 0) := by
  unfold cs_Lines_size_L
  exact hc_kk (fun _ => hc_lt (fun x ex => hc_some ⟨rfl, ex⟩))
theorem cx_law {n : Nat} {σ : gb_S} {f : gb_F} {p1 : Int32} (h : gb_R σ f) (hM : gb_TM f) : gb_hc (cs_Face_lawAt n σ p1) (fun s r => s = σ ∧ ((r = 0 ∧ ¬ gb_i0 p1 (f 1 2)) ∨ (r ≠ 0 ∧ gb_i0 p1 (f 1 2) ∧ gb_RS 2 (σ.1 (r + 1)) (gb_Rs 2 f p1) ∧ gb_rg 2 (gb_Rs 2 f p1)))) := by
  refine hc_mono ch_lawAt (fun s r g => ⟨g.1, ?_⟩)
  have hh := R_held h (s := 2) (by decide)
  rw [hh] at g
  rcases g.2 with z | ⟨m, z1, z2, z3, z4⟩
  · exact Or.inl ⟨z.1, in_Nk z.2⟩
  · refine Or.inr ⟨z4, in_Lk z1, ?_, ?_⟩
    · rw [Rs_E z1, z3]
      exact R_sheet h (by decide) z1
    · rw [Rs_E z1]
      have := rg_F (q := 0) hM.2 (s := 2) (m := m) (by decide) (by omega)
      have e00 : (fun j => f 1 (992 * 0 + (gb_pl 2 m + j))) = (fun j => f 1 (gb_pl 2 m + j)) := funext (fun j => by rw [show 992 * 0 + (gb_pl 2 m + j) = gb_pl 2 m + j by omega])
      rw [e00] at this
      exact this
/-- the reference's place of such a sheet -/
def gb_mlaw (R : Nat → Int32) (f : gb_F) : Prop := ∃ m : Nat, m < 2 ∧ gb_mb 25 2 m f ∧ ∀ j, f 1 (gb_pl 2 m + j) = R j
theorem mx_law {n : Nat} {f : gb_F} {w : Int64} {p1 : Int32} {Q : gb_F → Int64 → Int32 → Prop} {x : gb_MR Int32} {k : gb_F → Int64 → gb_MR Int32} (hM : gb_TM f) (ex : x = gb_bd (ms_isOf n f w 2 p1) (fun f_1 wl_2 r_3 => (if r_3 = 0 then some (f_1, wl_2, (-2)) else gb_bd (ms_placeOf n f_1 wl_2 2 p1) (fun f_7 wl_8 r_9 => gb_lt (gb_u f_7 0 (upd (f_7 0) 25 r_9)) (fun f_12 => k f_12 wl_8))))) (h1 : ¬ gb_i0 p1 (f 1 2) → Q f w (-2)) (h2 : ∀ f2 : gb_F, gb_i0 p1 (f 1 2) → gb_TM f2 → gb_mlaw (gb_Rs 2 f p1) f2 → gb_hm (k f2 w) Q) : gb_hm x Q := by
  rw [ex]
  refine hm_bd (mh_isOf hM (s := 2) (by decide) (by decide)) (fun g u r hg => ?_)
  obtain ⟨rfl, rfl, hg⟩ := hg
  refine hm_if (fun c => hm_some ?_) (fun c => ?_)
  · rcases hg with z | ⟨m, z, -⟩
    · exact h1 (in_Nk z.2)
    · rw [c] at z
      exact absurd z (by decide)
  · rcases hg with z | ⟨m, z1, z2, z3⟩
    · exact absurd z.1 c
    · refine hm_bd (hm_and (hm_of (mt_placeOfE (s := 2) (by decide) (by decide) z2.1 (by omega))) (hm_of (mt_placeOf2 (p2 := p1) ⟨by have := z2.1; omega, by have := z2.1; omega⟩))) (fun g2 u2 r2 hh => hm_lt (fun y ey => ?_))
      obtain ⟨⟨e1, e2, e3⟩, -, -, e4⟩ := hh
      subst e1
      subst e2
      refine h2 y (in_Lk z2) (by rw [ey]; exact gb_TM25 hM (Or.inr e4)) ⟨m, z3, ?_, fun j => ?_⟩
      · unfold gb_mb
        rw [ey, gb_us, pk_us]
        exact e3
      · rw [ey, gb_un (by decide), Rs_E z2]
theorem ch_sizeD {n : Nat} {σ : gb_S} {k0 : Nat} : gb_hc (cs_Lines_size_D n σ k0) (fun s r => s = σ ∧ r = σ.1 (k0 + 1) 0) := by
  unfold cs_Lines_size_D
  exact hc_kk (fun _ => hc_lt (fun x ex => hc_some ⟨rfl, ex⟩))
theorem cx_dawn {n : Nat} {σ : gb_S} {f : gb_F} {p1 : Int32} (h : gb_R σ f) (hM : gb_TM f) : gb_hc (cs_Face_dawnAt n σ p1) (fun s r => s = σ ∧ ((r = 0 ∧ ¬ gb_i0 p1 (f 1 3)) ∨ (r ≠ 0 ∧ gb_i0 p1 (f 1 3) ∧ gb_RS 3 (σ.1 (r + 1)) (gb_Rs 3 f p1) ∧ gb_rg 3 (gb_Rs 3 f p1)))) := by
  refine hc_mono ch_dawnAt (fun s r g => ⟨g.1, ?_⟩)
  have hh := R_held h (s := 3) (by decide)
  rw [hh] at g
  rcases g.2 with z | ⟨m, z1, z2, z3, z4⟩
  · exact Or.inl ⟨z.1, in_Nk z.2⟩
  · refine Or.inr ⟨z4, in_Lk z1, ?_, ?_⟩
    · rw [Rs_E z1, z3]
      exact R_sheet h (by decide) z1
    · rw [Rs_E z1]
      have := rg_F (q := 0) hM.2 (s := 3) (m := m) (by decide) (by omega)
      have e00 : (fun j => f 1 (992 * 0 + (gb_pl 3 m + j))) = (fun j => f 1 (gb_pl 3 m + j)) := funext (fun j => by rw [show 992 * 0 + (gb_pl 3 m + j) = gb_pl 3 m + j by omega])
      rw [e00] at this
      exact this
/-- the reference's place of such a sheet -/
def gb_mdawn (R : Nat → Int32) (f : gb_F) : Prop := ∃ m : Nat, m < 2 ∧ gb_mb 29 3 m f ∧ ∀ j, f 1 (gb_pl 3 m + j) = R j
theorem mx_dawn {n : Nat} {f : gb_F} {w : Int64} {p1 : Int32} {Q : gb_F → Int64 → Int32 → Prop} {x : gb_MR Int32} {k : gb_F → Int64 → gb_MR Int32} (hM : gb_TM f) (ex : x = gb_bd (ms_isOf n f w 3 p1) (fun f_1 wl_2 r_3 => (if r_3 = 0 then some (f_1, wl_2, (-2)) else gb_bd (ms_placeOf n f_1 wl_2 3 p1) (fun f_7 wl_8 r_9 => gb_lt (gb_u f_7 0 (upd (f_7 0) 29 r_9)) (fun f_12 => k f_12 wl_8))))) (h1 : ¬ gb_i0 p1 (f 1 3) → Q f w (-2)) (h2 : ∀ f2 : gb_F, gb_i0 p1 (f 1 3) → gb_TM f2 → gb_mdawn (gb_Rs 3 f p1) f2 → gb_hm (k f2 w) Q) : gb_hm x Q := by
  rw [ex]
  refine hm_bd (mh_isOf hM (s := 3) (by decide) (by decide)) (fun g u r hg => ?_)
  obtain ⟨rfl, rfl, hg⟩ := hg
  refine hm_if (fun c => hm_some ?_) (fun c => ?_)
  · rcases hg with z | ⟨m, z, -⟩
    · exact h1 (in_Nk z.2)
    · rw [c] at z
      exact absurd z (by decide)
  · rcases hg with z | ⟨m, z1, z2, z3⟩
    · exact absurd z.1 c
    · refine hm_bd (hm_and (hm_of (mt_placeOfE (s := 3) (by decide) (by decide) z2.1 (by omega))) (hm_of (mt_placeOf3 (p2 := p1) ⟨by have := z2.1; omega, by have := z2.1; omega⟩))) (fun g2 u2 r2 hh => hm_lt (fun y ey => ?_))
      obtain ⟨⟨e1, e2, e3⟩, -, -, e4⟩ := hh
      subst e1
      subst e2
      refine h2 y (in_Lk z2) (by rw [ey]; exact gb_TM29 hM (Or.inr e4)) ⟨m, z3, ?_, fun j => ?_⟩
      · unfold gb_mb
        rw [ey, gb_us, pk_us]
        exact e3
      · rw [ey, gb_un (by decide), Rs_E z2]
theorem c_lineOfN {n : Nat} {σ : gb_S} {k0 : Nat} {R : Nat → Int32} {p2 p3 : Int32} (hS : gb_RS 1 (σ.1 (k0 + 1)) R) (hg : gb_rg 1 R) : gb_hc (cs_Face_lineOf_N n σ k0 p2 p3) (fun s r => s = σ ∧ r = gb_lnv R 4 3 p2.toInt p3.toInt) := by
  unfold cs_Face_lineOf_N
  have c0 : (0 : Int32).toInt = 0 := by decide
  have cn : (3 : Int32).toInt = 3 := by decide
  have i0 : gb_iv 0 24 (R 0) := gb_iw (hg.2.1 rfl) (by decide)
  have i1 := i0.1
  have i2 := i0.2
  refine hc_kk (fun _ => hc_if (fun c => hc_if (fun d => ?_) (fun d => hc_some ⟨rfl, ?_⟩)) (fun c => hc_if (fun d => hc_some ⟨rfl, ?_⟩) (fun d => ?_)))
  · refine hc_cd ch_sizeN (fun s r h => hc_some ⟨h.1, ?_⟩)
    rw [h.2, hS.1]
    unfold gb_lnv
    rw [if_pos (gi_m1.mp c), if_pos (by rw [d]; exact c0)]
  · unfold gb_lnv
    rw [if_pos (gi_m1.mp c), if_neg (fun q => d (gi_eq q c0))]
  · have := gi_lt d
    unfold gb_lnv
    rw [if_neg (fun q => c (gi_m1.mpr q)), if_neg (by omega)]
  · have d1 := gi_nlt d
    refine hc_cd ch_sizeN (fun s r h => ?_)
    obtain ⟨rfl, rfl⟩ := h
    rw [hS.1]
    refine hc_if (fun g => hc_some ⟨rfl, ?_⟩) (fun g => hc_if (fun g2 => hc_some ⟨rfl, ?_⟩) (fun g2 => hc_if (fun g3 => ?_) (fun g3 => hc_some ⟨rfl, ?_⟩)))
    · have := gi_le g
      unfold gb_lnv
      rw [if_neg (fun q => c (gi_m1.mpr q)), if_neg (by omega)]
    · have := gi_lt g2
      unfold gb_lnv
      rw [if_neg (fun q => c (gi_m1.mpr q)), if_neg (by omega)]
    · have g1 := gi_nle g
      have g21 := gi_nlt g2
      have g31 := gi_le g3
      refine hc_cd (ch_cellN (k := p2.toInt.toNat) (j := p3.toInt.toNat) (by omega) (by omega) (by omega) (by omega)) (fun s2 r2 h2 => hc_some ⟨h2.1, ?_⟩)
      rw [h2.2]
      unfold gb_lnv
      rw [if_neg (fun q => c (gi_m1.mpr q)), if_pos ⟨⟨by omega, by omega⟩, by omega, by omega⟩]
      have e : 1 + 4 * p2.toInt.toNat + p3.toInt.toNat = 1 + (4 * p2.toInt.toNat + p3.toInt.toNat) := by omega
      rw [e]
      have wE : gb_wid 1 = 4 := rfl
      exact hS.2.2.1 (by decide) _ (by rw [wE]; omega)
    · have := gi_nle g3
      unfold gb_lnv
      rw [if_neg (fun q => c (gi_m1.mpr q)), if_neg (by omega)]
theorem c_deed {n : Nat} {σ : gb_S} {f : gb_F} {p1 p2 p3 : Int32} (h : gb_R σ f) (hM : gb_TM f) : gb_hc (cs_Face_deed n σ p1 p2 p3) (fun _ r => r = gb_Aln 1 4 3 f p1 p2 p3) := by
  unfold cs_Face_deed
  refine hc_cd (cx_night h hM) (fun s r g => ?_)
  obtain ⟨rfl, g⟩ := g
  rcases g with ⟨g1, g2⟩ | ⟨g1, g2, g3, g4⟩
  · rw [if_pos g1]
    refine hc_some ?_
    unfold gb_Aln
    rw [if_neg g2]
  · rw [if_neg g1]
    refine hc_kk (fun _ => hc_cd (c_lineOfN g3 g4) (fun s2 r2 k => hc_some ?_))
    rw [k.2]
    unfold gb_Aln
    rw [if_pos g2]
theorem mx_deedOf {n : Nat} {f : gb_F} {w : Int64} {R : Nat → Int32} {x y : Int32} {k j : Nat} (h : gb_mnight R f) (e1 : x.toInt = k) (hk : k ≤ 1000) (e2 : y.toInt = j) (hj : j ≤ 10) : gb_hm (ms_deedOf n f w x y) (fun f2 w2 r => f2 = f ∧ w2 = w ∧ r = R (1 + 4 * k + j)) := by
  unfold ms_deedOf
  obtain ⟨m, hm, hb, hR⟩ := h
  have hb' : (f 0 12).toInt = gb_pl 1 m := hb
  have hp : gb_pl 1 m ≤ 1000 := by
    rcases pl_E (s := 1) (m := m) (by decide) with a | a | a | a <;> omega
  have c1 : (1 : Int32).toInt = ((1 : Nat) : Int) := by decide
  have cw : (4 : Int32).toInt = 4 := by decide
  have m1 : (4 * x).toInt = ((4 * k : Nat) : Int) := by
    rw [gb_tmul (by rw [e1, cw]; omega) (by rw [e1, cw]; omega), e1, cw]
    omega
  have m2 := gi_pl (gi_pl (gi_pl hb' c1 (by omega) (by omega)) m1 (by omega) (by omega)) e2 (by omega) (by omega)
  rw [gi_tn m2]
  refine hm_ck (fun _ _ => hm_lt (fun z ez => hm_some ⟨rfl, rfl, ?_⟩))
  rw [ez, show gb_pl 1 m + 1 + 4 * k + j = gb_pl 1 m + (1 + 4 * k + j) by omega]
  exact hR _
theorem mx_nnight {f : gb_F} {R : Nat → Int32} (h : gb_mnight R f) : f 1 (Int32.toNatClampNeg (f 0 12)) = R 0 := by
  obtain ⟨m, hm, hb, hR⟩ := h
  have hb' : (f 0 12).toInt = gb_pl 1 m := hb
  rw [gi_tn hb']
  have := hR 0
  rw [Nat.add_zero] at this
  exact this
theorem rs_night {f : gb_F} {p1 : Int32} (hM : gb_TM f) (h : gb_i0 p1 (f 1 1)) : gb_rg 1 (gb_Rs 1 f p1) := by
  have i := hl_0 hM.2 (s := 1) (by decide)
  have i2 := i.2
  have := rg_F (q := 0) hM.2 (s := 1) (m := p1.toInt.toNat) (by decide) (by have := h.1; have := h.2; omega)
  have e00 : (fun j => f 1 (992 * 0 + (gb_pl 1 p1.toInt.toNat + j))) = gb_Rs 1 f p1 := funext (fun j => by rw [show 992 * 0 + (gb_pl 1 p1.toInt.toNat + j) = gb_pl 1 p1.toInt.toNat + j by omega]; rfl)
  rw [e00] at this
  exact this
theorem c_lineOfL {n : Nat} {σ : gb_S} {k0 : Nat} {R : Nat → Int32} {p2 p3 : Int32} (hS : gb_RS 2 (σ.1 (k0 + 1)) R) (hg : gb_rg 2 R) : gb_hc (cs_Face_lineOf_L n σ k0 p2 p3) (fun s r => s = σ ∧ r = gb_lnv R 3 2 p2.toInt p3.toInt) := by
  unfold cs_Face_lineOf_L
  have c0 : (0 : Int32).toInt = 0 := by decide
  have cn : (2 : Int32).toInt = 2 := by decide
  have i0 : gb_iv 0 24 (R 0) := gb_iw (hg.2.2.1 rfl) (by decide)
  have i1 := i0.1
  have i2 := i0.2
  refine hc_kk (fun _ => hc_if (fun c => hc_if (fun d => ?_) (fun d => hc_some ⟨rfl, ?_⟩)) (fun c => hc_if (fun d => hc_some ⟨rfl, ?_⟩) (fun d => ?_)))
  · refine hc_cd ch_sizeL (fun s r h => hc_some ⟨h.1, ?_⟩)
    rw [h.2, hS.1]
    unfold gb_lnv
    rw [if_pos (gi_m1.mp c), if_pos (by rw [d]; exact c0)]
  · unfold gb_lnv
    rw [if_pos (gi_m1.mp c), if_neg (fun q => d (gi_eq q c0))]
  · have := gi_lt d
    unfold gb_lnv
    rw [if_neg (fun q => c (gi_m1.mpr q)), if_neg (by omega)]
  · have d1 := gi_nlt d
    refine hc_cd ch_sizeL (fun s r h => ?_)
    obtain ⟨rfl, rfl⟩ := h
    rw [hS.1]
    refine hc_if (fun g => hc_some ⟨rfl, ?_⟩) (fun g => hc_if (fun g2 => hc_some ⟨rfl, ?_⟩) (fun g2 => hc_if (fun g3 => ?_) (fun g3 => hc_some ⟨rfl, ?_⟩)))
    · have := gi_le g
      unfold gb_lnv
      rw [if_neg (fun q => c (gi_m1.mpr q)), if_neg (by omega)]
    · have := gi_lt g2
      unfold gb_lnv
      rw [if_neg (fun q => c (gi_m1.mpr q)), if_neg (by omega)]
    · have g1 := gi_nle g
      have g21 := gi_nlt g2
      have g31 := gi_le g3
      refine hc_cd (ch_cellL (k := p2.toInt.toNat) (j := p3.toInt.toNat) (by omega) (by omega) (by omega) (by omega)) (fun s2 r2 h2 => hc_some ⟨h2.1, ?_⟩)
      rw [h2.2]
      unfold gb_lnv
      rw [if_neg (fun q => c (gi_m1.mpr q)), if_pos ⟨⟨by omega, by omega⟩, by omega, by omega⟩]
      have e : 1 + 3 * p2.toInt.toNat + p3.toInt.toNat = 1 + (3 * p2.toInt.toNat + p3.toInt.toNat) := by omega
      rw [e]
      have wE : gb_wid 2 = 3 := rfl
      exact hS.2.2.1 (by decide) _ (by rw [wE]; omega)
    · have := gi_nle g3
      unfold gb_lnv
      rw [if_neg (fun q => c (gi_m1.mpr q)), if_neg (by omega)]
theorem c_term {n : Nat} {σ : gb_S} {f : gb_F} {p1 p2 p3 : Int32} (h : gb_R σ f) (hM : gb_TM f) : gb_hc (cs_Face_term n σ p1 p2 p3) (fun _ r => r = gb_Aln 2 3 2 f p1 p2 p3) := by
  unfold cs_Face_term
  refine hc_cd (cx_law h hM) (fun s r g => ?_)
  obtain ⟨rfl, g⟩ := g
  rcases g with ⟨g1, g2⟩ | ⟨g1, g2, g3, g4⟩
  · rw [if_pos g1]
    refine hc_some ?_
    unfold gb_Aln
    rw [if_neg g2]
  · rw [if_neg g1]
    refine hc_kk (fun _ => hc_cd (c_lineOfL g3 g4) (fun s2 r2 k => hc_some ?_))
    rw [k.2]
    unfold gb_Aln
    rw [if_pos g2]
theorem mx_termOf {n : Nat} {f : gb_F} {w : Int64} {R : Nat → Int32} {x y : Int32} {k j : Nat} (h : gb_mlaw R f) (e1 : x.toInt = k) (hk : k ≤ 1000) (e2 : y.toInt = j) (hj : j ≤ 10) : gb_hm (ms_termOf n f w x y) (fun f2 w2 r => f2 = f ∧ w2 = w ∧ r = R (1 + 3 * k + j)) := by
  unfold ms_termOf
  obtain ⟨m, hm, hb, hR⟩ := h
  have hb' : (f 0 25).toInt = gb_pl 2 m := hb
  have hp : gb_pl 2 m ≤ 1000 := by
    rcases pl_E (s := 2) (m := m) (by decide) with a | a | a | a <;> omega
  have c1 : (1 : Int32).toInt = ((1 : Nat) : Int) := by decide
  have cw : (3 : Int32).toInt = 3 := by decide
  have m1 : (3 * x).toInt = ((3 * k : Nat) : Int) := by
    rw [gb_tmul (by rw [e1, cw]; omega) (by rw [e1, cw]; omega), e1, cw]
    omega
  have m2 := gi_pl (gi_pl (gi_pl hb' c1 (by omega) (by omega)) m1 (by omega) (by omega)) e2 (by omega) (by omega)
  rw [gi_tn m2]
  refine hm_ck (fun _ _ => hm_lt (fun z ez => hm_some ⟨rfl, rfl, ?_⟩))
  rw [ez, show gb_pl 2 m + 1 + 3 * k + j = gb_pl 2 m + (1 + 3 * k + j) by omega]
  exact hR _
theorem mx_nlaw {f : gb_F} {R : Nat → Int32} (h : gb_mlaw R f) : f 1 (Int32.toNatClampNeg (f 0 25)) = R 0 := by
  obtain ⟨m, hm, hb, hR⟩ := h
  have hb' : (f 0 25).toInt = gb_pl 2 m := hb
  rw [gi_tn hb']
  have := hR 0
  rw [Nat.add_zero] at this
  exact this
theorem rs_law {f : gb_F} {p1 : Int32} (hM : gb_TM f) (h : gb_i0 p1 (f 1 2)) : gb_rg 2 (gb_Rs 2 f p1) := by
  have i := hl_0 hM.2 (s := 2) (by decide)
  have i2 := i.2
  have := rg_F (q := 0) hM.2 (s := 2) (m := p1.toInt.toNat) (by decide) (by have := h.1; have := h.2; omega)
  have e00 : (fun j => f 1 (992 * 0 + (gb_pl 2 p1.toInt.toNat + j))) = gb_Rs 2 f p1 := funext (fun j => by rw [show 992 * 0 + (gb_pl 2 p1.toInt.toNat + j) = gb_pl 2 p1.toInt.toNat + j by omega]; rfl)
  rw [e00] at this
  exact this
theorem mx_seenOf {n : Nat} {f : gb_F} {w : Int64} {R : Nat → Int32} {x y : Int32} {k j : Nat} (h : gb_mdawn R f) (e1 : x.toInt = k) (hk : k ≤ 1000) (e2 : y.toInt = j) (hj : j ≤ 10) : gb_hm (ms_seenOf n f w x y) (fun f2 w2 r => f2 = f ∧ w2 = w ∧ r = R (1 + 2 * k + j)) := by
  unfold ms_seenOf
  obtain ⟨m, hm, hb, hR⟩ := h
  have hb' : (f 0 29).toInt = gb_pl 3 m := hb
  have hp : gb_pl 3 m ≤ 1000 := by
    rcases pl_E (s := 3) (m := m) (by decide) with a | a | a | a <;> omega
  have c1 : (1 : Int32).toInt = ((1 : Nat) : Int) := by decide
  have cw : (2 : Int32).toInt = 2 := by decide
  have m1 : (2 * x).toInt = ((2 * k : Nat) : Int) := by
    rw [gb_tmul (by rw [e1, cw]; omega) (by rw [e1, cw]; omega), e1, cw]
    omega
  have m2 := gi_pl (gi_pl (gi_pl hb' c1 (by omega) (by omega)) m1 (by omega) (by omega)) e2 (by omega) (by omega)
  rw [gi_tn m2]
  refine hm_ck (fun _ _ => hm_lt (fun z ez => hm_some ⟨rfl, rfl, ?_⟩))
  rw [ez, show gb_pl 3 m + 1 + 2 * k + j = gb_pl 3 m + (1 + 2 * k + j) by omega]
  exact hR _
theorem mx_ndawn {f : gb_F} {R : Nat → Int32} (h : gb_mdawn R f) : f 1 (Int32.toNatClampNeg (f 0 29)) = R 0 := by
  obtain ⟨m, hm, hb, hR⟩ := h
  have hb' : (f 0 29).toInt = gb_pl 3 m := hb
  rw [gi_tn hb']
  have := hR 0
  rw [Nat.add_zero] at this
  exact this
theorem rs_dawn {f : gb_F} {p1 : Int32} (hM : gb_TM f) (h : gb_i0 p1 (f 1 3)) : gb_rg 3 (gb_Rs 3 f p1) := by
  have i := hl_0 hM.2 (s := 3) (by decide)
  have i2 := i.2
  have := rg_F (q := 0) hM.2 (s := 3) (m := p1.toInt.toNat) (by decide) (by have := h.1; have := h.2; omega)
  have e00 : (fun j => f 1 (992 * 0 + (gb_pl 3 p1.toInt.toNat + j))) = gb_Rs 3 f p1 := funext (fun j => by rw [show 992 * 0 + (gb_pl 3 p1.toInt.toNat + j) = gb_pl 3 p1.toInt.toNat + j by omega]; rfl)
  rw [e00] at this
  exact this
theorem m_deed {n : Nat} {f : gb_F} {w : Int64} {p1 p2 p3 : Int32} (hM : gb_TM f) : gb_hm (ms_deed n f w p1 p2 p3) (fun _ _ r => r = gb_Aln 1 4 3 f p1 p2 p3) := by
  have c0 : (0 : Int32).toInt = 0 := by decide
  have cn : (3 : Int32).toInt = 3 := by decide
  refine mx_night hM rfl (fun g => ?_) (fun f2 g hM2 hm => ?_)
  · unfold gb_Aln
    rw [if_neg g]
  · have ab : gb_Aln 1 4 3 f p1 p2 p3 = gb_lnv (gb_Rs 1 f p1) 4 3 p2.toInt p3.toInt := by
      unfold gb_Aln
      rw [if_pos g]
    rw [ab]
    have i0 : gb_iv 0 1000 (gb_Rs 1 f p1 0) := gb_iw ((rs_night hM g).2.1 rfl) (by decide)
    have i1 := i0.1
    have i2 := i0.2
    have dd : ∀ w : Int64, gb_hm (ms_deeds n f2 w) (fun f3 w3 r => f3 = f2 ∧ w3 = w ∧ r = gb_Rs 1 f p1 0) := fun w => by
      unfold ms_deeds
      exact hm_ck (fun _ _ => hm_lt (fun x ex => hm_some ⟨rfl, rfl, by rw [ex]; exact mx_nnight hm⟩))
    refine hm_if (fun c => hm_if (fun d => ?_) (fun d => hm_some ?_)) (fun c => ?_)
    · refine hm_bd (dd w) (fun f3 w3 r3 k3 => hm_some ?_)
      rw [k3.2.2]
      unfold gb_lnv
      rw [if_pos (gi_m1.mp c), if_pos (by rw [d]; exact c0)]
    · unfold gb_lnv
      rw [if_pos (gi_m1.mp c), if_neg (fun q => d (gi_eq q c0))]
    · refine hm_bd (dd w) (fun f3 w3 r3 k3 => ?_)
      obtain ⟨rfl, rfl, rfl⟩ := k3
      refine hm_bd (mh_below i0) (fun f4 w4 r4 k4 => ?_)
      obtain ⟨rfl, rfl, k4⟩ := k4
      refine hm_if (fun z => hm_some ?_) (fun z => ?_)
      · rcases k4 with q | ⟨p, q, -⟩
        · have nn := in_nk q.2
          unfold gb_lnv
          rw [if_neg (fun q => c (gi_m1.mpr q)), if_neg (fun y => nn y.1)]
        · rw [z] at q
          exact absurd q (by decide)
      · rcases k4 with q | ⟨p, q1, q2⟩
        · exact absurd q.1 z
        · have hin := in_lk q2
          have hin2 := hin.2
          refine hm_bd mh_isIn (fun f5 w5 r5 k5 => ?_)
          obtain ⟨rfl, rfl, k5⟩ := k5
          rw [c0, cn] at k5
          refine hm_if (fun z5 => hm_some ?_) (fun z5 => ?_)
          · have nn : ¬ (0 ≤ p3.toInt ∧ p3.toInt ≤ 3) := by
              rcases k5 with y | y
              · rw [z5] at y
                exact absurd y.1 (by decide)
              · omega
            unfold gb_lnv
            rw [if_neg (fun q => c (gi_m1.mpr q)), if_neg (fun y => nn y.2)]
          · have yy : 0 ≤ p3.toInt ∧ p3.toInt ≤ 3 := by
              rcases k5 with y | y
              · exact y.2
              · exact absurd y.1 z5
            have hin1 := hin.1
            refine hm_bd (mx_deedOf hm (k := p2.toInt.toNat) (j := p3.toInt.toNat) (by omega) (by omega) (by omega) (by omega)) (fun f6 w6 r6 k6 => hm_some ?_)
            rw [k6.2.2]
            unfold gb_lnv
            rw [if_neg (fun q => c (gi_m1.mpr q)), if_pos ⟨hin, yy⟩]
theorem e_deed {σ σ2 : gb_S} {f f2 : gb_F} {w w2 : Int64} {p1 p2 p3 ra qa : Int32} (_ : gb_TC σ) (hM : gb_TM f) (h : gb_R σ f) (ec : cs_Face_deed gb_N σ p1 p2 p3 = some (σ2, ra)) (em : ms_deed gb_N f w p1 p2 p3 = some (f2, w2, qa)) : ra = qa := (c_deed h hM _ _ ec).trans (m_deed hM _ _ _ em).symm
theorem m_term {n : Nat} {f : gb_F} {w : Int64} {p1 p2 p3 : Int32} (hM : gb_TM f) : gb_hm (ms_term n f w p1 p2 p3) (fun _ _ r => r = gb_Aln 2 3 2 f p1 p2 p3) := by
  have c0 : (0 : Int32).toInt = 0 := by decide
  have cn : (2 : Int32).toInt = 2 := by decide
  refine mx_law hM rfl (fun g => ?_) (fun f2 g hM2 hm => ?_)
  · unfold gb_Aln
    rw [if_neg g]
  · have ab : gb_Aln 2 3 2 f p1 p2 p3 = gb_lnv (gb_Rs 2 f p1) 3 2 p2.toInt p3.toInt := by
      unfold gb_Aln
      rw [if_pos g]
    rw [ab]
    have i0 : gb_iv 0 1000 (gb_Rs 2 f p1 0) := gb_iw ((rs_law hM g).2.2.1 rfl) (by decide)
    have i1 := i0.1
    have i2 := i0.2
    refine hm_if (fun c => hm_if (fun d => ?_) (fun d => hm_some ?_)) (fun c => ?_)
    · refine hm_ck (fun _ _ => hm_lt (fun x ex => hm_some ?_))
      rw [ex, mx_nlaw hm]
      unfold gb_lnv
      rw [if_pos (gi_m1.mp c), if_pos (by rw [d]; exact c0)]
    · unfold gb_lnv
      rw [if_pos (gi_m1.mp c), if_neg (fun q => d (gi_eq q c0))]
    · refine hm_ck (fun _ _ => hm_lt (fun x ex => ?_))
      rw [mx_nlaw hm] at ex
      subst ex
      refine hm_bd (mh_below i0) (fun f4 w4 r4 k4 => ?_)
      obtain ⟨rfl, rfl, k4⟩ := k4
      refine hm_if (fun z => hm_some ?_) (fun z => ?_)
      · rcases k4 with q | ⟨p, q, -⟩
        · have nn := in_nk q.2
          unfold gb_lnv
          rw [if_neg (fun q => c (gi_m1.mpr q)), if_neg (fun y => nn y.1)]
        · rw [z] at q
          exact absurd q (by decide)
      · rcases k4 with q | ⟨p, q1, q2⟩
        · exact absurd q.1 z
        · have hin := in_lk q2
          have hin2 := hin.2
          refine hm_bd mh_isIn (fun f5 w5 r5 k5 => ?_)
          obtain ⟨rfl, rfl, k5⟩ := k5
          rw [c0, cn] at k5
          refine hm_if (fun z5 => hm_some ?_) (fun z5 => ?_)
          · have nn : ¬ (0 ≤ p3.toInt ∧ p3.toInt ≤ 2) := by
              rcases k5 with y | y
              · rw [z5] at y
                exact absurd y.1 (by decide)
              · omega
            unfold gb_lnv
            rw [if_neg (fun q => c (gi_m1.mpr q)), if_neg (fun y => nn y.2)]
          · have yy : 0 ≤ p3.toInt ∧ p3.toInt ≤ 2 := by
              rcases k5 with y | y
              · exact y.2
              · exact absurd y.1 z5
            have hin1 := hin.1
            refine hm_bd (mx_termOf hm (k := p2.toInt.toNat) (j := p3.toInt.toNat) (by omega) (by omega) (by omega) (by omega)) (fun f6 w6 r6 k6 => hm_some ?_)
            rw [k6.2.2]
            unfold gb_lnv
            rw [if_neg (fun q => c (gi_m1.mpr q)), if_pos ⟨hin, yy⟩]
theorem e_term {σ σ2 : gb_S} {f f2 : gb_F} {w w2 : Int64} {p1 p2 p3 ra qa : Int32} (_ : gb_TC σ) (hM : gb_TM f) (h : gb_R σ f) (ec : cs_Face_term gb_N σ p1 p2 p3 = some (σ2, ra)) (em : ms_term gb_N f w p1 p2 p3 = some (f2, w2, qa)) : ra = qa := (c_term h hM _ _ ec).trans (m_term hM _ _ _ em).symm
def gb_Aseen (f : gb_F) (p1 p2 p3 : Int32) : Int32 := if gb_i0 p1 (f 1 3) then gb_lnv (gb_Rs 3 f p1) 2 1 p2.toInt p3.toInt else -2
theorem c_lineOfD {n : Nat} {σ : gb_S} {k0 : Nat} {p2 p3 : Int32} (hi : gb_iv 0 24 (σ.1 (k0 + 1) 0)) : gb_hc (cs_Face_lineOf_D n σ k0 p2 p3) (fun s r => s = σ ∧ r = gb_lnv (σ.1 (k0 + 1)) 3 2 p2.toInt p3.toInt) := by
  unfold cs_Face_lineOf_D
  have c0 : (0 : Int32).toInt = 0 := by decide
  have cn : (2 : Int32).toInt = 2 := by decide
  have i1 := hi.1
  have i2 := hi.2
  refine hc_kk (fun _ => hc_if (fun c => hc_if (fun d => ?_) (fun d => hc_some ⟨rfl, ?_⟩)) (fun c => hc_if (fun d => hc_some ⟨rfl, ?_⟩) (fun d => ?_)))
  · refine hc_cd ch_sizeD (fun s r h => hc_some ⟨h.1, ?_⟩)
    rw [h.2]
    unfold gb_lnv
    rw [if_pos (gi_m1.mp c), if_pos (by rw [d]; exact c0)]
  · unfold gb_lnv
    rw [if_pos (gi_m1.mp c), if_neg (fun q => d (gi_eq q c0))]
  · have := gi_lt d
    unfold gb_lnv
    rw [if_neg (fun q => c (gi_m1.mpr q)), if_neg (by omega)]
  · have d1 := gi_nlt d
    refine hc_cd ch_sizeD (fun s r h => ?_)
    obtain ⟨rfl, rfl⟩ := h
    refine hc_if (fun g => hc_some ⟨rfl, ?_⟩) (fun g => hc_if (fun g2 => hc_some ⟨rfl, ?_⟩) (fun g2 => hc_if (fun g3 => ?_) (fun g3 => hc_some ⟨rfl, ?_⟩)))
    · have := gi_le g
      unfold gb_lnv
      rw [if_neg (fun q => c (gi_m1.mpr q)), if_neg (by omega)]
    · have := gi_lt g2
      unfold gb_lnv
      rw [if_neg (fun q => c (gi_m1.mpr q)), if_neg (by omega)]
    · have g1 := gi_nle g
      have g21 := gi_nlt g2
      have g31 := gi_le g3
      refine hc_cd (ch_cellD (k := p2.toInt.toNat) (j := p3.toInt.toNat) (by omega) (by omega) (by omega) (by omega)) (fun s2 r2 h2 => hc_some ⟨h2.1, ?_⟩)
      rw [h2.2]
      unfold gb_lnv
      rw [if_neg (fun q => c (gi_m1.mpr q)), if_pos ⟨⟨by omega, by omega⟩, by omega, by omega⟩]
    · have := gi_nle g3
      unfold gb_lnv
      rw [if_neg (fun q => c (gi_m1.mpr q)), if_neg (by omega)]
theorem c_seen {n : Nat} {σ : gb_S} {f : gb_F} {p1 p2 p3 : Int32} (h : gb_R σ f) (hM : gb_TM f) : gb_hc (cs_Face_seen n σ p1 p2 p3) (fun _ r => r = gb_Aseen f p1 p2 p3) := by
  unfold cs_Face_seen
  have c0 : (0 : Int32).toInt = 0 := by decide
  have c1 : (1 : Int32).toInt = 1 := by decide
  refine hc_cd (cx_dawn h hM) (fun s r g => ?_)
  obtain ⟨rfl, g⟩ := g
  rcases g with ⟨g1, g2⟩ | ⟨g1, g2, g3, g4⟩
  · rw [if_pos g1]
    refine hc_some ?_
    unfold gb_Aseen
    rw [if_neg g2]
  · rw [if_neg g1]
    have ab : gb_Aseen f p1 p2 p3 = gb_lnv (gb_Rs 3 f p1) 2 1 p2.toInt p3.toInt := by
      unfold gb_Aseen
      rw [if_pos g2]
    rw [ab]
    have i0 : gb_iv 0 5 (gb_Rs 3 f p1 0) := g4.2.2.2 rfl
    have i1 := i0.1
    have i2 := i0.2
    have iG : gb_iv 0 24 (s.1 (r + 1) 0) := by
      rw [g3.1]
      exact gb_iw i0 (by decide)
    refine hc_kk (fun _ => hc_if (fun c => hc_some ?_) (fun c => hc_if (fun d => hc_if (fun e => ?_) (fun e => ?_)) (fun d => hc_some ?_)))
    · have := gi_lt c
      unfold gb_lnv
      by_cases q : p2.toInt = -1
      · rw [if_pos q, if_neg (by omega)]
      · rw [if_neg q, if_neg (by omega)]
    · refine hc_cd (c_lineOfD iG) (fun s2 r2 k => hc_some ?_)
      rw [k.2]
      unfold gb_lnv
      rw [if_pos (gi_m1.mp e), if_pos (gi_m1.mp e), g3.1]
    · have a1 := gi_nlt c
      have a2 := gi_le d
      have p31 : (p3 + 1).toInt = p3.toInt + 1 := by rw [gb_tadd (by omega) (by omega), c1]
      refine hc_cd (c_lineOfD iG) (fun s2 r2 k => hc_some ?_)
      rw [k.2]
      have ne : ¬ p2.toInt = -1 := fun q => e (gi_m1.mpr q)
      unfold gb_lnv
      rw [if_neg ne, if_neg ne, g3.1]
      by_cases q : 0 ≤ p2.toInt ∧ p2.toInt < (gb_Rs 3 f p1 0).toInt
      · rw [if_pos ⟨q, by omega, by omega⟩, if_pos ⟨q, by omega, by omega⟩, p31]
        have rs := g3.2.2.2 rfl p2.toInt.toNat (by omega)
        have p3c : p3.toInt = 0 ∨ p3.toInt = 1 := by omega
        rcases p3c with z | z
        · rw [z, show 1 + 3 * p2.toInt.toNat + ((0 : Int) + 1).toNat = 2 + 3 * p2.toInt.toNat by omega, rs.1, show 1 + 2 * p2.toInt.toNat + (0 : Int).toNat = 1 + 2 * p2.toInt.toNat by omega]
        · rw [z, show 1 + 3 * p2.toInt.toNat + ((1 : Int) + 1).toNat = 3 + 3 * p2.toInt.toNat by omega, rs.2, show 1 + 2 * p2.toInt.toNat + (1 : Int).toNat = 2 + 2 * p2.toInt.toNat by omega]
      · rw [if_neg (fun z => q z.1), if_neg (fun z => q z.1)]
    · have := gi_nle d
      unfold gb_lnv
      by_cases q : p2.toInt = -1
      · rw [if_pos q, if_neg (by omega)]
      · rw [if_neg q, if_neg (by omega)]
theorem m_seen {n : Nat} {f : gb_F} {w : Int64} {p1 p2 p3 : Int32} (hM : gb_TM f) : gb_hm (ms_seen n f w p1 p2 p3) (fun _ _ r => r = gb_Aseen f p1 p2 p3) := by
  have c0 : (0 : Int32).toInt = 0 := by decide
  have cn : (1 : Int32).toInt = 1 := by decide
  refine mx_dawn hM rfl (fun g => ?_) (fun f2 g hM2 hm => ?_)
  · unfold gb_Aseen
    rw [if_neg g]
  · have ab : gb_Aseen f p1 p2 p3 = gb_lnv (gb_Rs 3 f p1) 2 1 p2.toInt p3.toInt := by
      unfold gb_Aseen
      rw [if_pos g]
    rw [ab]
    have i0 : gb_iv 0 1000 (gb_Rs 3 f p1 0) := gb_iw ((rs_dawn hM g).2.2.2 rfl) (by decide)
    have i1 := i0.1
    have i2 := i0.2
    refine hm_if (fun c => hm_if (fun d => ?_) (fun d => hm_some ?_)) (fun c => ?_)
    · refine hm_ck (fun _ _ => hm_lt (fun x ex => hm_some ?_))
      rw [ex, mx_ndawn hm]
      unfold gb_lnv
      rw [if_pos (gi_m1.mp c), if_pos (by rw [d]; exact c0)]
    · unfold gb_lnv
      rw [if_pos (gi_m1.mp c), if_neg (fun q => d (gi_eq q c0))]
    · refine hm_ck (fun _ _ => hm_lt (fun x ex => ?_))
      rw [mx_ndawn hm] at ex
      subst ex
      refine hm_bd (mh_below i0) (fun f4 w4 r4 k4 => ?_)
      obtain ⟨rfl, rfl, k4⟩ := k4
      refine hm_if (fun z => hm_some ?_) (fun z => ?_)
      · rcases k4 with q | ⟨p, q, -⟩
        · have nn := in_nk q.2
          unfold gb_lnv
          rw [if_neg (fun q => c (gi_m1.mpr q)), if_neg (fun y => nn y.1)]
        · rw [z] at q
          exact absurd q (by decide)
      · rcases k4 with q | ⟨p, q1, q2⟩
        · exact absurd q.1 z
        · have hin := in_lk q2
          have hin2 := hin.2
          refine hm_bd mh_isIn (fun f5 w5 r5 k5 => ?_)
          obtain ⟨rfl, rfl, k5⟩ := k5
          rw [c0, cn] at k5
          refine hm_if (fun z5 => hm_some ?_) (fun z5 => ?_)
          · have nn : ¬ (0 ≤ p3.toInt ∧ p3.toInt ≤ 1) := by
              rcases k5 with y | y
              · rw [z5] at y
                exact absurd y.1 (by decide)
              · omega
            unfold gb_lnv
            rw [if_neg (fun q => c (gi_m1.mpr q)), if_neg (fun y => nn y.2)]
          · have yy : 0 ≤ p3.toInt ∧ p3.toInt ≤ 1 := by
              rcases k5 with y | y
              · exact y.2
              · exact absurd y.1 z5
            have hin1 := hin.1
            refine hm_bd (mx_seenOf hm (k := p2.toInt.toNat) (j := p3.toInt.toNat) (by omega) (by omega) (by omega) (by omega)) (fun f6 w6 r6 k6 => hm_some ?_)
            rw [k6.2.2]
            unfold gb_lnv
            rw [if_neg (fun q => c (gi_m1.mpr q)), if_pos ⟨hin, yy⟩]
theorem e_seen {σ σ2 : gb_S} {f f2 : gb_F} {w w2 : Int64} {p1 p2 p3 ra qa : Int32} (_ : gb_TC σ) (hM : gb_TM f) (h : gb_R σ f) (ec : cs_Face_seen gb_N σ p1 p2 p3 = some (σ2, ra)) (em : ms_seen gb_N f w p1 p2 p3 = some (f2, w2, qa)) : ra = qa := (c_seen h hM _ _ ec).trans (m_seen hM _ _ _ em).symm
/-! pays, alike, lame: both sides -/
def gb_pst (kd a b x s : Int32) : Int32 := if kd = 0 then s + a * x else if kd = 1 then (if x ≤ a then s + 0 else s + b) else if kd = 2 then (if a ≤ x then s + 0 else s + b) else if kd = 3 then (if x - x / 2 * 2 = 1 then s + a else s + 0) else (if s ≤ a then s else a)
def gb_ps (R : Nat → Int32) (x : Int32) : Nat → Int32
  | 0 => 0
  | k + 1 => gb_pst (R (1 + 3 * k)) (R (2 + 3 * k)) (R (3 + 3 * k)) x (gb_ps R x k)
def gb_raL (R : Nat → Int32) : Prop := ∀ j, j < 25 → gb_iv (gt_R 2 j).1 (gt_R 2 j).2 (R j)
theorem rL_k {R : Nat → Int32} {k : Nat} (h : gb_raL R) (hk : k < 8) : gb_iv 0 4 (R (1 + 3 * k)) := by
  have := h (1 + 3 * k) (by omega)
  have e := gt_R2t (c := k) (i := 0) (by decide)
  rw [if_pos rfl, Nat.add_zero] at e
  rw [e] at this
  exact this
theorem rL_0 {R : Nat → Int32} (h : gb_raL R) : gb_iv 0 8 (R 0) := gb_iw (h 0 (by decide)) (by decide)
theorem rL_of {f : gb_F} {p1 : Int32} (hM : gb_TM f) (h : gb_i0 p1 (f 1 2)) : gb_raL (gb_Rs 2 f p1) := fun j hj => by
  have i := (hl_0 hM.2 (s := 2) (by decide)).2
  have g := hM.2 (gb_pl 2 p1.toInt.toNat + j)
  rw [(gt_1R (s := 2) (k := p1.toInt.toNat) (by decide) (by have := h.1; have := h.2; omega) (show j < gb_sz 2 from hj)).1] at g
  exact g
theorem gi_1 {x : Int32} {k : Nat} (h : x.toInt = k) (hk : k ≤ 100000) {y : Int32} (e : y = x + 1) : y.toInt = ((k + 1 : Nat) : Int) := by
  rw [e]
  have c1 : (1 : Int32).toInt = 1 := by decide
  rw [gb_tadd (by omega) (by omega), c1, h]
  omega
theorem ch_payFor4 {n : Nat} {σ : gb_S} {k0 : Nat} {R : Nat → Int32} {x : Int32} {c : Nat} (hS : gb_RS 2 (σ.1 (k0 + 1)) R) (hL : gb_raL R) (hc : (R 0).toInt = c) (hc8 : c ≤ 8) : ∀ (mm : Nat) (v2 v3 : Int32) (k : Nat), v3.toInt = k → k ≤ c → v2 = gb_ps R x k → gb_hc (cs_Law_payFor_L_4 n mm σ k0 x v2 v3) (fun s r => s = σ ∧ r = gb_ps R x c) := by
  have rd : ∀ k j, k < c → j < 3 → σ.1 (k0 + 1) (1 + 3 * k + j) = R (1 + 3 * k + j) := fun k j hk hj => by
    have := hS.2.2.1 (Or.inr rfl) (3 * k + j) (by have e : gb_wid 2 = 3 := rfl; rw [e]; omega)
    rw [show 1 + 3 * k + j = 1 + (3 * k + j) by omega]
    exact this
  intro mm
  induction mm with
  | zero =>
    intros
    exact hc_none
  | succ mm ih =>
    intro v2 v3 k e3 hk e2
    rw [cs_Law_payFor_L_4]
    refine hc_kk (fun _ => hc_cd ch_sizeL (fun s r h => ?_))
    obtain ⟨rfl, rfl⟩ := h
    rw [hS.1]
    refine hc_if (fun d => hc_some ⟨rfl, ?_⟩) (fun d => ?_)
    · have := gi_le d
      have hkc : k = c := by omega
      rw [e2, hkc]
    · have hkc : k < c := by
        have := gi_nle d
        omega
      refine hc_cd (ch_cellL e3 (by omega) (j := 1) (by decide) (by decide)) (fun s r h => ?_)
      obtain ⟨rfl, ra⟩ := h
      refine hc_cd (ch_cellL e3 (by omega) (j := 2) (by decide) (by decide)) (fun s r2 h => ?_)
      obtain ⟨rfl, rb⟩ := h
      refine hc_cd (P := fun s2 r3 => s2 = s ∧ r3 = s.1 (k0 + 1) (1 + 3 * k + 0)) ?_ (fun s2 r3 h => ?_)
      · unfold cs_Lines_kind_L
        exact hc_kk (fun _ => hc_cd (ch_cellL e3 (by omega) (j := 0) (by decide) (by decide)) (fun s2 r2 h => hc_some h))
      · obtain ⟨rfl, rk⟩ := h
        rw [rd k 1 hkc (by decide)] at ra
        rw [rd k 2 hkc (by decide)] at rb
        rw [rd k 0 hkc (by decide), Nat.add_zero] at rk
        rw [show 1 + 3 * k + 1 = 2 + 3 * k by omega] at ra
        rw [show 1 + 3 * k + 2 = 3 + 3 * k by omega] at rb
        subst ra
        subst rb
        subst rk
        have ik := rL_k hL (k := k) (by omega)
        have fin : ∀ (y z : Int32), y = gb_pst (R (1 + 3 * k)) (R (2 + 3 * k)) (R (3 + 3 * k)) x v2 → z = v3 + 1 → gb_hc (cs_Law_payFor_L_4 n mm s2 k0 x y z) (fun s r => s = s2 ∧ r = gb_ps R x c) := fun y z hy hz => by
          refine ih y z (k + 1) (gi_1 e3 (by omega) hz) (by omega) ?_
          rw [hy, e2]
          rfl
        refine hc_if (fun c0 => hc_lt (fun y ey => hc_lt (fun z ez => fin y z (by unfold gb_pst; rw [if_pos c0]; exact ey) ez))) (fun c0 => ?_)
        refine hc_if (fun c1 => hc_if (fun d1 => hc_lt (fun y ey => hc_lt (fun z ez => fin y z (by unfold gb_pst; rw [if_neg c0, if_pos c1, if_pos d1]; exact ey) ez))) (fun d1 => hc_lt (fun y ey => hc_lt (fun z ez => fin y z (by unfold gb_pst; rw [if_neg c0, if_pos c1, if_neg d1]; exact ey) ez)))) (fun c1 => ?_)
        refine hc_if (fun c2 => hc_if (fun d1 => hc_lt (fun y ey => hc_lt (fun z ez => fin y z (by unfold gb_pst; rw [if_neg c0, if_neg c1, if_pos c2, if_pos d1]; exact ey) ez))) (fun d1 => hc_lt (fun y ey => hc_lt (fun z ez => fin y z (by unfold gb_pst; rw [if_neg c0, if_neg c1, if_pos c2, if_neg d1]; exact ey) ez)))) (fun c2 => ?_)
        refine hc_if (fun c3 => hc_lt (fun q eq => hc_if (fun d1 => hc_lt (fun y ey => hc_lt (fun z ez => fin y z (by unfold gb_pst; rw [if_neg c0, if_neg c1, if_neg c2, if_pos c3, if_pos (by rw [← eq]; exact d1)]; exact ey) ez))) (fun d1 => hc_lt (fun y ey => hc_lt (fun z ez => fin y z (by unfold gb_pst; rw [if_neg c0, if_neg c1, if_neg c2, if_pos c3, if_neg (by rw [← eq]; exact d1)]; exact ey) ez))))) (fun c3 => ?_)
        refine hc_if (fun c4 => hc_lt (fun y ey => hc_lt (fun z ez => fin y z ?_ ez))) (fun c4 => ?_)
        · unfold gb_pst
          rw [if_neg c0, if_neg c1, if_neg c2, if_neg c3, ey]
          by_cases q : R (2 + 3 * k) < v2
          · rw [if_pos q, if_neg (fun w => by have := gi_lt q; have := gi_le w; omega)]
          · rw [if_neg q, if_pos (Int32.le_iff_toInt_le.mpr (gi_nlt q))]
        · rcases gb_or5 ik with q | q | q | q | q
          · exact absurd q c0
          · exact absurd q c1
          · exact absurd q c2
          · exact absurd q c3
          · exact absurd q c4
theorem mh_paysBy4 {n : Nat} {f : gb_F} {R : Nat → Int32} {x : Int32} {c : Nat} (hm : gb_mlaw R f) (hc : (R 0).toInt = c) (hc8 : c ≤ 8) : ∀ (mm : Nat) (w : Int64) (v2 v3 : Int32) (k : Nat), v3.toInt = k → k ≤ c → v2 = gb_ps R x k → gb_hm (ms_paysBy_4 n mm f w x v2 v3) (fun f2 w2 r => f2 = f ∧ w2 = w ∧ r = gb_ps R x c) := by
  intro mm
  induction mm with
  | zero =>
    intros
    exact hm_none
  | succ mm ih =>
    intro w v2 v3 k e3 hk e2
    rw [ms_paysBy_4, mx_nlaw hm]
    refine hm_ck (fun _ _ => hm_lt (fun y0 ey0 => ?_))
    subst ey0
    refine hm_if (fun d => hm_some ⟨rfl, rfl, ?_⟩) (fun d => ?_)
    · have := gi_le d
      have hkc : k = c := by omega
      rw [e2, hkc]
    · have hkc : k < c := by
        have := gi_nle d
        omega
      refine hm_bd (mx_termOf hm e3 (by omega) (j := 1) (by decide) (by decide)) (fun f1 w1 r h => ?_)
      obtain ⟨rfl, rfl, ra⟩ := h
      refine hm_bd (mx_termOf hm e3 (by omega) (j := 2) (by decide) (by decide)) (fun f2 w2 r2 h => ?_)
      obtain ⟨rfl, rfl, rb⟩ := h
      refine hm_bd (mx_termOf hm e3 (by omega) (j := 0) (by decide) (by decide)) (fun f3 w3 r3 h => ?_)
      obtain ⟨rfl, rfl, rk⟩ := h
      rw [Nat.add_zero] at rk
      rw [show 1 + 3 * k + 1 = 2 + 3 * k by omega] at ra
      rw [show 1 + 3 * k + 2 = 3 + 3 * k by omega] at rb
      subst ra
      subst rb
      subst rk
      have fin : ∀ (y z : Int32), y = gb_pst (R (1 + 3 * k)) (R (2 + 3 * k)) (R (3 + 3 * k)) x v2 → z = v3 + 1 → gb_hm (ms_paysBy_4 n mm f3 w3 x y z) (fun f2 w2 r => f2 = f3 ∧ w2 = w3 ∧ r = gb_ps R x c) := fun y z hy hz => by
        refine ih w3 y z (k + 1) (gi_1 e3 (by omega) hz) (by omega) ?_
        rw [hy, e2]
        rfl
      refine hm_if (fun c0 => hm_lt (fun y ey => hm_lt (fun z ez => fin y z (by unfold gb_pst; rw [if_pos c0]; exact ey) ez))) (fun c0 => ?_)
      refine hm_if (fun c1 => hm_if (fun d1 => hm_lt (fun y ey => hm_lt (fun z ez => fin y z (by unfold gb_pst; rw [if_neg c0, if_pos c1, if_pos d1]; exact ey) ez))) (fun d1 => hm_lt (fun y ey => hm_lt (fun z ez => fin y z (by unfold gb_pst; rw [if_neg c0, if_pos c1, if_neg d1]; exact ey) ez)))) (fun c1 => ?_)
      refine hm_if (fun c2 => hm_if (fun d1 => hm_lt (fun y ey => hm_lt (fun z ez => fin y z (by unfold gb_pst; rw [if_neg c0, if_neg c1, if_pos c2, if_pos d1]; exact ey) ez))) (fun d1 => hm_lt (fun y ey => hm_lt (fun z ez => fin y z (by unfold gb_pst; rw [if_neg c0, if_neg c1, if_pos c2, if_neg d1]; exact ey) ez)))) (fun c2 => ?_)
      refine hm_if (fun c3 => hm_lt (fun q eq => hm_if (fun d1 => hm_lt (fun y ey => hm_lt (fun z ez => fin y z (by unfold gb_pst; rw [if_neg c0, if_neg c1, if_neg c2, if_pos c3, if_pos (by rw [← eq]; exact d1)]; exact ey) ez))) (fun d1 => hm_lt (fun y ey => hm_lt (fun z ez => fin y z (by unfold gb_pst; rw [if_neg c0, if_neg c1, if_neg c2, if_pos c3, if_neg (by rw [← eq]; exact d1)]; exact ey) ez))))) (fun c3 => ?_)
      refine hm_if (fun q => hm_lt (fun z ez => fin _ z (by unfold gb_pst; rw [if_neg c0, if_neg c1, if_neg c2, if_neg c3, if_pos q]) ez)) (fun q => hm_lt (fun z ez => fin _ z (by unfold gb_pst; rw [if_neg c0, if_neg c1, if_neg c2, if_neg c3, if_neg q]) ez))
def gb_payL (R : Nat → Int32) (x : Int32) : Int32 := gb_ps R x (R 0).toInt.toNat
theorem ch_payFor {n : Nat} {σ : gb_S} {k0 : Nat} {R : Nat → Int32} {x : Int32} (hS : gb_RS 2 (σ.1 (k0 + 1)) R) (hL : gb_raL R) : gb_hc (cs_Law_payFor_L n σ k0 x) (fun s r => s = σ ∧ r = gb_payL R x) := by
  unfold cs_Law_payFor_L
  have i := rL_0 hL
  have i1 := i.1
  have i2 := i.2
  exact hc_kk (fun _ => ch_payFor4 hS hL (c := (R 0).toInt.toNat) (by omega) (by omega) n 0 0 0 (by decide) (Nat.zero_le _) rfl)
theorem mh_paysBy {n : Nat} {f : gb_F} {w : Int64} {R : Nat → Int32} {x : Int32} (hm : gb_mlaw R f) (hL : gb_raL R) : gb_hm (ms_paysBy n f w x) (fun f2 w2 r => f2 = f ∧ w2 = w ∧ r = gb_payL R x) := by
  unfold ms_paysBy
  have i := rL_0 hL
  have i1 := i.1
  have i2 := i.2
  exact mh_paysBy4 hm (c := (R 0).toInt.toNat) (by omega) (by omega) n w 0 0 0 (by decide) (Nat.zero_le _) rfl
def gb_Apays (f : gb_F) (p1 p2 : Int32) : Int32 := if gb_i0 p1 (f 1 2) ∧ (0 ≤ p2.toInt ∧ p2.toInt ≤ 9999) then gb_payL (gb_Rs 2 f p1) p2 else -1
theorem c_pays {n : Nat} {σ : gb_S} {f : gb_F} {p1 p2 : Int32} (h : gb_R σ f) (hM : gb_TM f) : gb_hc (cs_Face_pays n σ p1 p2) (fun _ r => r = gb_Apays f p1 p2) := by
  unfold cs_Face_pays
  have c0 : (0 : Int32).toInt = 0 := by decide
  have c9 : (9999 : Int32).toInt = 9999 := by decide
  refine hc_cd (cx_law h hM) (fun s r g => ?_)
  obtain ⟨rfl, g⟩ := g
  rcases g with ⟨g1, g2⟩ | ⟨g1, g2, g3, g4⟩
  · rw [if_pos g1]
    refine hc_some ?_
    unfold gb_Apays
    rw [if_neg (fun z => g2 z.1)]
  · rw [if_neg g1]
    refine hc_kk (fun _ => hc_if (fun c => hc_some ?_) (fun c => hc_if (fun d => ?_) (fun d => hc_some ?_)))
    · have := gi_lt c
      unfold gb_Apays
      rw [if_neg (by omega)]
    · have a1 := gi_nlt c
      have a2 := gi_le d
      refine hc_cd (ch_payFor g3 (rL_of hM g2)) (fun s2 r2 k => hc_some ?_)
      rw [k.2]
      unfold gb_Apays
      rw [if_pos ⟨g2, by omega, by omega⟩]
    · have := gi_nle d
      unfold gb_Apays
      rw [if_neg (by omega)]
theorem m_pays {n : Nat} {f : gb_F} {w : Int64} {p1 p2 : Int32} (hM : gb_TM f) : gb_hm (ms_pays n f w p1 p2) (fun _ _ r => r = gb_Apays f p1 p2) := by
  unfold ms_pays
  have c0 : (0 : Int32).toInt = 0 := by decide
  have c9 : (9999 : Int32).toInt = 9999 := by decide
  refine hm_bd (mh_isOf hM (s := 2) (by decide) (by decide)) (fun g u r hg => ?_)
  obtain ⟨rfl, rfl, hg⟩ := hg
  refine hm_if (fun c => hm_some ?_) (fun c => ?_)
  · rcases hg with z | ⟨m, z, -⟩
    · unfold gb_Apays
      rw [if_neg (fun y => in_Nk z.2 y.1)]
    · rw [c] at z
      exact absurd z (by decide)
  · rcases hg with z | ⟨m, z1, z2, z3⟩
    · exact absurd z.1 c
    · refine hm_bd mh_isIn (fun g2 u2 r2 k => ?_)
      obtain ⟨rfl, rfl, k⟩ := k
      rw [c0, c9] at k
      refine hm_if (fun d => hm_some ?_) (fun d => ?_)
      · have nn : ¬ (0 ≤ p2.toInt ∧ p2.toInt ≤ 9999) := by
          rcases k with y | y
          · rw [d] at y
            exact absurd y.1 (by decide)
          · omega
        unfold gb_Apays
        rw [if_neg (fun y => nn y.2)]
      · have yy : 0 ≤ p2.toInt ∧ p2.toInt ≤ 9999 := by
          rcases k with y | y
          · exact y.2
          · exact absurd y.1 d
        refine hm_bd (hm_of (mt_placeOfE (s := 2) (by decide) (by decide) z2.1 (by omega))) (fun g3 u3 r3 hh => hm_lt (fun y ey => ?_))
        obtain ⟨e1, e2, e3⟩ := hh
        subst e1
        subst e2
        have hml : gb_mlaw (gb_Rs 2 g3 p1) y := by
          refine ⟨m, z3, ?_, fun j => ?_⟩
          · unfold gb_mb
            rw [ey, gb_us, pk_us]
            exact e3
          · rw [ey, gb_un (by decide), Rs_E z2]
        refine hm_bd (mh_paysBy hml (rL_of hM (in_Lk z2))) (fun g4 u4 r4 k4 => hm_some ?_)
        rw [k4.2.2]
        unfold gb_Apays
        rw [if_pos ⟨in_Lk z2, yy⟩]
theorem e_pays {σ σ2 : gb_S} {f f2 : gb_F} {w w2 : Int64} {p1 p2 ra qa : Int32} (_ : gb_TC σ) (hM : gb_TM f) (h : gb_R σ f) (ec : cs_Face_pays gb_N σ p1 p2 = some (σ2, ra)) (em : ms_pays gb_N f w p1 p2 = some (f2, w2, qa)) : ra = qa := (c_pays h hM _ _ ec).trans (m_pays hM _ _ _ em).symm
/-! alike -/
def gb_al (R : Nat → Int32) (a b : Nat) : Nat → Int32
  | 0 => 0
  | k + 1 => if gb_fm R a k = gb_fm R b k then gb_al R a b k ||| gb_bit (nI k) else gb_al R a b k
theorem gi_nI {x : Int32} {k : Nat} (h : x.toInt = k) (hk : k ≤ 100000) : x = nI k := gb_ieq (by rw [h, nI_toInt (by omega)])
theorem ch_alike43 {n : Nat} {σ : gb_S} {k0 a b : Nat} {R : Nat → Int32} {v2 v3 : Int32} (hb : gb_cbx k0 R σ) (hR : gb_rB R) (ea : v2.toInt = a) (ha : a < gb_nG R) (eb : v3.toInt = b) (hb2 : b < gb_nG R) : ∀ (mm : Nat) (v5 v6 : Int32) (k : Nat), v6.toInt = k → k ≤ gb_nP R → v5 = gb_al R a b k → gb_hc (cs_Face_alike_43 n mm σ v2 v3 k0 v5 v6) (fun _ r => r = gb_al R a b (gb_nP R)) := by
  have h5 := (rB_nP hR).2
  have nE := (rB_nP hR).1
  intro mm
  induction mm with
  | zero =>
    intros
    exact hc_none
  | succ mm ih =>
    intro v5 v6 k e6 hk e5
    rw [cs_Face_alike_43]
    refine hc_kk (fun _ => hc_cd ch_paths (fun s r h => ?_))
    obtain ⟨rfl, rfl⟩ := h
    have e0 : s.1 (k0 + 1) 0 = R 0 := hb.1
    rw [e0]
    refine hc_if (fun d => hc_some ?_) (fun d => ?_)
    · have := gi_le d
      rw [e5, show k = gb_nP R by omega]
    · have hkc : k < gb_nP R := by
        have := gi_nle d
        omega
      refine hc_cd (ch_marksFirst hb hR ea ha e6 hkc) (fun s1 r1 h1 => ?_)
      obtain ⟨rfl, rfl⟩ := h1
      refine hc_cd (ch_marksFirst hb hR eb hb2 e6 hkc) (fun s2 r2 h2 => ?_)
      obtain ⟨rfl, rfl⟩ := h2
      refine hc_if (fun q => hc_lt (fun y ey => hc_lt (fun z ez => ih y z (k + 1) (gi_1 e6 (by omega) ez) (by omega) ?_))) (fun q => hc_lt (fun z ez => ih v5 z (k + 1) (gi_1 e6 (by omega) ez) (by omega) ?_))
      · show y = if gb_fm R a k = gb_fm R b k then gb_al R a b k ||| gb_bit (nI k) else gb_al R a b k
        rw [if_pos q, ey, e5, ← gi_nI e6 (by omega)]
        rfl
      · show v5 = if gb_fm R a k = gb_fm R b k then gb_al R a b k ||| gb_bit (nI k) else gb_al R a b k
        rw [if_neg q, e5]
theorem mh_alike37 {n m a b : Nat} {f : gb_F} {R : Nat → Int32} {v2 v3 : Int32} (hb : gb_mbx m R f) (ea : v2.toInt = a) (ha : a < gb_nG R) (eb : v3.toInt = b) (hb2 : b < gb_nG R) : ∀ (mm : Nat) (w : Int64) (v4 v5 : Int32) (k : Nat), v5.toInt = k → k ≤ gb_nP R → v4 = gb_al R a b k → gb_hm (ms_alike_37 n mm f w v2 v3 v4 v5) (fun _ _ r => r = gb_al R a b (gb_nP R)) := by
  have hR := mbx_rB hb
  have h5 := (rB_nP hR).2
  have h8 := (rB_nG hR).2
  have nE := (rB_nP hR).1
  intro mm
  induction mm with
  | zero =>
    intros
    exact hm_none
  | succ mm ih =>
    intro w v4 v5 k e5 hk e4
    rw [ms_alike_37]
    refine hm_bd (mx_paths hb) (fun f1 w1 r h => ?_)
    obtain ⟨rfl, rfl, rfl⟩ := h
    refine hm_if (fun d => hm_some ?_) (fun d => ?_)
    · have := gi_le d
      rw [e4, show k = gb_nP R by omega]
    · have hkc : k < gb_nP R := by
        have := gi_nle d
        omega
      refine hm_bd (mx_firstMarks hb ea (by omega) e5 (by omega)) (fun f2 w2 r1 h1 => ?_)
      obtain ⟨rfl, rfl, rfl⟩ := h1
      refine hm_bd (mx_firstMarks hb eb (by omega) e5 (by omega)) (fun f3 w3 r2 h2 => ?_)
      obtain ⟨rfl, rfl, rfl⟩ := h2
      refine hm_if (fun q => hm_lt (fun y ey => hm_lt (fun z ez => ih w3 y z (k + 1) (gi_1 e5 (by omega) ez) (by omega) ?_))) (fun q => hm_lt (fun y ey => hm_lt (fun z ez => ih w3 y z (k + 1) (gi_1 e5 (by omega) ez) (by omega) ?_)))
      · show y = if gb_fm R a k = gb_fm R b k then gb_al R a b k ||| gb_bit (nI k) else gb_al R a b k
        rw [if_pos q, ey, e4, ← gi_nI e5 (by omega)]
        rfl
      · show y = if gb_fm R a k = gb_fm R b k then gb_al R a b k ||| gb_bit (nI k) else gb_al R a b k
        rw [if_neg q, ey, e4, Int32.or_zero]
def gb_Aalike (f : gb_F) (p1 p2 p3 : Int32) : Int32 := if gb_i0 p1 (f 1 0) then (if ¬ p2 = p3 ∧ gb_i0 p2 (gb_Rs 0 f p1 1) ∧ gb_i0 p3 (gb_Rs 0 f p1 1) then gb_al (gb_Rs 0 f p1) p2.toInt.toNat p3.toInt.toNat (gb_nP (gb_Rs 0 f p1)) else -1) else -1
theorem c_alike {n : Nat} {σ : gb_S} {f : gb_F} {p1 p2 p3 : Int32} (h : gb_R σ f) (hM : gb_TM f) : gb_hc (cs_Face_alike n σ p1 p2 p3) (fun _ r => r = gb_Aalike f p1 p2 p3) := by
  unfold cs_Face_alike
  refine hc_cd (cx_border h hM) (fun s r g => ?_)
  obtain ⟨rfl, g⟩ := g
  rcases g with ⟨g1, g2⟩ | ⟨g1, g2, g3, g4⟩
  · rw [if_pos g1]
    refine hc_some ?_
    unfold gb_Aalike
    rw [if_neg g2]
  · rw [if_neg g1]
    refine hc_kk (fun _ => hc_if (fun c => hc_some ?_) (fun c => hc_cd (cbx_hasG g3) (fun s2 r2 k => ?_)))
    · unfold gb_Aalike
      rw [if_pos g2, if_neg (fun z => z.1 c)]
    · obtain ⟨rfl, k⟩ := k
      refine hc_if (fun d => hc_some ?_) (fun d => hc_cd (cbx_hasG g3) (fun s3 r3 k' => ?_))
      · unfold gb_Aalike
        rw [if_pos g2, if_neg (fun z => (yn_0 k d) z.2.1)]
      · obtain ⟨rfl, k'⟩ := k'
        obtain ⟨k1, k2, k3⟩ := yn_1 k d
        refine hc_if (fun e => hc_some ?_) (fun e => ?_)
        · unfold gb_Aalike
          rw [if_pos g2, if_neg (fun z => (yn_0 k' e) z.2.2)]
        · obtain ⟨l1, l2, l3⟩ := yn_1 k' e
          refine hc_mono (ch_alike43 g3 g4 k2 k3 l2 l3 n 0 0 0 (by decide) (Nat.zero_le _) rfl) (fun _ r hr => ?_)
          rw [hr]
          unfold gb_Aalike
          rw [if_pos g2, if_pos ⟨c, k1, l1⟩]
theorem m_alike {n : Nat} {f : gb_F} {w : Int64} {p1 p2 p3 : Int32} (hM : gb_TM f) : gb_hm (ms_alike n f w p1 p2 p3) (fun _ _ r => r = gb_Aalike f p1 p2 p3) := by
  unfold ms_alike
  refine hm_bd (mx_isBorder hM) (fun f1 w1 r g => ?_)
  obtain ⟨-, -, hM1, g⟩ := g
  refine hm_if (fun c => hm_some ?_) (fun c => ?_)
  · unfold gb_Aalike
    rw [if_neg (yn_0 g c)]
  · obtain ⟨g2, m, g3⟩ := yn_1 g c
    refine hm_bd (mbx_hasG g3) (fun f2 w2 r2 k => ?_)
    obtain ⟨rfl, rfl, k⟩ := k
    refine hm_if (fun d => hm_some ?_) (fun d => ?_)
    · unfold gb_Aalike
      rw [if_pos g2, if_neg (fun z => (yn_0 k d) z.2.1)]
    · obtain ⟨k1, k2, k3⟩ := yn_1 k d
      refine hm_bd (mbx_hasG g3) (fun f3 w3 r3 k' => ?_)
      obtain ⟨rfl, rfl, k'⟩ := k'
      refine hm_if (fun e => hm_some ?_) (fun e => ?_)
      · unfold gb_Aalike
        rw [if_pos g2, if_neg (fun z => (yn_0 k' e) z.2.2)]
      · obtain ⟨l1, l2, l3⟩ := yn_1 k' e
        refine hm_if (fun c => hm_some ?_) (fun c => ?_)
        · unfold gb_Aalike
          rw [if_pos g2, if_neg (fun z => z.1 c)]
        · refine hm_mono (mh_alike37 g3 k2 k3 l2 l3 n w3 0 0 0 (by decide) (Nat.zero_le _) rfl) (fun _ _ r hr => ?_)
          rw [hr]
          unfold gb_Aalike
          rw [if_pos g2, if_pos ⟨c, k1, l1⟩]
theorem e_alike {σ σ2 : gb_S} {f f2 : gb_F} {w w2 : Int64} {p1 p2 p3 ra qa : Int32} (_ : gb_TC σ) (hM : gb_TM f) (h : gb_R σ f) (ec : cs_Face_alike gb_N σ p1 p2 p3 = some (σ2, ra)) (em : ms_alike gb_N f w p1 p2 p3 = some (f2, w2, qa)) : ra = qa := (c_alike h hM _ _ ec).trans (m_alike hM _ _ _ em).symm
