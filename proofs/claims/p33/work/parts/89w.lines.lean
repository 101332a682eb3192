/-! border, deed, term, seen: both sides -/
theorem gi_dv {p : Int32} (h : 0 ≤ p.toInt) : (p / 10).toInt = p.toInt / 10 ∧ (p - p / 10 * 10).toInt = p.toInt % 10 := by
  have c10 : (10 : Int32).toInt = 10 := by decide
  have ip := gb_it p
  have i : gb_iv 0 2147483647 p := ⟨h, ip.2⟩
  have d := gb_tdiv i (gb_ic c10) (by decide)
  rw [c10, Int.tdiv_eq_ediv_of_nonneg h] at d
  have i2 := ip.2
  have m1 : (p / 10 * 10).toInt = p.toInt / 10 * 10 := by
    rw [gb_tmul (by rw [d, c10]; omega) (by rw [d, c10]; omega), d, c10]
  refine ⟨d, ?_⟩
  rw [gb_tsub (by rw [m1]; omega) (by rw [m1]; omega), m1]
  omega
theorem gi_m1 {p : Int32} : p = -1 ↔ p.toInt = -1 := ⟨fun h => by rw [h]; decide, fun h => gi_eq h (by decide)⟩
def gb_bn (R : Nat → Int32) (x : Int) : Int32 := if 0 ≤ x ∧ x ≤ 2 then R x.toNat else if 10 ≤ x ∧ x ≤ 39 then (if x % 10 < (R 0).toInt then R (3 + 3 * (x % 10).toNat + (x / 10 - 1).toNat) else -2) else if 40 ≤ x ∧ x ≤ 89 then (if x % 10 < (R 1).toInt then R (18 + 5 * (x % 10).toNat + (x / 10 - 4).toNat) else -2) else -2
def gb_Abord (f : gb_F) (p1 p2 : Int32) : Int32 := if gb_i0 p1 (f 1 0) then gb_bn (gb_Rs 0 f p1) p2.toInt else -2
theorem c_told {n : Nat} {σ : gb_S} {k0 : Nat} {R : Nat → Int32} {x : Int32} (hb : gb_cbx k0 R σ) (hR : gb_rB R) (hx : ¬ (0 ≤ x.toInt ∧ x.toInt ≤ 2)) : gb_hc (cs_Border_numberTold_B n σ k0 x) (fun s r => s = σ ∧ r = gb_bn R x.toInt) := by
  unfold cs_Border_numberTold_B
  have c1 : (1 : Int32).toInt = 1 := by decide
  have c3 : (3 : Int32).toInt = 3 := by decide
  have c5 : (5 : Int32).toInt = 5 := by decide
  have c10 : (10 : Int32).toInt = 10 := by decide
  have c18 : (18 : Int32).toInt = 18 := by decide
  have c89 : (89 : Int32).toInt = 89 := by decide
  have h5 := (rB_nP hR).2
  have h8 := (rB_nG hR).2
  have nE := (rB_nP hR).1
  have gE := (rB_nG hR).1
  refine hc_kk (fun _ => hc_if (fun c => hc_some ⟨rfl, ?_⟩) (fun c => hc_if (fun d => ?_) (fun d => hc_some ⟨rfl, ?_⟩)))
  · have := gi_lt c
    unfold gb_bn
    rw [if_neg hx, if_neg (by omega), if_neg (by omega)]
  · have x1 := gi_nlt c
    have x2 := gi_le d
    obtain ⟨d1, d2⟩ := gi_dv (p := x) (by omega)
    refine hc_lt (fun t et => hc_lt (fun u eu => ?_))
    rw [← et] at d1
    rw [← eu] at d2
    refine hc_if (fun g => hc_lt (fun v ev => ?_)) (fun g => ?_)
    · have g1 := gi_lt g
      have v1 : (t - 1).toInt = t.toInt - 1 := by rw [gb_tsub (by omega) (by omega), c1]
      have v2 : v.toInt = (((x.toInt / 10 - 4).toNat : Nat) : Int) := by
        rw [ev, gb_tsub (by omega) (by omega), v1, c3]
        omega
      refine hc_cd (cbx_hasG hb) (fun s r h => ?_)
      obtain ⟨rfl, h⟩ := h
      refine hc_if (fun z => hc_some ⟨rfl, ?_⟩) (fun z => ?_)
      · have nn := yn_0 h z
        unfold gb_bn
        rw [if_neg hx, if_neg (by omega), if_pos (by omega), if_neg (fun q => nn ⟨by omega, by omega⟩)]
      · obtain ⟨y1, y2, y3⟩ := yn_1 h z
        rw [gi_tn (gi_pl (gi_18 y2 (by omega)) v2 (by omega) (by omega))]
        refine hc_ck (fun _ _ => hc_lt (fun q eq => hc_some ⟨rfl, ?_⟩))
        rw [eq, (hb.2.1 rfl).2.2.2 u.toInt.toNat (x.toInt / 10 - 4).toNat y3 (by omega)]
        unfold gb_bn
        have := y1.2
        rw [if_neg hx, if_neg (by omega), if_pos (by omega), if_pos (by omega), d2]
    · have g1 := gi_nlt g
      refine hc_cd (cbx_has hb) (fun s r h => ?_)
      obtain ⟨rfl, h⟩ := h
      refine hc_if (fun z => hc_some ⟨rfl, ?_⟩) (fun z => ?_)
      · have nn := yn_0 h z
        unfold gb_bn
        rw [if_neg hx, if_pos (by omega), if_neg (fun q => nn ⟨by omega, by omega⟩)]
      · obtain ⟨y1, y2, y3⟩ := yn_1 h z
        have w1 : ((3 : Int32) + (u * 3) + t).toInt = ((3 + 3 * u.toInt.toNat + (x.toInt / 10).toNat : Nat) : Int) := gi_pl (gi_3p y2 (by omega)) (by omega) (by omega) (by omega)
        have w2 : ((3 : Int32) + (u * 3) + t - 1).toInt = ((3 + 3 * u.toInt.toNat + (x.toInt / 10 - 1).toNat : Nat) : Int) := by
          rw [gb_tsub (by omega) (by omega), w1, c1]
          omega
        rw [gi_tn w2]
        refine hc_ck (fun _ _ => hc_lt (fun q eq => hc_some ⟨rfl, ?_⟩))
        rw [eq, (hb.2.1 rfl).2.2.1 u.toInt.toNat (x.toInt / 10 - 1).toNat y3 (by omega)]
        unfold gb_bn
        have := y1.2
        rw [if_neg hx, if_pos (by omega), if_pos (by omega), d2]
  · have := gi_nle d
    unfold gb_bn
    rw [if_neg hx, if_neg (by omega), if_neg (by omega)]
theorem c_border {n : Nat} {σ : gb_S} {f : gb_F} {p1 p2 : Int32} (h : gb_R σ f) (hM : gb_TM f) : gb_hc (cs_Face_border n σ p1 p2) (fun _ r => r = gb_Abord f p1 p2) := by
  unfold cs_Face_border
  refine hc_cd (cx_border h hM) (fun s r g => ?_)
  obtain ⟨rfl, g⟩ := g
  rcases g with ⟨g1, g2⟩ | ⟨g1, g2, g3, g4⟩
  · rw [if_pos g1]
    refine hc_some ?_
    unfold gb_Abord
    rw [if_neg g2]
  · rw [if_neg g1]
    have sm : ∀ (v : Int32) (k : Nat), v.toInt = k → k ≤ 2 → p2 = v → gb_Abord f p1 p2 = gb_Rs 0 f p1 k := fun v k ek hk e => by
      unfold gb_Abord gb_bn
      rw [e, ek, if_pos g2, if_pos (by omega), Int.toNat_natCast]
    refine hc_kk (fun _ => hc_if (fun c => ?_) (fun c0 => hc_if (fun c => ?_) (fun c1 => hc_if (fun c => ?_) (fun c2 => ?_))))
    · refine hc_cd ch_paths (fun s2 r2 k => hc_some ?_)
      rw [k.2, sm 0 0 (by decide) (by decide) c]
      exact g3.1
    · refine hc_cd ch_geese (fun s2 r2 k => hc_some ?_)
      rw [k.2, sm 1 1 (by decide) (by decide) c]
      exact (g3.2.1 rfl).1
    · refine hc_cd ch_cap (fun s2 r2 k => hc_some ?_)
      rw [k.2, sm 2 2 (by decide) (by decide) c]
      exact (g3.2.1 rfl).2.1
    · have hx : ¬ (0 ≤ p2.toInt ∧ p2.toInt ≤ 2) := fun z => by
        have a0 : p2.toInt ≠ 0 := fun q => c0 (gi_eq q (by decide))
        have a1 : p2.toInt ≠ 1 := fun q => c1 (gi_eq q (by decide))
        have a2 : p2.toInt ≠ 2 := fun q => c2 (gi_eq q (by decide))
        omega
      refine hc_cd (c_told g3 g4 hx) (fun s2 r2 k => hc_some ?_)
      rw [k.2]
      unfold gb_Abord
      rw [if_pos g2]
theorem m_border {n : Nat} {f : gb_F} {w : Int64} {p1 p2 : Int32} (hM : gb_TM f) : gb_hm (ms_border n f w p1 p2) (fun _ _ r => r = gb_Abord f p1 p2) := by
  unfold ms_border
  have c0 : (0 : Int32).toInt = 0 := by decide
  have c1 : (1 : Int32).toInt = 1 := by decide
  have c2 : (2 : Int32).toInt = 2 := by decide
  have c4 : (4 : Int32).toInt = 4 := by decide
  have c10 : (10 : Int32).toInt = 10 := by decide
  have c39 : (39 : Int32).toInt = 39 := by decide
  have c40 : (40 : Int32).toInt = 40 := by decide
  have c89 : (89 : Int32).toInt = 89 := by decide
  refine hm_bd (mx_isBorder hM) (fun f1 w1 r g => ?_)
  obtain ⟨-, -, hM1, g⟩ := g
  refine hm_if (fun c => hm_some ?_) (fun c => ?_)
  · unfold gb_Abord
    rw [if_neg (yn_0 g c)]
  · obtain ⟨g2, m, g3⟩ := yn_1 g c
    have g4 := mbx_rB g3
    have h5 := (rB_nP g4).2
    have h8 := (rB_nG g4).2
    have ab : gb_Abord f p1 p2 = gb_bn (gb_Rs 0 f p1) p2.toInt := by
      unfold gb_Abord
      rw [if_pos g2]
    rw [ab]
    refine hm_bd mh_isIn (fun f2 w2 r2 k => ?_)
    obtain ⟨rfl, rfl, k⟩ := k
    rw [c0, c2] at k
    refine hm_if (fun z => ?_) (fun z => ?_)
    · have hx : ¬ (0 ≤ p2.toInt ∧ p2.toInt ≤ 2) := by
        rcases k with q | q
        · rw [z] at q
          exact absurd q.1 (by decide)
        · omega
      refine hm_lt (fun u eu => hm_bd mh_isIn (fun f3 w3 r3 k3 => ?_))
      obtain ⟨rfl, rfl, k3⟩ := k3
      rw [c10, c39] at k3
      refine hm_if (fun z3 => ?_) (fun z3 => ?_)
      · have n3 : ¬ (10 ≤ p2.toInt ∧ p2.toInt ≤ 39) := by
          rcases k3 with q | q
          · rw [z3] at q
            exact absurd q.1 (by decide)
          · omega
        refine hm_bd mh_isIn (fun f4 w4 r4 k4 => ?_)
        obtain ⟨rfl, rfl, k4⟩ := k4
        rw [c40, c89] at k4
        refine hm_if (fun z4 => hm_some ?_) (fun z4 => ?_)
        · have n4 : ¬ (40 ≤ p2.toInt ∧ p2.toInt ≤ 89) := by
            rcases k4 with q | q
            · rw [z4] at q
              exact absurd q.1 (by decide)
            · omega
          unfold gb_bn
          rw [if_neg hx, if_neg n3, if_neg n4]
        · have y4 : 40 ≤ p2.toInt ∧ p2.toInt ≤ 89 := by
            rcases k4 with q | q
            · exact q.2
            · exact absurd q.1 z4
          obtain ⟨d1, d2⟩ := gi_dv (p := p2) (by omega)
          rw [← eu] at d2
          refine hm_bd (mbx_hasG g3) (fun f5 w5 r5 k5 => ?_)
          obtain ⟨rfl, rfl, k5⟩ := k5
          refine hm_if (fun z5 => hm_some ?_) (fun z5 => hm_lt (fun t et => ?_))
          · have nn := yn_0 k5 z5
            unfold gb_bn
            rw [if_neg hx, if_neg n3, if_pos y4, if_neg (fun q => nn ⟨by omega, by omega⟩)]
          · obtain ⟨y1, y2, y3⟩ := yn_1 k5 z5
            rw [← et] at d1
            have v1 : (t - 4).toInt = (((p2.toInt / 10 - 4).toNat : Nat) : Int) := by
              rw [gb_tsub (by omega) (by omega), d1, c4]
              omega
            refine hm_bd (mx_ofGoose g3 y2 (by omega) v1 (by omega)) (fun f6 w6 r6 k6 => hm_some ?_)
            rw [k6.2.2]
            unfold gb_bn
            have := y1.2
            rw [if_neg hx, if_neg n3, if_pos y4, if_pos (by omega), d2]
      · have y3' : 10 ≤ p2.toInt ∧ p2.toInt ≤ 39 := by
          rcases k3 with q | q
          · exact q.2
          · exact absurd q.1 z3
        obtain ⟨d1, d2⟩ := gi_dv (p := p2) (by omega)
        rw [← eu] at d2
        refine hm_bd (mbx_has g3) (fun f5 w5 r5 k5 => ?_)
        obtain ⟨rfl, rfl, k5⟩ := k5
        refine hm_if (fun z5 => hm_some ?_) (fun z5 => hm_lt (fun t et => ?_))
        · have nn := yn_0 k5 z5
          unfold gb_bn
          rw [if_neg hx, if_pos y3', if_neg (fun q => nn ⟨by omega, by omega⟩)]
        · obtain ⟨y1, y2, y3⟩ := yn_1 k5 z5
          rw [← et] at d1
          have v1 : (t - 1).toInt = (((p2.toInt / 10 - 1).toNat : Nat) : Int) := by
            rw [gb_tsub (by omega) (by omega), d1, c1]
            omega
          refine hm_bd (mx_ofPath g3 y2 (by omega) v1 (by omega)) (fun f6 w6 r6 k6 => hm_some ?_)
          rw [k6.2.2]
          unfold gb_bn
          have := y1.2
          rw [if_neg hx, if_pos y3', if_pos (by omega), d2]
    · have hx : 0 ≤ p2.toInt ∧ p2.toInt ≤ 2 := by
        rcases k with q | q
        · exact q.2
        · exact absurd q.1 z
      refine hm_bd (mx_of g3 (j := p2.toInt.toNat) (by omega) (by omega)) (fun f3 w3 r3 k3 => hm_some ?_)
      rw [k3.2.2]
      unfold gb_bn
      rw [if_pos hx]
theorem e_border {σ σ2 : gb_S} {f f2 : gb_F} {w w2 : Int64} {p1 p2 ra qa : Int32} (_ : gb_TC σ) (hM : gb_TM f) (h : gb_R σ f) (ec : cs_Face_border gb_N σ p1 p2 = some (σ2, ra)) (em : ms_border gb_N f w p1 p2 = some (f2, w2, qa)) : ra = qa := (c_border h hM _ _ ec).trans (m_border hM _ _ _ em).symm
/-! lines: deed, term, seen -/
def gb_lnv (R : Nat → Int32) (wd : Nat) (mx k what : Int) : Int32 := if k = -1 then (if what = 0 then R 0 else -2) else if (0 ≤ k ∧ k < (R 0).toInt) ∧ (0 ≤ what ∧ what ≤ mx) then R (1 + wd * k.toNat + what.toNat) else -2
def gb_Aln (s wd : Nat) (mx : Int) (f : gb_F) (p1 p2 p3 : Int32) : Int32 := if gb_i0 p1 (f 1 s) then gb_lnv (gb_Rs s f p1) wd mx p2.toInt p3.toInt else -2
theorem ch_cellN {n : Nat} {σ : gb_S} {k0 : Nat} {p1 p2 : Int32} {k j : Nat} (e1 : p1.toInt = k) (hk : k ≤ 1000) (e2 : p2.toInt = j) (hj : j ≤ 10) : gb_hc (cs_Lines_cell_N n σ k0 p1 p2) (fun s r => s = σ ∧ r = σ.1 (k0 + 1) (1 + 4 * k + j)) := by
  unfold cs_Lines_cell_N
  have c1 : (1 : Int32).toInt = 1 := by decide
  have c3 : ((3 : Int32) + 1).toInt = 4 := by decide
  have m1 : (p1 * ((3 : Int32) + 1)).toInt = ((4 * k : Nat) : Int) := by
    rw [gb_tmul (by rw [e1, c3]; omega) (by rw [e1, c3]; omega), e1, c3]
    omega
  have m2 : ((1 : Int32) + p1 * ((3 : Int32) + 1)).toInt = ((1 + 4 * k : Nat) : Int) := by
    rw [gb_tadd (by rw [m1, c1]; omega) (by rw [m1, c1]; omega), m1, c1]
    omega
  have m3 : (((1 : Int32) + p1 * ((3 : Int32) + 1)) + p2).toInt = ((1 + 4 * k + j : Nat) : Int) := by
    rw [gb_tadd (by rw [m2, e2]; omega) (by rw [m2, e2]; omega), m2, e2]
    omega
  rw [gi_tn m3]
  exact hc_kk (fun _ => hc_ck (fun _ _ => hc_lt (fun x ex => hc_some ⟨rfl, ex⟩)))
theorem ch_sizeN {n : Nat} {σ : gb_S} {k0 : Nat} : gb_hc (cs_Lines_size_N n σ k0) (fun s r => s = σ ∧ r = σ.1 (k0 + 1) 0) := by
  unfold cs_Lines_size_N
  exact hc_kk (fun _ => hc_lt (fun x ex => hc_some ⟨rfl, ex⟩))
theorem cx_night {n : Nat} {σ : gb_S} {f : gb_F} {p1 : Int32} (h : gb_R σ f) (hM : gb_TM f) : gb_hc (cs_Face_nightAt n σ p1) (fun s r => s = σ ∧ ((r = 0 ∧ ¬ gb_i0 p1 (f 1 1)) ∨ (r ≠ 0 ∧ gb_i0 p1 (f 1 1) ∧ gb_RS 1 (σ.1 (r + 1)) (gb_Rs 1 f p1) ∧ gb_rg 1 (gb_Rs 1 f p1)))) := by
  refine hc_mono ch_nightAt (fun s r g => ⟨g.1, ?_⟩)
  have hh := R_held h (s := 1) (by decide)
  rw [hh] at g
  rcases g.2 with z | ⟨m, z1, z2, z3, z4⟩
  · exact Or.inl ⟨z.1, in_Nk z.2⟩
  · refine Or.inr ⟨z4, in_Lk z1, ?_, ?_⟩
    · rw [Rs_E z1, z3]
      exact R_sheet h (by decide) z1
    · rw [Rs_E z1]
      have := rg_F (q := 0) hM.2 (s := 1) (m := m) (by decide) (by omega)
      have e00 : (fun j => f 1 (992 * 0 + (gb_pl 1 m + j))) = (fun j => f 1 (gb_pl 1 m + j)) := funext (fun j => by rw [show 992 * 0 + (gb_pl 1 m + j) = gb_pl 1 m + j by omega])
      rw [e00] at this
      exact this
/-- the reference's place of such a sheet -/
def gb_mnight (R : Nat → Int32) (f : gb_F) : Prop := ∃ m : Nat, m < 2 ∧ gb_mb 12 1 m f ∧ ∀ j, f 1 (gb_pl 1 m + j) = R j
theorem mx_night {n : Nat} {f : gb_F} {w : Int64} {p1 : Int32} {Q : gb_F → Int64 → Int32 → Prop} {x : gb_MR Int32} {k : gb_F → Int64 → gb_MR Int32} (hM : gb_TM f) (ex : x = gb_bd (ms_isOf n f w 1 p1) (fun f_1 wl_2 r_3 => (if r_3 = 0 then some (f_1, wl_2, (-2)) else gb_bd (ms_placeOf n f_1 wl_2 1 p1) (fun f_7 wl_8 r_9 => gb_lt (gb_u f_7 0 (upd (f_7 0) 12 r_9)) (fun f_12 => k f_12 wl_8))))) (h1 : ¬ gb_i0 p1 (f 1 1) → Q f w (-2)) (h2 : ∀ f2 : gb_F, gb_i0 p1 (f 1 1) → gb_TM f2 → gb_mnight (gb_Rs 1 f p1) f2 → gb_hm (k f2 w) Q) : gb_hm x Q := by
  rw [ex]
  refine hm_bd (mh_isOf hM (s := 1) (by decide) (by decide)) (fun g u r hg => ?_)
  obtain ⟨rfl, rfl, hg⟩ := hg
  refine hm_if (fun c => hm_some ?_) (fun c => ?_)
  · rcases hg with z | ⟨m, z, -⟩
    · exact h1 (in_Nk z.2)
    · rw [c] at z
      exact absurd z (by decide)
  · rcases hg with z | ⟨m, z1, z2, z3⟩
    · exact absurd z.1 c
    · refine hm_bd (hm_and (hm_of (mt_placeOfE (s := 1) (by decide) (by decide) z2.1 (by omega))) (hm_of (mt_placeOf1 (p2 := p1) ⟨by have := z2.1; omega, by have := z2.1; omega⟩))) (fun g2 u2 r2 hh => hm_lt (fun y ey => ?_))
      obtain ⟨⟨e1, e2, e3⟩, -, -, e4⟩ := hh
      subst e1
      subst e2
      refine h2 y (in_Lk z2) (by rw [ey]; exact gb_TM12 hM (Or.inr e4)) ⟨m, z3, ?_, fun j => ?_⟩
      · unfold gb_mb
        rw [ey, gb_us, pk_us]
        exact e3
      · rw [ey, gb_un (by decide), Rs_E z2]
theorem ch_cellL {n : Nat} {σ : gb_S} {k0 : Nat} {p1 p2 : Int32} {k j : Nat} (e1 : p1.toInt = k) (hk : k ≤ 1000) (e2 : p2.toInt = j) (hj : j ≤ 10) : gb_hc (cs_Lines_cell_L n σ k0 p1 p2) (fun s r => s = σ ∧ r = σ.1 (k0 + 1) (1 + 3 * k + j)) := by
  unfold cs_Lines_cell_L
  have c1 : (1 : Int32).toInt = 1 := by decide
  have c3 : ((2 : Int32) + 1).toInt = 3 := by decide
  have m1 : (p1 * ((2 : Int32) + 1)).toInt = ((3 * k : Nat) : Int) := by
    rw [gb_tmul (by rw [e1, c3]; omega) (by rw [e1, c3]; omega), e1, c3]
    omega
  have m2 : ((1 : Int32) + p1 * ((2 : Int32) + 1)).toInt = ((1 + 3 * k : Nat) : Int) := by
    rw [gb_tadd (by rw [m1, c1]; omega) (by rw [m1, c1]; omega), m1, c1]
    omega
  have m3 : (((1 : Int32) + p1 * ((2 : Int32) + 1)) + p2).toInt = ((1 + 3 * k + j : Nat) : Int) := by
    rw [gb_tadd (by rw [m2, e2]; omega) (by rw [m2, e2]; omega), m2, e2]
    omega
  rw [gi_tn m3]
  exact hc_kk (fun _ => hc_ck (fun _ _ => hc_lt (fun x ex => hc_some ⟨rfl, ex⟩)))
theorem ch_sizeL {n : Nat} {σ : gb_S} {k0 : Nat} : gb_hc (cs_Lines_size_L n σ k0) (fun s r => s = σ ∧ r = σ.1 (k0 + 1) 0) := by
  unfold cs_Lines_size_L
  exact hc_kk (fun _ => hc_lt (fun x ex => hc_some ⟨rfl, ex⟩))
theorem cx_law {n : Nat} {σ : gb_S} {f : gb_F} {p1 : Int32} (h : gb_R σ f) (hM : gb_TM f) : gb_hc (cs_Face_lawAt n σ p1) (fun s r => s = σ ∧ ((r = 0 ∧ ¬ gb_i0 p1 (f 1 2)) ∨ (r ≠ 0 ∧ gb_i0 p1 (f 1 2) ∧ gb_RS 2 (σ.1 (r + 1)) (gb_Rs 2 f p1) ∧ gb_rg 2 (gb_Rs 2 f p1)))) := by
  refine hc_mono ch_lawAt (fun s r g => ⟨g.1, ?_⟩)
  have hh := R_held h (s := 2) (by decide)
  rw [hh] at g
  rcases g.2 with z | ⟨m, z1, z2, z3, z4⟩
  · exact Or.inl ⟨z.1, in_Nk z.2⟩
  · refine Or.inr ⟨z4, in_Lk z1, ?_, ?_⟩
    · rw [Rs_E z1, z3]
      exact R_sheet h (by decide) z1
    · rw [Rs_E z1]
      have := rg_F (q := 0) hM.2 (s := 2) (m := m) (by decide) (by omega)
      have e00 : (fun j => f 1 (992 * 0 + (gb_pl 2 m + j))) = (fun j => f 1 (gb_pl 2 m + j)) := funext (fun j => by rw [show 992 * 0 + (gb_pl 2 m + j) = gb_pl 2 m + j by omega])
      rw [e00] at this
      exact this
/-- the reference's place of such a sheet -/
def gb_mlaw (R : Nat → Int32) (f : gb_F) : Prop := ∃ m : Nat, m < 2 ∧ gb_mb 25 2 m f ∧ ∀ j, f 1 (gb_pl 2 m + j) = R j
theorem mx_law {n : Nat} {f : gb_F} {w : Int64} {p1 : Int32} {Q : gb_F → Int64 → Int32 → Prop} {x : gb_MR Int32} {k : gb_F → Int64 → gb_MR Int32} (hM : gb_TM f) (ex : x = gb_bd (ms_isOf n f w 2 p1) (fun f_1 wl_2 r_3 => (if r_3 = 0 then some (f_1, wl_2, (-2)) else gb_bd (ms_placeOf n f_1 wl_2 2 p1) (fun f_7 wl_8 r_9 => gb_lt (gb_u f_7 0 (upd (f_7 0) 25 r_9)) (fun f_12 => k f_12 wl_8))))) (h1 : ¬ gb_i0 p1 (f 1 2) → Q f w (-2)) (h2 : ∀ f2 : gb_F, gb_i0 p1 (f 1 2) → gb_TM f2 → gb_mlaw (gb_Rs 2 f p1) f2 → gb_hm (k f2 w) Q) : gb_hm x Q := by
  rw [ex]
  refine hm_bd (mh_isOf hM (s := 2) (by decide) (by decide)) (fun g u r hg => ?_)
  obtain ⟨rfl, rfl, hg⟩ := hg
  refine hm_if (fun c => hm_some ?_) (fun c => ?_)
  · rcases hg with z | ⟨m, z, -⟩
    · exact h1 (in_Nk z.2)
    · rw [c] at z
      exact absurd z (by decide)
  · rcases hg with z | ⟨m, z1, z2, z3⟩
    · exact absurd z.1 c
    · refine hm_bd (hm_and (hm_of (mt_placeOfE (s := 2) (by decide) (by decide) z2.1 (by omega))) (hm_of (mt_placeOf2 (p2 := p1) ⟨by have := z2.1; omega, by have := z2.1; omega⟩))) (fun g2 u2 r2 hh => hm_lt (fun y ey => ?_))
      obtain ⟨⟨e1, e2, e3⟩, -, -, e4⟩ := hh
      subst e1
      subst e2
      refine h2 y (in_Lk z2) (by rw [ey]; exact gb_TM25 hM (Or.inr e4)) ⟨m, z3, ?_, fun j => ?_⟩
      · unfold gb_mb
        rw [ey, gb_us, pk_us]
        exact e3
      · rw [ey, gb_un (by decide), Rs_E z2]
theorem ch_sizeD {n : Nat} {σ : gb_S} {k0 : Nat} : gb_hc (cs_Lines_size_D n σ k0) (fun s r => s = σ ∧ r = σ.1 (k0 + 1) 0) := by
  unfold cs_Lines_size_D
  exact hc_kk (fun _ => hc_lt (fun x ex => hc_some ⟨rfl, ex⟩))
theorem cx_dawn {n : Nat} {σ : gb_S} {f : gb_F} {p1 : Int32} (h : gb_R σ f) (hM : gb_TM f) : gb_hc (cs_Face_dawnAt n σ p1) (fun s r => s = σ ∧ ((r = 0 ∧ ¬ gb_i0 p1 (f 1 3)) ∨ (r ≠ 0 ∧ gb_i0 p1 (f 1 3) ∧ gb_RS 3 (σ.1 (r + 1)) (gb_Rs 3 f p1) ∧ gb_rg 3 (gb_Rs 3 f p1)))) := by
  refine hc_mono ch_dawnAt (fun s r g => ⟨g.1, ?_⟩)
  have hh := R_held h (s := 3) (by decide)
  rw [hh] at g
  rcases g.2 with z | ⟨m, z1, z2, z3, z4⟩
  · exact Or.inl ⟨z.1, in_Nk z.2⟩
  · refine Or.inr ⟨z4, in_Lk z1, ?_, ?_⟩
    · rw [Rs_E z1, z3]
      exact R_sheet h (by decide) z1
    · rw [Rs_E z1]
      have := rg_F (q := 0) hM.2 (s := 3) (m := m) (by decide) (by omega)
      have e00 : (fun j => f 1 (992 * 0 + (gb_pl 3 m + j))) = (fun j => f 1 (gb_pl 3 m + j)) := funext (fun j => by rw [show 992 * 0 + (gb_pl 3 m + j) = gb_pl 3 m + j by omega])
      rw [e00] at this
      exact this
/-- the reference's place of such a sheet -/
def gb_mdawn (R : Nat → Int32) (f : gb_F) : Prop := ∃ m : Nat, m < 2 ∧ gb_mb 29 3 m f ∧ ∀ j, f 1 (gb_pl 3 m + j) = R j
theorem mx_dawn {n : Nat} {f : gb_F} {w : Int64} {p1 : Int32} {Q : gb_F → Int64 → Int32 → Prop} {x : gb_MR Int32} {k : gb_F → Int64 → gb_MR Int32} (hM : gb_TM f) (ex : x = gb_bd (ms_isOf n f w 3 p1) (fun f_1 wl_2 r_3 => (if r_3 = 0 then some (f_1, wl_2, (-2)) else gb_bd (ms_placeOf n f_1 wl_2 3 p1) (fun f_7 wl_8 r_9 => gb_lt (gb_u f_7 0 (upd (f_7 0) 29 r_9)) (fun f_12 => k f_12 wl_8))))) (h1 : ¬ gb_i0 p1 (f 1 3) → Q f w (-2)) (h2 : ∀ f2 : gb_F, gb_i0 p1 (f 1 3) → gb_TM f2 → gb_mdawn (gb_Rs 3 f p1) f2 → gb_hm (k f2 w) Q) : gb_hm x Q := by
  rw [ex]
  refine hm_bd (mh_isOf hM (s := 3) (by decide) (by decide)) (fun g u r hg => ?_)
  obtain ⟨rfl, rfl, hg⟩ := hg
  refine hm_if (fun c => hm_some ?_) (fun c => ?_)
  · rcases hg with z | ⟨m, z, -⟩
    · exact h1 (in_Nk z.2)
    · rw [c] at z
      exact absurd z (by decide)
  · rcases hg with z | ⟨m, z1, z2, z3⟩
    · exact absurd z.1 c
    · refine hm_bd (hm_and (hm_of (mt_placeOfE (s := 3) (by decide) (by decide) z2.1 (by omega))) (hm_of (mt_placeOf3 (p2 := p1) ⟨by have := z2.1; omega, by have := z2.1; omega⟩))) (fun g2 u2 r2 hh => hm_lt (fun y ey => ?_))
      obtain ⟨⟨e1, e2, e3⟩, -, -, e4⟩ := hh
      subst e1
      subst e2
      refine h2 y (in_Lk z2) (by rw [ey]; exact gb_TM29 hM (Or.inr e4)) ⟨m, z3, ?_, fun j => ?_⟩
      · unfold gb_mb
        rw [ey, gb_us, pk_us]
        exact e3
      · rw [ey, gb_un (by decide), Rs_E z2]
theorem c_lineOfN {n : Nat} {σ : gb_S} {k0 : Nat} {R : Nat → Int32} {p2 p3 : Int32} (hS : gb_RS 1 (σ.1 (k0 + 1)) R) (hg : gb_rg 1 R) : gb_hc (cs_Face_lineOf_N n σ k0 p2 p3) (fun s r => s = σ ∧ r = gb_lnv R 4 3 p2.toInt p3.toInt) := by
  unfold cs_Face_lineOf_N
  have c0 : (0 : Int32).toInt = 0 := by decide
  have cn : (3 : Int32).toInt = 3 := by decide
  have i0 : gb_iv 0 24 (R 0) := gb_iw (hg.2.1 rfl) (by decide)
  have i1 := i0.1
  have i2 := i0.2
  refine hc_kk (fun _ => hc_if (fun c => hc_if (fun d => ?_) (fun d => hc_some ⟨rfl, ?_⟩)) (fun c => hc_if (fun d => hc_some ⟨rfl, ?_⟩) (fun d => ?_)))
  · refine hc_cd ch_sizeN (fun s r h => hc_some ⟨h.1, ?_⟩)
    rw [h.2, hS.1]
    unfold gb_lnv
    rw [if_pos (gi_m1.mp c), if_pos (by rw [d]; exact c0)]
  · unfold gb_lnv
    rw [if_pos (gi_m1.mp c), if_neg (fun q => d (gi_eq q c0))]
  · have := gi_lt d
    unfold gb_lnv
    rw [if_neg (fun q => c (gi_m1.mpr q)), if_neg (by omega)]
  · have d1 := gi_nlt d
    refine hc_cd ch_sizeN (fun s r h => ?_)
    obtain ⟨rfl, rfl⟩ := h
    rw [hS.1]
    refine hc_if (fun g => hc_some ⟨rfl, ?_⟩) (fun g => hc_if (fun g2 => hc_some ⟨rfl, ?_⟩) (fun g2 => hc_if (fun g3 => ?_) (fun g3 => hc_some ⟨rfl, ?_⟩)))
    · have := gi_le g
      unfold gb_lnv
      rw [if_neg (fun q => c (gi_m1.mpr q)), if_neg (by omega)]
    · have := gi_lt g2
      unfold gb_lnv
      rw [if_neg (fun q => c (gi_m1.mpr q)), if_neg (by omega)]
    · have g1 := gi_nle g
      have g21 := gi_nlt g2
      have g31 := gi_le g3
      refine hc_cd (ch_cellN (k := p2.toInt.toNat) (j := p3.toInt.toNat) (by omega) (by omega) (by omega) (by omega)) (fun s2 r2 h2 => hc_some ⟨h2.1, ?_⟩)
      rw [h2.2]
      unfold gb_lnv
      rw [if_neg (fun q => c (gi_m1.mpr q)), if_pos ⟨⟨by omega, by omega⟩, by omega, by omega⟩]
      have e : 1 + 4 * p2.toInt.toNat + p3.toInt.toNat = 1 + (4 * p2.toInt.toNat + p3.toInt.toNat) := by omega
      rw [e]
      have wE : gb_wid 1 = 4 := rfl
      exact hS.2.2.1 (by decide) _ (by rw [wE]; omega)
    · have := gi_nle g3
      unfold gb_lnv
      rw [if_neg (fun q => c (gi_m1.mpr q)), if_neg (by omega)]
theorem c_deed {n : Nat} {σ : gb_S} {f : gb_F} {p1 p2 p3 : Int32} (h : gb_R σ f) (hM : gb_TM f) : gb_hc (cs_Face_deed n σ p1 p2 p3) (fun _ r => r = gb_Aln 1 4 3 f p1 p2 p3) := by
  unfold cs_Face_deed
  refine hc_cd (cx_night h hM) (fun s r g => ?_)
  obtain ⟨rfl, g⟩ := g
  rcases g with ⟨g1, g2⟩ | ⟨g1, g2, g3, g4⟩
  · rw [if_pos g1]
    refine hc_some ?_
    unfold gb_Aln
    rw [if_neg g2]
  · rw [if_neg g1]
    refine hc_kk (fun _ => hc_cd (c_lineOfN g3 g4) (fun s2 r2 k => hc_some ?_))
    rw [k.2]
    unfold gb_Aln
    rw [if_pos g2]
theorem mx_deedOf {n : Nat} {f : gb_F} {w : Int64} {R : Nat → Int32} {x y : Int32} {k j : Nat} (h : gb_mnight R f) (e1 : x.toInt = k) (hk : k ≤ 1000) (e2 : y.toInt = j) (hj : j ≤ 10) : gb_hm (ms_deedOf n f w x y) (fun f2 w2 r => f2 = f ∧ w2 = w ∧ r = R (1 + 4 * k + j)) := by
  unfold ms_deedOf
  obtain ⟨m, hm, hb, hR⟩ := h
  have hb' : (f 0 12).toInt = gb_pl 1 m := hb
  have hp : gb_pl 1 m ≤ 1000 := by
    rcases pl_E (s := 1) (m := m) (by decide) with a | a | a | a <;> omega
  have c1 : (1 : Int32).toInt = ((1 : Nat) : Int) := by decide
  have cw : (4 : Int32).toInt = 4 := by decide
  have m1 : (4 * x).toInt = ((4 * k : Nat) : Int) := by
    rw [gb_tmul (by rw [e1, cw]; omega) (by rw [e1, cw]; omega), e1, cw]
    omega
  have m2 := gi_pl (gi_pl (gi_pl hb' c1 (by omega) (by omega)) m1 (by omega) (by omega)) e2 (by omega) (by omega)
  rw [gi_tn m2]
  refine hm_ck (fun _ _ => hm_lt (fun z ez => hm_some ⟨rfl, rfl, ?_⟩))
  rw [ez, show gb_pl 1 m + 1 + 4 * k + j = gb_pl 1 m + (1 + 4 * k + j) by omega]
  exact hR _
theorem mx_nnight {f : gb_F} {R : Nat → Int32} (h : gb_mnight R f) : f 1 (Int32.toNatClampNeg (f 0 12)) = R 0 := by
  obtain ⟨m, hm, hb, hR⟩ := h
  have hb' : (f 0 12).toInt = gb_pl 1 m := hb
  rw [gi_tn hb']
  have := hR 0
  rw [Nat.add_zero] at this
  exact this
theorem rs_night {f : gb_F} {p1 : Int32} (hM : gb_TM f) (h : gb_i0 p1 (f 1 1)) : gb_rg 1 (gb_Rs 1 f p1) := by
  have i := hl_0 hM.2 (s := 1) (by decide)
  have i2 := i.2
  have := rg_F (q := 0) hM.2 (s := 1) (m := p1.toInt.toNat) (by decide) (by have := h.1; have := h.2; omega)
  have e00 : (fun j => f 1 (992 * 0 + (gb_pl 1 p1.toInt.toNat + j))) = gb_Rs 1 f p1 := funext (fun j => by rw [show 992 * 0 + (gb_pl 1 p1.toInt.toNat + j) = gb_pl 1 p1.toInt.toNat + j by omega]; rfl)
  rw [e00] at this
  exact this
theorem c_lineOfL {n : Nat} {σ : gb_S} {k0 : Nat} {R : Nat → Int32} {p2 p3 : Int32} (hS : gb_RS 2 (σ.1 (k0 + 1)) R) (hg : gb_rg 2 R) : gb_hc (cs_Face_lineOf_L n σ k0 p2 p3) (fun s r => s = σ ∧ r = gb_lnv R 3 2 p2.toInt p3.toInt) := by
  unfold cs_Face_lineOf_L
  have c0 : (0 : Int32).toInt = 0 := by decide
  have cn : (2 : Int32).toInt = 2 := by decide
  have i0 : gb_iv 0 24 (R 0) := gb_iw (hg.2.2.1 rfl) (by decide)
  have i1 := i0.1
  have i2 := i0.2
  refine hc_kk (fun _ => hc_if (fun c => hc_if (fun d => ?_) (fun d => hc_some ⟨rfl, ?_⟩)) (fun c => hc_if (fun d => hc_some ⟨rfl, ?_⟩) (fun d => ?_)))
  · refine hc_cd ch_sizeL (fun s r h => hc_some ⟨h.1, ?_⟩)
    rw [h.2, hS.1]
    unfold gb_lnv
    rw [if_pos (gi_m1.mp c), if_pos (by rw [d]; exact c0)]
  · unfold gb_lnv
    rw [if_pos (gi_m1.mp c), if_neg (fun q => d (gi_eq q c0))]
  · have := gi_lt d
    unfold gb_lnv
    rw [if_neg (fun q => c (gi_m1.mpr q)), if_neg (by omega)]
  · have d1 := gi_nlt d
    refine hc_cd ch_sizeL (fun s r h => ?_)
    obtain ⟨rfl, rfl⟩ := h
    rw [hS.1]
    refine hc_if (fun g => hc_some ⟨rfl, ?_⟩) (fun g => hc_if (fun g2 => hc_some ⟨rfl, ?_⟩) (fun g2 => hc_if (fun g3 => ?_) (fun g3 => hc_some ⟨rfl, ?_⟩)))
    · have := gi_le g
      unfold gb_lnv
      rw [if_neg (fun q => c (gi_m1.mpr q)), if_neg (by omega)]
    · have := gi_lt g2
      unfold gb_lnv
      rw [if_neg (fun q => c (gi_m1.mpr q)), if_neg (by omega)]
    · have g1 := gi_nle g
      have g21 := gi_nlt g2
      have g31 := gi_le g3
      refine hc_cd (ch_cellL (k := p2.toInt.toNat) (j := p3.toInt.toNat) (by omega) (by omega) (by omega) (by omega)) (fun s2 r2 h2 => hc_some ⟨h2.1, ?_⟩)
      rw [h2.2]
      unfold gb_lnv
      rw [if_neg (fun q => c (gi_m1.mpr q)), if_pos ⟨⟨by omega, by omega⟩, by omega, by omega⟩]
      have e : 1 + 3 * p2.toInt.toNat + p3.toInt.toNat = 1 + (3 * p2.toInt.toNat + p3.toInt.toNat) := by omega
      rw [e]
      have wE : gb_wid 2 = 3 := rfl
      exact hS.2.2.1 (by decide) _ (by rw [wE]; omega)
    · have := gi_nle g3
      unfold gb_lnv
      rw [if_neg (fun q => c (gi_m1.mpr q)), if_neg (by omega)]
theorem c_term {n : Nat} {σ : gb_S} {f : gb_F} {p1 p2 p3 : Int32} (h : gb_R σ f) (hM : gb_TM f) : gb_hc (cs_Face_term n σ p1 p2 p3) (fun _ r => r = gb_Aln 2 3 2 f p1 p2 p3) := by
  unfold cs_Face_term
  refine hc_cd (cx_law h hM) (fun s r g => ?_)
  obtain ⟨rfl, g⟩ := g
  rcases g with ⟨g1, g2⟩ | ⟨g1, g2, g3, g4⟩
  · rw [if_pos g1]
    refine hc_some ?_
    unfold gb_Aln
    rw [if_neg g2]
  · rw [if_neg g1]
    refine hc_kk (fun _ => hc_cd (c_lineOfL g3 g4) (fun s2 r2 k => hc_some ?_))
    rw [k.2]
    unfold gb_Aln
    rw [if_pos g2]
theorem mx_termOf {n : Nat} {f : gb_F} {w : Int64} {R : Nat → Int32} {x y : Int32} {k j : Nat} (h : gb_mlaw R f) (e1 : x.toInt = k) (hk : k ≤ 1000) (e2 : y.toInt = j) (hj : j ≤ 10) : gb_hm (ms_termOf n f w x y) (fun f2 w2 r => f2 = f ∧ w2 = w ∧ r = R (1 + 3 * k + j)) := by
  unfold ms_termOf
  obtain ⟨m, hm, hb, hR⟩ := h
  have hb' : (f 0 25).toInt = gb_pl 2 m := hb
  have hp : gb_pl 2 m ≤ 1000 := by
    rcases pl_E (s := 2) (m := m) (by decide) with a | a | a | a <;> omega
  have c1 : (1 : Int32).toInt = ((1 : Nat) : Int) := by decide
  have cw : (3 : Int32).toInt = 3 := by decide
  have m1 : (3 * x).toInt = ((3 * k : Nat) : Int) := by
    rw [gb_tmul (by rw [e1, cw]; omega) (by rw [e1, cw]; omega), e1, cw]
    omega
  have m2 := gi_pl (gi_pl (gi_pl hb' c1 (by omega) (by omega)) m1 (by omega) (by omega)) e2 (by omega) (by omega)
  rw [gi_tn m2]
  refine hm_ck (fun _ _ => hm_lt (fun z ez => hm_some ⟨rfl, rfl, ?_⟩))
  rw [ez, show gb_pl 2 m + 1 + 3 * k + j = gb_pl 2 m + (1 + 3 * k + j) by omega]
  exact hR _
theorem mx_nlaw {f : gb_F} {R : Nat → Int32} (h : gb_mlaw R f) : f 1 (Int32.toNatClampNeg (f 0 25)) = R 0 := by
  obtain ⟨m, hm, hb, hR⟩ := h
  have hb' : (f 0 25).toInt = gb_pl 2 m := hb
  rw [gi_tn hb']
  have := hR 0
  rw [Nat.add_zero] at this
  exact this
theorem rs_law {f : gb_F} {p1 : Int32} (hM : gb_TM f) (h : gb_i0 p1 (f 1 2)) : gb_rg 2 (gb_Rs 2 f p1) := by
  have i := hl_0 hM.2 (s := 2) (by decide)
  have i2 := i.2
  have := rg_F (q := 0) hM.2 (s := 2) (m := p1.toInt.toNat) (by decide) (by have := h.1; have := h.2; omega)
  have e00 : (fun j => f 1 (992 * 0 + (gb_pl 2 p1.toInt.toNat + j))) = gb_Rs 2 f p1 := funext (fun j => by rw [show 992 * 0 + (gb_pl 2 p1.toInt.toNat + j) = gb_pl 2 p1.toInt.toNat + j by omega]; rfl)
  rw [e00] at this
  exact this
theorem mx_seenOf {n : Nat} {f : gb_F} {w : Int64} {R : Nat → Int32} {x y : Int32} {k j : Nat} (h : gb_mdawn R f) (e1 : x.toInt = k) (hk : k ≤ 1000) (e2 : y.toInt = j) (hj : j ≤ 10) : gb_hm (ms_seenOf n f w x y) (fun f2 w2 r => f2 = f ∧ w2 = w ∧ r = R (1 + 2 * k + j)) := by
  unfold ms_seenOf
  obtain ⟨m, hm, hb, hR⟩ := h
  have hb' : (f 0 29).toInt = gb_pl 3 m := hb
  have hp : gb_pl 3 m ≤ 1000 := by
    rcases pl_E (s := 3) (m := m) (by decide) with a | a | a | a <;> omega
  have c1 : (1 : Int32).toInt = ((1 : Nat) : Int) := by decide
  have cw : (2 : Int32).toInt = 2 := by decide
  have m1 : (2 * x).toInt = ((2 * k : Nat) : Int) := by
    rw [gb_tmul (by rw [e1, cw]; omega) (by rw [e1, cw]; omega), e1, cw]
    omega
  have m2 := gi_pl (gi_pl (gi_pl hb' c1 (by omega) (by omega)) m1 (by omega) (by omega)) e2 (by omega) (by omega)
  rw [gi_tn m2]
  refine hm_ck (fun _ _ => hm_lt (fun z ez => hm_some ⟨rfl, rfl, ?_⟩))
  rw [ez, show gb_pl 3 m + 1 + 2 * k + j = gb_pl 3 m + (1 + 2 * k + j) by omega]
  exact hR _
theorem mx_ndawn {f : gb_F} {R : Nat → Int32} (h : gb_mdawn R f) : f 1 (Int32.toNatClampNeg (f 0 29)) = R 0 := by
  obtain ⟨m, hm, hb, hR⟩ := h
  have hb' : (f 0 29).toInt = gb_pl 3 m := hb
  rw [gi_tn hb']
  have := hR 0
  rw [Nat.add_zero] at this
  exact this
theorem rs_dawn {f : gb_F} {p1 : Int32} (hM : gb_TM f) (h : gb_i0 p1 (f 1 3)) : gb_rg 3 (gb_Rs 3 f p1) := by
  have i := hl_0 hM.2 (s := 3) (by decide)
  have i2 := i.2
  have := rg_F (q := 0) hM.2 (s := 3) (m := p1.toInt.toNat) (by decide) (by have := h.1; have := h.2; omega)
  have e00 : (fun j => f 1 (992 * 0 + (gb_pl 3 p1.toInt.toNat + j))) = gb_Rs 3 f p1 := funext (fun j => by rw [show 992 * 0 + (gb_pl 3 p1.toInt.toNat + j) = gb_pl 3 p1.toInt.toNat + j by omega]; rfl)
  rw [e00] at this
  exact this
theorem m_deed {n : Nat} {f : gb_F} {w : Int64} {p1 p2 p3 : Int32} (hM : gb_TM f) : gb_hm (ms_deed n f w p1 p2 p3) (fun _ _ r => r = gb_Aln 1 4 3 f p1 p2 p3) := by
  have c0 : (0 : Int32).toInt = 0 := by decide
  have cn : (3 : Int32).toInt = 3 := by decide
  refine mx_night hM rfl (fun g => ?_) (fun f2 g hM2 hm => ?_)
  · unfold gb_Aln
    rw [if_neg g]
  · have ab : gb_Aln 1 4 3 f p1 p2 p3 = gb_lnv (gb_Rs 1 f p1) 4 3 p2.toInt p3.toInt := by
      unfold gb_Aln
      rw [if_pos g]
    rw [ab]
    have i0 : gb_iv 0 1000 (gb_Rs 1 f p1 0) := gb_iw ((rs_night hM g).2.1 rfl) (by decide)
    have i1 := i0.1
    have i2 := i0.2
    have dd : ∀ w : Int64, gb_hm (ms_deeds n f2 w) (fun f3 w3 r => f3 = f2 ∧ w3 = w ∧ r = gb_Rs 1 f p1 0) := fun w => by
      unfold ms_deeds
      exact hm_ck (fun _ _ => hm_lt (fun x ex => hm_some ⟨rfl, rfl, by rw [ex]; exact mx_nnight hm⟩))
    refine hm_if (fun c => hm_if (fun d => ?_) (fun d => hm_some ?_)) (fun c => ?_)
    · refine hm_bd (dd w) (fun f3 w3 r3 k3 => hm_some ?_)
      rw [k3.2.2]
      unfold gb_lnv
      rw [if_pos (gi_m1.mp c), if_pos (by rw [d]; exact c0)]
    · unfold gb_lnv
      rw [if_pos (gi_m1.mp c), if_neg (fun q => d (gi_eq q c0))]
    · refine hm_bd (dd w) (fun f3 w3 r3 k3 => ?_)
      obtain ⟨rfl, rfl, rfl⟩ := k3
      refine hm_bd (mh_below i0) (fun f4 w4 r4 k4 => ?_)
      obtain ⟨rfl, rfl, k4⟩ := k4
      refine hm_if (fun z => hm_some ?_) (fun z => ?_)
      · rcases k4 with q | ⟨p, q, -⟩
        · have nn := in_nk q.2
          unfold gb_lnv
          rw [if_neg (fun q => c (gi_m1.mpr q)), if_neg (fun y => nn y.1)]
        · rw [z] at q
          exact absurd q (by decide)
      · rcases k4 with q | ⟨p, q1, q2⟩
        · exact absurd q.1 z
        · have hin := in_lk q2
          have hin2 := hin.2
          refine hm_bd mh_isIn (fun f5 w5 r5 k5 => ?_)
          obtain ⟨rfl, rfl, k5⟩ := k5
          rw [c0, cn] at k5
          refine hm_if (fun z5 => hm_some ?_) (fun z5 => ?_)
          · have nn : ¬ (0 ≤ p3.toInt ∧ p3.toInt ≤ 3) := by
              rcases k5 with y | y
              · rw [z5] at y
                exact absurd y.1 (by decide)
              · omega
            unfold gb_lnv
            rw [if_neg (fun q => c (gi_m1.mpr q)), if_neg (fun y => nn y.2)]
          · have yy : 0 ≤ p3.toInt ∧ p3.toInt ≤ 3 := by
              rcases k5 with y | y
              · exact y.2
              · exact absurd y.1 z5
            have hin1 := hin.1
            refine hm_bd (mx_deedOf hm (k := p2.toInt.toNat) (j := p3.toInt.toNat) (by omega) (by omega) (by omega) (by omega)) (fun f6 w6 r6 k6 => hm_some ?_)
            rw [k6.2.2]
            unfold gb_lnv
            rw [if_neg (fun q => c (gi_m1.mpr q)), if_pos ⟨hin, yy⟩]
theorem e_deed {σ σ2 : gb_S} {f f2 : gb_F} {w w2 : Int64} {p1 p2 p3 ra qa : Int32} (_ : gb_TC σ) (hM : gb_TM f) (h : gb_R σ f) (ec : cs_Face_deed gb_N σ p1 p2 p3 = some (σ2, ra)) (em : ms_deed gb_N f w p1 p2 p3 = some (f2, w2, qa)) : ra = qa := (c_deed h hM _ _ ec).trans (m_deed hM _ _ _ em).symm
theorem m_term {n : Nat} {f : gb_F} {w : Int64} {p1 p2 p3 : Int32} (hM : gb_TM f) : gb_hm (ms_term n f w p1 p2 p3) (fun _ _ r => r = gb_Aln 2 3 2 f p1 p2 p3) := by
  have c0 : (0 : Int32).toInt = 0 := by decide
  have cn : (2 : Int32).toInt = 2 := by decide
  refine mx_law hM rfl (fun g => ?_) (fun f2 g hM2 hm => ?_)
  · unfold gb_Aln
    rw [if_neg g]
  · have ab : gb_Aln 2 3 2 f p1 p2 p3 = gb_lnv (gb_Rs 2 f p1) 3 2 p2.toInt p3.toInt := by
      unfold gb_Aln
      rw [if_pos g]
    rw [ab]
    have i0 : gb_iv 0 1000 (gb_Rs 2 f p1 0) := gb_iw ((rs_law hM g).2.2.1 rfl) (by decide)
    have i1 := i0.1
    have i2 := i0.2
    refine hm_if (fun c => hm_if (fun d => ?_) (fun d => hm_some ?_)) (fun c => ?_)
    · refine hm_ck (fun _ _ => hm_lt (fun x ex => hm_some ?_))
      rw [ex, mx_nlaw hm]
      unfold gb_lnv
      rw [if_pos (gi_m1.mp c), if_pos (by rw [d]; exact c0)]
    · unfold gb_lnv
      rw [if_pos (gi_m1.mp c), if_neg (fun q => d (gi_eq q c0))]
    · refine hm_ck (fun _ _ => hm_lt (fun x ex => ?_))
      rw [mx_nlaw hm] at ex
      subst ex
      refine hm_bd (mh_below i0) (fun f4 w4 r4 k4 => ?_)
      obtain ⟨rfl, rfl, k4⟩ := k4
      refine hm_if (fun z => hm_some ?_) (fun z => ?_)
      · rcases k4 with q | ⟨p, q, -⟩
        · have nn := in_nk q.2
          unfold gb_lnv
          rw [if_neg (fun q => c (gi_m1.mpr q)), if_neg (fun y => nn y.1)]
        · rw [z] at q
          exact absurd q (by decide)
      · rcases k4 with q | ⟨p, q1, q2⟩
        · exact absurd q.1 z
        · have hin := in_lk q2
          have hin2 := hin.2
          refine hm_bd mh_isIn (fun f5 w5 r5 k5 => ?_)
          obtain ⟨rfl, rfl, k5⟩ := k5
          rw [c0, cn] at k5
          refine hm_if (fun z5 => hm_some ?_) (fun z5 => ?_)
          · have nn : ¬ (0 ≤ p3.toInt ∧ p3.toInt ≤ 2) := by
              rcases k5 with y | y
              · rw [z5] at y
                exact absurd y.1 (by decide)
              · omega
            unfold gb_lnv
            rw [if_neg (fun q => c (gi_m1.mpr q)), if_neg (fun y => nn y.2)]
          · have yy : 0 ≤ p3.toInt ∧ p3.toInt ≤ 2 := by
              rcases k5 with y | y
              · exact y.2
              · exact absurd y.1 z5
            have hin1 := hin.1
            refine hm_bd (mx_termOf hm (k := p2.toInt.toNat) (j := p3.toInt.toNat) (by omega) (by omega) (by omega) (by omega)) (fun f6 w6 r6 k6 => hm_some ?_)
            rw [k6.2.2]
            unfold gb_lnv
            rw [if_neg (fun q => c (gi_m1.mpr q)), if_pos ⟨hin, yy⟩]
theorem e_term {σ σ2 : gb_S} {f f2 : gb_F} {w w2 : Int64} {p1 p2 p3 ra qa : Int32} (_ : gb_TC σ) (hM : gb_TM f) (h : gb_R σ f) (ec : cs_Face_term gb_N σ p1 p2 p3 = some (σ2, ra)) (em : ms_term gb_N f w p1 p2 p3 = some (f2, w2, qa)) : ra = qa := (c_term h hM _ _ ec).trans (m_term hM _ _ _ em).symm
def gb_Aseen (f : gb_F) (p1 p2 p3 : Int32) : Int32 := if gb_i0 p1 (f 1 3) then gb_lnv (gb_Rs 3 f p1) 2 1 p2.toInt p3.toInt else -2
theorem c_lineOfD {n : Nat} {σ : gb_S} {k0 : Nat} {p2 p3 : Int32} (hi : gb_iv 0 24 (σ.1 (k0 + 1) 0)) : gb_hc (cs_Face_lineOf_D n σ k0 p2 p3) (fun s r => s = σ ∧ r = gb_lnv (σ.1 (k0 + 1)) 3 2 p2.toInt p3.toInt) := by
  unfold cs_Face_lineOf_D
  have c0 : (0 : Int32).toInt = 0 := by decide
  have cn : (2 : Int32).toInt = 2 := by decide
  have i1 := hi.1
  have i2 := hi.2
  refine hc_kk (fun _ => hc_if (fun c => hc_if (fun d => ?_) (fun d => hc_some ⟨rfl, ?_⟩)) (fun c => hc_if (fun d => hc_some ⟨rfl, ?_⟩) (fun d => ?_)))
  · refine hc_cd ch_sizeD (fun s r h => hc_some ⟨h.1, ?_⟩)
    rw [h.2]
    unfold gb_lnv
    rw [if_pos (gi_m1.mp c), if_pos (by rw [d]; exact c0)]
  · unfold gb_lnv
    rw [if_pos (gi_m1.mp c), if_neg (fun q => d (gi_eq q c0))]
  · have := gi_lt d
    unfold gb_lnv
    rw [if_neg (fun q => c (gi_m1.mpr q)), if_neg (by omega)]
  · have d1 := gi_nlt d
    refine hc_cd ch_sizeD (fun s r h => ?_)
    obtain ⟨rfl, rfl⟩ := h
    refine hc_if (fun g => hc_some ⟨rfl, ?_⟩) (fun g => hc_if (fun g2 => hc_some ⟨rfl, ?_⟩) (fun g2 => hc_if (fun g3 => ?_) (fun g3 => hc_some ⟨rfl, ?_⟩)))
    · have := gi_le g
      unfold gb_lnv
      rw [if_neg (fun q => c (gi_m1.mpr q)), if_neg (by omega)]
    · have := gi_lt g2
      unfold gb_lnv
      rw [if_neg (fun q => c (gi_m1.mpr q)), if_neg (by omega)]
    · have g1 := gi_nle g
      have g21 := gi_nlt g2
      have g31 := gi_le g3
      refine hc_cd (ch_cellD (k := p2.toInt.toNat) (j := p3.toInt.toNat) (by omega) (by omega) (by omega) (by omega)) (fun s2 r2 h2 => hc_some ⟨h2.1, ?_⟩)
      rw [h2.2]
      unfold gb_lnv
      rw [if_neg (fun q => c (gi_m1.mpr q)), if_pos ⟨⟨by omega, by omega⟩, by omega, by omega⟩]
    · have := gi_nle g3
      unfold gb_lnv
      rw [if_neg (fun q => c (gi_m1.mpr q)), if_neg (by omega)]
theorem c_seen {n : Nat} {σ : gb_S} {f : gb_F} {p1 p2 p3 : Int32} (h : gb_R σ f) (hM : gb_TM f) : gb_hc (cs_Face_seen n σ p1 p2 p3) (fun _ r => r = gb_Aseen f p1 p2 p3) := by
  unfold cs_Face_seen
  have c0 : (0 : Int32).toInt = 0 := by decide
  have c1 : (1 : Int32).toInt = 1 := by decide
  refine hc_cd (cx_dawn h hM) (fun s r g => ?_)
  obtain ⟨rfl, g⟩ := g
  rcases g with ⟨g1, g2⟩ | ⟨g1, g2, g3, g4⟩
  · rw [if_pos g1]
    refine hc_some ?_
    unfold gb_Aseen
    rw [if_neg g2]
  · rw [if_neg g1]
    have ab : gb_Aseen f p1 p2 p3 = gb_lnv (gb_Rs 3 f p1) 2 1 p2.toInt p3.toInt := by
      unfold gb_Aseen
      rw [if_pos g2]
    rw [ab]
    have i0 : gb_iv 0 5 (gb_Rs 3 f p1 0) := g4.2.2.2 rfl
    have i1 := i0.1
    have i2 := i0.2
    have iG : gb_iv 0 24 (s.1 (r + 1) 0) := by
      rw [g3.1]
      exact gb_iw i0 (by decide)
    refine hc_kk (fun _ => hc_if (fun c => hc_some ?_) (fun c => hc_if (fun d => hc_if (fun e => ?_) (fun e => ?_)) (fun d => hc_some ?_)))
    · have := gi_lt c
      unfold gb_lnv
      by_cases q : p2.toInt = -1
      · rw [if_pos q, if_neg (by omega)]
      · rw [if_neg q, if_neg (by omega)]
    · refine hc_cd (c_lineOfD iG) (fun s2 r2 k => hc_some ?_)
      rw [k.2]
      unfold gb_lnv
      rw [if_pos (gi_m1.mp e), if_pos (gi_m1.mp e), g3.1]
    · have a1 := gi_nlt c
      have a2 := gi_le d
      have p31 : (p3 + 1).toInt = p3.toInt + 1 := by rw [gb_tadd (by omega) (by omega), c1]
      refine hc_cd (c_lineOfD iG) (fun s2 r2 k => hc_some ?_)
      rw [k.2]
      have ne : ¬ p2.toInt = -1 := fun q => e (gi_m1.mpr q)
      unfold gb_lnv
      rw [if_neg ne, if_neg ne, g3.1]
      by_cases q : 0 ≤ p2.toInt ∧ p2.toInt < (gb_Rs 3 f p1 0).toInt
      · rw [if_pos ⟨q, by omega, by omega⟩, if_pos ⟨q, by omega, by omega⟩, p31]
        have rs := g3.2.2.2 rfl p2.toInt.toNat (by omega)
        have p3c : p3.toInt = 0 ∨ p3.toInt = 1 := by omega
        rcases p3c with z | z
        · rw [z, show 1 + 3 * p2.toInt.toNat + ((0 : Int) + 1).toNat = 2 + 3 * p2.toInt.toNat by omega, rs.1, show 1 + 2 * p2.toInt.toNat + (0 : Int).toNat = 1 + 2 * p2.toInt.toNat by omega]
        · rw [z, show 1 + 3 * p2.toInt.toNat + ((1 : Int) + 1).toNat = 3 + 3 * p2.toInt.toNat by omega, rs.2, show 1 + 2 * p2.toInt.toNat + (1 : Int).toNat = 2 + 2 * p2.toInt.toNat by omega]
      · rw [if_neg (fun z => q z.1), if_neg (fun z => q z.1)]
    · have := gi_nle d
      unfold gb_lnv
      by_cases q : p2.toInt = -1
      · rw [if_pos q, if_neg (by omega)]
      · rw [if_neg q, if_neg (by omega)]
theorem m_seen {n : Nat} {f : gb_F} {w : Int64} {p1 p2 p3 : Int32} (hM : gb_TM f) : gb_hm (ms_seen n f w p1 p2 p3) (fun _ _ r => r = gb_Aseen f p1 p2 p3) := by
  have c0 : (0 : Int32).toInt = 0 := by decide
  have cn : (1 : Int32).toInt = 1 := by decide
  refine mx_dawn hM rfl (fun g => ?_) (fun f2 g hM2 hm => ?_)
  · unfold gb_Aseen
    rw [if_neg g]
  · have ab : gb_Aseen f p1 p2 p3 = gb_lnv (gb_Rs 3 f p1) 2 1 p2.toInt p3.toInt := by
      unfold gb_Aseen
      rw [if_pos g]
    rw [ab]
    have i0 : gb_iv 0 1000 (gb_Rs 3 f p1 0) := gb_iw ((rs_dawn hM g).2.2.2 rfl) (by decide)
    have i1 := i0.1
    have i2 := i0.2
    refine hm_if (fun c => hm_if (fun d => ?_) (fun d => hm_some ?_)) (fun c => ?_)
    · refine hm_ck (fun _ _ => hm_lt (fun x ex => hm_some ?_))
      rw [ex, mx_ndawn hm]
      unfold gb_lnv
      rw [if_pos (gi_m1.mp c), if_pos (by rw [d]; exact c0)]
    · unfold gb_lnv
      rw [if_pos (gi_m1.mp c), if_neg (fun q => d (gi_eq q c0))]
    · refine hm_ck (fun _ _ => hm_lt (fun x ex => ?_))
      rw [mx_ndawn hm] at ex
      subst ex
      refine hm_bd (mh_below i0) (fun f4 w4 r4 k4 => ?_)
      obtain ⟨rfl, rfl, k4⟩ := k4
      refine hm_if (fun z => hm_some ?_) (fun z => ?_)
      · rcases k4 with q | ⟨p, q, -⟩
        · have nn := in_nk q.2
          unfold gb_lnv
          rw [if_neg (fun q => c (gi_m1.mpr q)), if_neg (fun y => nn y.1)]
        · rw [z] at q
          exact absurd q (by decide)
      · rcases k4 with q | ⟨p, q1, q2⟩
        · exact absurd q.1 z
        · have hin := in_lk q2
          have hin2 := hin.2
          refine hm_bd mh_isIn (fun f5 w5 r5 k5 => ?_)
          obtain ⟨rfl, rfl, k5⟩ := k5
          rw [c0, cn] at k5
          refine hm_if (fun z5 => hm_some ?_) (fun z5 => ?_)
          · have nn : ¬ (0 ≤ p3.toInt ∧ p3.toInt ≤ 1) := by
              rcases k5 with y | y
              · rw [z5] at y
                exact absurd y.1 (by decide)
              · omega
            unfold gb_lnv
            rw [if_neg (fun q => c (gi_m1.mpr q)), if_neg (fun y => nn y.2)]
          · have yy : 0 ≤ p3.toInt ∧ p3.toInt ≤ 1 := by
              rcases k5 with y | y
              · exact y.2
              · exact absurd y.1 z5
            have hin1 := hin.1
            refine hm_bd (mx_seenOf hm (k := p2.toInt.toNat) (j := p3.toInt.toNat) (by omega) (by omega) (by omega) (by omega)) (fun f6 w6 r6 k6 => hm_some ?_)
            rw [k6.2.2]
            unfold gb_lnv
            rw [if_neg (fun q => c (gi_m1.mpr q)), if_pos ⟨hin, yy⟩]
theorem e_seen {σ σ2 : gb_S} {f f2 : gb_F} {w w2 : Int64} {p1 p2 p3 ra qa : Int32} (_ : gb_TC σ) (hM : gb_TM f) (h : gb_R σ f) (ec : cs_Face_seen gb_N σ p1 p2 p3 = some (σ2, ra)) (em : ms_seen gb_N f w p1 p2 p3 = some (f2, w2, qa)) : ra = qa := (c_seen h hM _ _ ec).trans (m_seen hM _ _ _ em).symm
/-! pays, alike, lame: both sides -/
def gb_pst (kd a b x s : Int32) : Int32 := if kd = 0 then s + a * x else if kd = 1 then (if x ≤ a then s + 0 else s + b) else if kd = 2 then (if a ≤ x then s + 0 else s + b) else if kd = 3 then (if x - x / 2 * 2 = 1 then s + a else s + 0) else (if s ≤ a then s else a)
def gb_ps (R : Nat → Int32) (x : Int32) : Nat → Int32
  | 0 => 0
  | k + 1 => gb_pst (R (1 + 3 * k)) (R (2 + 3 * k)) (R (3 + 3 * k)) x (gb_ps R x k)
def gb_raL (R : Nat → Int32) : Prop := ∀ j, j < 25 → gb_iv (gt_R 2 j).1 (gt_R 2 j).2 (R j)
theorem rL_k {R : Nat → Int32} {k : Nat} (h : gb_raL R) (hk : k < 8) : gb_iv 0 4 (R (1 + 3 * k)) := by
  have := h (1 + 3 * k) (by omega)
  have e := gt_R2t (c := k) (i := 0) (by decide)
  rw [if_pos rfl, Nat.add_zero] at e
  rw [e] at this
  exact this
theorem rL_0 {R : Nat → Int32} (h : gb_raL R) : gb_iv 0 8 (R 0) := gb_iw (h 0 (by decide)) (by decide)
theorem rL_of {f : gb_F} {p1 : Int32} (hM : gb_TM f) (h : gb_i0 p1 (f 1 2)) : gb_raL (gb_Rs 2 f p1) := fun j hj => by
  have i := (hl_0 hM.2 (s := 2) (by decide)).2
  have g := hM.2 (gb_pl 2 p1.toInt.toNat + j)
  rw [(gt_1R (s := 2) (k := p1.toInt.toNat) (by decide) (by have := h.1; have := h.2; omega) (show j < gb_sz 2 from hj)).1] at g
  exact g
theorem gi_1 {x : Int32} {k : Nat} (h : x.toInt = k) (hk : k ≤ 100000) {y : Int32} (e : y = x + 1) : y.toInt = ((k + 1 : Nat) : Int) := by
  rw [e]
  have c1 : (1 : Int32).toInt = 1 := by decide
  rw [gb_tadd (by omega) (by omega), c1, h]
  omega
theorem ch_payFor4 {n : Nat} {σ : gb_S} {k0 : Nat} {R : Nat → Int32} {x : Int32} {c : Nat} (hS : gb_RS 2 (σ.1 (k0 + 1)) R) (hL : gb_raL R) (hc : (R 0).toInt = c) (hc8 : c ≤ 8) : ∀ (mm : Nat) (v2 v3 : Int32) (k : Nat), v3.toInt = k → k ≤ c → v2 = gb_ps R x k → gb_hc (cs_Law_payFor_L_4 n mm σ k0 x v2 v3) (fun s r => s = σ ∧ r = gb_ps R x c) := by
  have rd : ∀ k j, k < c → j < 3 → σ.1 (k0 + 1) (1 + 3 * k + j) = R (1 + 3 * k + j) := fun k j hk hj => by
    have := hS.2.2.1 (Or.inr rfl) (3 * k + j) (by have e : gb_wid 2 = 3 := rfl; rw [e]; omega)
    rw [show 1 + 3 * k + j = 1 + (3 * k + j) by omega]
    exact this
  intro mm
  induction mm with
  | zero =>
    intros
    exact hc_none
  | succ mm ih =>
    intro v2 v3 k e3 hk e2
    rw [cs_Law_payFor_L_4]
    refine hc_kk (fun _ => hc_cd ch_sizeL (fun s r h => ?_))
    obtain ⟨rfl, rfl⟩ := h
    rw [hS.1]
    refine hc_if (fun d => hc_some ⟨rfl, ?_⟩) (fun d => ?_)
    · have := gi_le d
      have hkc : k = c := by omega
      rw [e2, hkc]
    · have hkc : k < c := by
        have := gi_nle d
        omega
      refine hc_cd (ch_cellL e3 (by omega) (j := 1) (by decide) (by decide)) (fun s r h => ?_)
      obtain ⟨rfl, ra⟩ := h
      refine hc_cd (ch_cellL e3 (by omega) (j := 2) (by decide) (by decide)) (fun s r2 h => ?_)
      obtain ⟨rfl, rb⟩ := h
      refine hc_cd (P := fun s2 r3 => s2 = s ∧ r3 = s.1 (k0 + 1) (1 + 3 * k + 0)) ?_ (fun s2 r3 h => ?_)
      · unfold cs_Lines_kind_L
        exact hc_kk (fun _ => hc_cd (ch_cellL e3 (by omega) (j := 0) (by decide) (by decide)) (fun s2 r2 h => hc_some h))
      · obtain ⟨rfl, rk⟩ := h
        rw [rd k 1 hkc (by decide)] at ra
        rw [rd k 2 hkc (by decide)] at rb
        rw [rd k 0 hkc (by decide), Nat.add_zero] at rk
        rw [show 1 + 3 * k + 1 = 2 + 3 * k by omega] at ra
        rw [show 1 + 3 * k + 2 = 3 + 3 * k by omega] at rb
        subst ra
        subst rb
        subst rk
        have ik := rL_k hL (k := k) (by omega)
        have fin : ∀ (y z : Int32), y = gb_pst (R (1 + 3 * k)) (R (2 + 3 * k)) (R (3 + 3 * k)) x v2 → z = v3 + 1 → gb_hc (cs_Law_payFor_L_4 n mm s2 k0 x y z) (fun s r => s = s2 ∧ r = gb_ps R x c) := fun y z hy hz => by
          refine ih y z (k + 1) (gi_1 e3 (by omega) hz) (by omega) ?_
          rw [hy, e2]
          rfl
        refine hc_if (fun c0 => hc_lt (fun y ey => hc_lt (fun z ez => fin y z (by unfold gb_pst; rw [if_pos c0]; exact ey) ez))) (fun c0 => ?_)
        refine hc_if (fun c1 => hc_if (fun d1 => hc_lt (fun y ey => hc_lt (fun z ez => fin y z (by unfold gb_pst; rw [if_neg c0, if_pos c1, if_pos d1]; exact ey) ez))) (fun d1 => hc_lt (fun y ey => hc_lt (fun z ez => fin y z (by unfold gb_pst; rw [if_neg c0, if_pos c1, if_neg d1]; exact ey) ez)))) (fun c1 => ?_)
        refine hc_if (fun c2 => hc_if (fun d1 => hc_lt (fun y ey => hc_lt (fun z ez => fin y z (by unfold gb_pst; rw [if_neg c0, if_neg c1, if_pos c2, if_pos d1]; exact ey) ez))) (fun d1 => hc_lt (fun y ey => hc_lt (fun z ez => fin y z (by unfold gb_pst; rw [if_neg c0, if_neg c1, if_pos c2, if_neg d1]; exact ey) ez)))) (fun c2 => ?_)
        refine hc_if (fun c3 => hc_lt (fun q eq => hc_if (fun d1 => hc_lt (fun y ey => hc_lt (fun z ez => fin y z (by unfold gb_pst; rw [if_neg c0, if_neg c1, if_neg c2, if_pos c3, if_pos (by rw [← eq]; exact d1)]; exact ey) ez))) (fun d1 => hc_lt (fun y ey => hc_lt (fun z ez => fin y z (by unfold gb_pst; rw [if_neg c0, if_neg c1, if_neg c2, if_pos c3, if_neg (by rw [← eq]; exact d1)]; exact ey) ez))))) (fun c3 => ?_)
        refine hc_if (fun c4 => hc_lt (fun y ey => hc_lt (fun z ez => fin y z ?_ ez))) (fun c4 => ?_)
        · unfold gb_pst
          rw [if_neg c0, if_neg c1, if_neg c2, if_neg c3, ey]
          by_cases q : R (2 + 3 * k) < v2
          · rw [if_pos q, if_neg (fun w => by have := gi_lt q; have := gi_le w; omega)]
          · rw [if_neg q, if_pos (Int32.le_iff_toInt_le.mpr (gi_nlt q))]
        · rcases gb_or5 ik with q | q | q | q | q
          · exact absurd q c0
          · exact absurd q c1
          · exact absurd q c2
          · exact absurd q c3
          · exact absurd q c4
theorem mh_paysBy4 {n : Nat} {f : gb_F} {R : Nat → Int32} {x : Int32} {c : Nat} (hm : gb_mlaw R f) (hc : (R 0).toInt = c) (hc8 : c ≤ 8) : ∀ (mm : Nat) (w : Int64) (v2 v3 : Int32) (k : Nat), v3.toInt = k → k ≤ c → v2 = gb_ps R x k → gb_hm (ms_paysBy_4 n mm f w x v2 v3) (fun f2 w2 r => f2 = f ∧ w2 = w ∧ r = gb_ps R x c) := by
  intro mm
  induction mm with
  | zero =>
    intros
    exact hm_none
  | succ mm ih =>
    intro w v2 v3 k e3 hk e2
    rw [ms_paysBy_4, mx_nlaw hm]
    refine hm_ck (fun _ _ => hm_lt (fun y0 ey0 => ?_))
    subst ey0
    refine hm_if (fun d => hm_some ⟨rfl, rfl, ?_⟩) (fun d => ?_)
    · have := gi_le d
      have hkc : k = c := by omega
      rw [e2, hkc]
    · have hkc : k < c := by
        have := gi_nle d
        omega
      refine hm_bd (mx_termOf hm e3 (by omega) (j := 1) (by decide) (by decide)) (fun f1 w1 r h => ?_)
      obtain ⟨rfl, rfl, ra⟩ := h
      refine hm_bd (mx_termOf hm e3 (by omega) (j := 2) (by decide) (by decide)) (fun f2 w2 r2 h => ?_)
      obtain ⟨rfl, rfl, rb⟩ := h
      refine hm_bd (mx_termOf hm e3 (by omega) (j := 0) (by decide) (by decide)) (fun f3 w3 r3 h => ?_)
      obtain ⟨rfl, rfl, rk⟩ := h
      rw [Nat.add_zero] at rk
      rw [show 1 + 3 * k + 1 = 2 + 3 * k by omega] at ra
      rw [show 1 + 3 * k + 2 = 3 + 3 * k by omega] at rb
      subst ra
      subst rb
      subst rk
      have fin : ∀ (y z : Int32), y = gb_pst (R (1 + 3 * k)) (R (2 + 3 * k)) (R (3 + 3 * k)) x v2 → z = v3 + 1 → gb_hm (ms_paysBy_4 n mm f3 w3 x y z) (fun f2 w2 r => f2 = f3 ∧ w2 = w3 ∧ r = gb_ps R x c) := fun y z hy hz => by
        refine ih w3 y z (k + 1) (gi_1 e3 (by omega) hz) (by omega) ?_
        rw [hy, e2]
        rfl
      refine hm_if (fun c0 => hm_lt (fun y ey => hm_lt (fun z ez => fin y z (by unfold gb_pst; rw [if_pos c0]; exact ey) ez))) (fun c0 => ?_)
      refine hm_if (fun c1 => hm_if (fun d1 => hm_lt (fun y ey => hm_lt (fun z ez => fin y z (by unfold gb_pst; rw [if_neg c0, if_pos c1, if_pos d1]; exact ey) ez))) (fun d1 => hm_lt (fun y ey => hm_lt (fun z ez => fin y z (by unfold gb_pst; rw [if_neg c0, if_pos c1, if_neg d1]; exact ey) ez)))) (fun c1 => ?_)
      refine hm_if (fun c2 => hm_if (fun d1 => hm_lt (fun y ey => hm_lt (fun z ez => fin y z (by unfold gb_pst; rw [if_neg c0, if_neg c1, if_pos c2, if_pos d1]; exact ey) ez))) (fun d1 => hm_lt (fun y ey => hm_lt (fun z ez => fin y z (by unfold gb_pst; rw [if_neg c0, if_neg c1, if_pos c2, if_neg d1]; exact ey) ez)))) (fun c2 => ?_)
      refine hm_if (fun c3 => hm_lt (fun q eq => hm_if (fun d1 => hm_lt (fun y ey => hm_lt (fun z ez => fin y z (by unfold gb_pst; rw [if_neg c0, if_neg c1, if_neg c2, if_pos c3, if_pos (by rw [← eq]; exact d1)]; exact ey) ez))) (fun d1 => hm_lt (fun y ey => hm_lt (fun z ez => fin y z (by unfold gb_pst; rw [if_neg c0, if_neg c1, if_neg c2, if_pos c3, if_neg (by rw [← eq]; exact d1)]; exact ey) ez))))) (fun c3 => ?_)
      refine hm_if (fun q => hm_lt (fun z ez => fin _ z (by unfold gb_pst; rw [if_neg c0, if_neg c1, if_neg c2, if_neg c3, if_pos q]) ez)) (fun q => hm_lt (fun z ez => fin _ z (by unfold gb_pst; rw [if_neg c0, if_neg c1, if_neg c2, if_neg c3, if_neg q]) ez))
def gb_payL (R : Nat → Int32) (x : Int32) : Int32 := gb_ps R x (R 0).toInt.toNat
theorem ch_payFor {n : Nat} {σ : gb_S} {k0 : Nat} {R : Nat → Int32} {x : Int32} (hS : gb_RS 2 (σ.1 (k0 + 1)) R) (hL : gb_raL R) : gb_hc (cs_Law_payFor_L n σ k0 x) (fun s r => s = σ ∧ r = gb_payL R x) := by
  unfold cs_Law_payFor_L
  have i := rL_0 hL
  have i1 := i.1
  have i2 := i.2
  exact hc_kk (fun _ => ch_payFor4 hS hL (c := (R 0).toInt.toNat) (by omega) (by omega) n 0 0 0 (by decide) (Nat.zero_le _) rfl)
theorem mh_paysBy {n : Nat} {f : gb_F} {w : Int64} {R : Nat → Int32} {x : Int32} (hm : gb_mlaw R f) (hL : gb_raL R) : gb_hm (ms_paysBy n f w x) (fun f2 w2 r => f2 = f ∧ w2 = w ∧ r = gb_payL R x) := by
  unfold ms_paysBy
  have i := rL_0 hL
  have i1 := i.1
  have i2 := i.2
  exact mh_paysBy4 hm (c := (R 0).toInt.toNat) (by omega) (by omega) n w 0 0 0 (by decide) (Nat.zero_le _) rfl
def gb_Apays (f : gb_F) (p1 p2 : Int32) : Int32 := if gb_i0 p1 (f 1 2) ∧ (0 ≤ p2.toInt ∧ p2.toInt ≤ 9999) then gb_payL (gb_Rs 2 f p1) p2 else -1
theorem c_pays {n : Nat} {σ : gb_S} {f : gb_F} {p1 p2 : Int32} (h : gb_R σ f) (hM : gb_TM f) : gb_hc (cs_Face_pays n σ p1 p2) (fun _ r => r = gb_Apays f p1 p2) := by
  unfold cs_Face_pays
  have c0 : (0 : Int32).toInt = 0 := by decide
  have c9 : (9999 : Int32).toInt = 9999 := by decide
  refine hc_cd (cx_law h hM) (fun s r g => ?_)
  obtain ⟨rfl, g⟩ := g
  rcases g with ⟨g1, g2⟩ | ⟨g1, g2, g3, g4⟩
  · rw [if_pos g1]
    refine hc_some ?_
    unfold gb_Apays
    rw [if_neg (fun z => g2 z.1)]
  · rw [if_neg g1]
    refine hc_kk (fun _ => hc_if (fun c => hc_some ?_) (fun c => hc_if (fun d => ?_) (fun d => hc_some ?_)))
    · have := gi_lt c
      unfold gb_Apays
      rw [if_neg (by omega)]
    · have a1 := gi_nlt c
      have a2 := gi_le d
      refine hc_cd (ch_payFor g3 (rL_of hM g2)) (fun s2 r2 k => hc_some ?_)
      rw [k.2]
      unfold gb_Apays
      rw [if_pos ⟨g2, by omega, by omega⟩]
    · have := gi_nle d
      unfold gb_Apays
      rw [if_neg (by omega)]
theorem m_pays {n : Nat} {f : gb_F} {w : Int64} {p1 p2 : Int32} (hM : gb_TM f) : gb_hm (ms_pays n f w p1 p2) (fun _ _ r => r = gb_Apays f p1 p2) := by
  unfold ms_pays
  have c0 : (0 : Int32).toInt = 0 := by decide
  have c9 : (9999 : Int32).toInt = 9999 := by decide
  refine hm_bd (mh_isOf hM (s := 2) (by decide) (by decide)) (fun g u r hg => ?_)
  obtain ⟨rfl, rfl, hg⟩ := hg
  refine hm_if (fun c => hm_some ?_) (fun c => ?_)
  · rcases hg with z | ⟨m, z, -⟩
    · unfold gb_Apays
      rw [if_neg (fun y => in_Nk z.2 y.1)]
    · rw [c] at z
      exact absurd z (by decide)
  · rcases hg with z | ⟨m, z1, z2, z3⟩
    · exact absurd z.1 c
    · refine hm_bd mh_isIn (fun g2 u2 r2 k => ?_)
      obtain ⟨rfl, rfl, k⟩ := k
      rw [c0, c9] at k
      refine hm_if (fun d => hm_some ?_) (fun d => ?_)
      · have nn : ¬ (0 ≤ p2.toInt ∧ p2.toInt ≤ 9999) := by
          rcases k with y | y
          · rw [d] at y
            exact absurd y.1 (by decide)
          · omega
        unfold gb_Apays
        rw [if_neg (fun y => nn y.2)]
      · have yy : 0 ≤ p2.toInt ∧ p2.toInt ≤ 9999 := by
          rcases k with y | y
          · exact y.2
          · exact absurd y.1 d
        refine hm_bd (hm_of (mt_placeOfE (s := 2) (by decide) (by decide) z2.1 (by omega))) (fun g3 u3 r3 hh => hm_lt (fun y ey => ?_))
        obtain ⟨e1, e2, e3⟩ := hh
        subst e1
        subst e2
        have hml : gb_mlaw (gb_Rs 2 g3 p1) y := by
          refine ⟨m, z3, ?_, fun j => ?_⟩
          · unfold gb_mb
            rw [ey, gb_us, pk_us]
            exact e3
          · rw [ey, gb_un (by decide), Rs_E z2]
        refine hm_bd (mh_paysBy hml (rL_of hM (in_Lk z2))) (fun g4 u4 r4 k4 => hm_some ?_)
        rw [k4.2.2]
        unfold gb_Apays
        rw [if_pos ⟨in_Lk z2, yy⟩]
theorem e_pays {σ σ2 : gb_S} {f f2 : gb_F} {w w2 : Int64} {p1 p2 ra qa : Int32} (_ : gb_TC σ) (hM : gb_TM f) (h : gb_R σ f) (ec : cs_Face_pays gb_N σ p1 p2 = some (σ2, ra)) (em : ms_pays gb_N f w p1 p2 = some (f2, w2, qa)) : ra = qa := (c_pays h hM _ _ ec).trans (m_pays hM _ _ _ em).symm
/-! alike -/
def gb_al (R : Nat → Int32) (a b : Nat) : Nat → Int32
  | 0 => 0
  | k + 1 => if gb_fm R a k = gb_fm R b k then gb_al R a b k ||| gb_bit (nI k) else gb_al R a b k
theorem gi_nI {x : Int32} {k : Nat} (h : x.toInt = k) (hk : k ≤ 100000) : x = nI k := gb_ieq (by rw [h, nI_toInt (by omega)])
theorem ch_alike43 {n : Nat} {σ : gb_S} {k0 a b : Nat} {R : Nat → Int32} {v2 v3 : Int32} (hb : gb_cbx k0 R σ) (hR : gb_rB R) (ea : v2.toInt = a) (ha : a < gb_nG R) (eb : v3.toInt = b) (hb2 : b < gb_nG R) : ∀ (mm : Nat) (v5 v6 : Int32) (k : Nat), v6.toInt = k → k ≤ gb_nP R → v5 = gb_al R a b k → gb_hc (cs_Face_alike_43 n mm σ v2 v3 k0 v5 v6) (fun _ r => r = gb_al R a b (gb_nP R)) := by
  have h5 := (rB_nP hR).2
  have nE := (rB_nP hR).1
  intro mm
  induction mm with
  | zero =>
    intros
    exact hc_none
  | succ mm ih =>
    intro v5 v6 k e6 hk e5
    rw [cs_Face_alike_43]
    refine hc_kk (fun _ => hc_cd ch_paths (fun s r h => ?_))
    obtain ⟨rfl, rfl⟩ := h
    have e0 : s.1 (k0 + 1) 0 = R 0 := hb.1
    rw [e0]
    refine hc_if (fun d => hc_some ?_) (fun d => ?_)
    · have := gi_le d
      rw [e5, show k = gb_nP R by omega]
    · have hkc : k < gb_nP R := by
        have := gi_nle d
        omega
      refine hc_cd (ch_marksFirst hb hR ea ha e6 hkc) (fun s1 r1 h1 => ?_)
      obtain ⟨rfl, rfl⟩ := h1
      refine hc_cd (ch_marksFirst hb hR eb hb2 e6 hkc) (fun s2 r2 h2 => ?_)
      obtain ⟨rfl, rfl⟩ := h2
      refine hc_if (fun q => hc_lt (fun y ey => hc_lt (fun z ez => ih y z (k + 1) (gi_1 e6 (by omega) ez) (by omega) ?_))) (fun q => hc_lt (fun z ez => ih v5 z (k + 1) (gi_1 e6 (by omega) ez) (by omega) ?_))
      · show y = if gb_fm R a k = gb_fm R b k then gb_al R a b k ||| gb_bit (nI k) else gb_al R a b k
        rw [if_pos q, ey, e5, ← gi_nI e6 (by omega)]
        rfl
      · show v5 = if gb_fm R a k = gb_fm R b k then gb_al R a b k ||| gb_bit (nI k) else gb_al R a b k
        rw [if_neg q, e5]
theorem mh_alike37 {n m a b : Nat} {f : gb_F} {R : Nat → Int32} {v2 v3 : Int32} (hb : gb_mbx m R f) (ea : v2.toInt = a) (ha : a < gb_nG R) (eb : v3.toInt = b) (hb2 : b < gb_nG R) : ∀ (mm : Nat) (w : Int64) (v4 v5 : Int32) (k : Nat), v5.toInt = k → k ≤ gb_nP R → v4 = gb_al R a b k → gb_hm (ms_alike_37 n mm f w v2 v3 v4 v5) (fun _ _ r => r = gb_al R a b (gb_nP R)) := by
  have hR := mbx_rB hb
  have h5 := (rB_nP hR).2
  have h8 := (rB_nG hR).2
  have nE := (rB_nP hR).1
  intro mm
  induction mm with
  | zero =>
    intros
    exact hm_none
  | succ mm ih =>
    intro w v4 v5 k e5 hk e4
    rw [ms_alike_37]
    refine hm_bd (mx_paths hb) (fun f1 w1 r h => ?_)
    obtain ⟨rfl, rfl, rfl⟩ := h
    refine hm_if (fun d => hm_some ?_) (fun d => ?_)
    · have := gi_le d
      rw [e4, show k = gb_nP R by omega]
    · have hkc : k < gb_nP R := by
        have := gi_nle d
        omega
      refine hm_bd (mx_firstMarks hb ea (by omega) e5 (by omega)) (fun f2 w2 r1 h1 => ?_)
      obtain ⟨rfl, rfl, rfl⟩ := h1
      refine hm_bd (mx_firstMarks hb eb (by omega) e5 (by omega)) (fun f3 w3 r2 h2 => ?_)
      obtain ⟨rfl, rfl, rfl⟩ := h2
      refine hm_if (fun q => hm_lt (fun y ey => hm_lt (fun z ez => ih w3 y z (k + 1) (gi_1 e5 (by omega) ez) (by omega) ?_))) (fun q => hm_lt (fun y ey => hm_lt (fun z ez => ih w3 y z (k + 1) (gi_1 e5 (by omega) ez) (by omega) ?_)))
      · show y = if gb_fm R a k = gb_fm R b k then gb_al R a b k ||| gb_bit (nI k) else gb_al R a b k
        rw [if_pos q, ey, e4, ← gi_nI e5 (by omega)]
        rfl
      · show y = if gb_fm R a k = gb_fm R b k then gb_al R a b k ||| gb_bit (nI k) else gb_al R a b k
        rw [if_neg q, ey, e4, Int32.or_zero]
def gb_Aalike (f : gb_F) (p1 p2 p3 : Int32) : Int32 := if gb_i0 p1 (f 1 0) then (if ¬ p2 = p3 ∧ gb_i0 p2 (gb_Rs 0 f p1 1) ∧ gb_i0 p3 (gb_Rs 0 f p1 1) then gb_al (gb_Rs 0 f p1) p2.toInt.toNat p3.toInt.toNat (gb_nP (gb_Rs 0 f p1)) else -1) else -1
theorem c_alike {n : Nat} {σ : gb_S} {f : gb_F} {p1 p2 p3 : Int32} (h : gb_R σ f) (hM : gb_TM f) : gb_hc (cs_Face_alike n σ p1 p2 p3) (fun _ r => r = gb_Aalike f p1 p2 p3) := by
  unfold cs_Face_alike
  refine hc_cd (cx_border h hM) (fun s r g => ?_)
  obtain ⟨rfl, g⟩ := g
  rcases g with ⟨g1, g2⟩ | ⟨g1, g2, g3, g4⟩
  · rw [if_pos g1]
    refine hc_some ?_
    unfold gb_Aalike
    rw [if_neg g2]
  · rw [if_neg g1]
    refine hc_kk (fun _ => hc_if (fun c => hc_some ?_) (fun c => hc_cd (cbx_hasG g3) (fun s2 r2 k => ?_)))
    · unfold gb_Aalike
      rw [if_pos g2, if_neg (fun z => z.1 c)]
    · obtain ⟨rfl, k⟩ := k
      refine hc_if (fun d => hc_some ?_) (fun d => hc_cd (cbx_hasG g3) (fun s3 r3 k' => ?_))
      · unfold gb_Aalike
        rw [if_pos g2, if_neg (fun z => (yn_0 k d) z.2.1)]
      · obtain ⟨rfl, k'⟩ := k'
        obtain ⟨k1, k2, k3⟩ := yn_1 k d
        refine hc_if (fun e => hc_some ?_) (fun e => ?_)
        · unfold gb_Aalike
          rw [if_pos g2, if_neg (fun z => (yn_0 k' e) z.2.2)]
        · obtain ⟨l1, l2, l3⟩ := yn_1 k' e
          refine hc_mono (ch_alike43 g3 g4 k2 k3 l2 l3 n 0 0 0 (by decide) (Nat.zero_le _) rfl) (fun _ r hr => ?_)
          rw [hr]
          unfold gb_Aalike
          rw [if_pos g2, if_pos ⟨c, k1, l1⟩]
theorem m_alike {n : Nat} {f : gb_F} {w : Int64} {p1 p2 p3 : Int32} (hM : gb_TM f) : gb_hm (ms_alike n f w p1 p2 p3) (fun _ _ r => r = gb_Aalike f p1 p2 p3) := by
  unfold ms_alike
  refine hm_bd (mx_isBorder hM) (fun f1 w1 r g => ?_)
  obtain ⟨-, -, hM1, g⟩ := g
  refine hm_if (fun c => hm_some ?_) (fun c => ?_)
  · unfold gb_Aalike
    rw [if_neg (yn_0 g c)]
  · obtain ⟨g2, m, g3⟩ := yn_1 g c
    refine hm_bd (mbx_hasG g3) (fun f2 w2 r2 k => ?_)
    obtain ⟨rfl, rfl, k⟩ := k
    refine hm_if (fun d => hm_some ?_) (fun d => ?_)
    · unfold gb_Aalike
      rw [if_pos g2, if_neg (fun z => (yn_0 k d) z.2.1)]
    · obtain ⟨k1, k2, k3⟩ := yn_1 k d
      refine hm_bd (mbx_hasG g3) (fun f3 w3 r3 k' => ?_)
      obtain ⟨rfl, rfl, k'⟩ := k'
      refine hm_if (fun e => hm_some ?_) (fun e => ?_)
      · unfold gb_Aalike
        rw [if_pos g2, if_neg (fun z => (yn_0 k' e) z.2.2)]
      · obtain ⟨l1, l2, l3⟩ := yn_1 k' e
        refine hm_if (fun c => hm_some ?_) (fun c => ?_)
        · unfold gb_Aalike
          rw [if_pos g2, if_neg (fun z => z.1 c)]
        · refine hm_mono (mh_alike37 g3 k2 k3 l2 l3 n w3 0 0 0 (by decide) (Nat.zero_le _) rfl) (fun _ _ r hr => ?_)
          rw [hr]
          unfold gb_Aalike
          rw [if_pos g2, if_pos ⟨c, k1, l1⟩]
theorem e_alike {σ σ2 : gb_S} {f f2 : gb_F} {w w2 : Int64} {p1 p2 p3 ra qa : Int32} (_ : gb_TC σ) (hM : gb_TM f) (h : gb_R σ f) (ec : cs_Face_alike gb_N σ p1 p2 p3 = some (σ2, ra)) (em : ms_alike gb_N f w p1 p2 p3 = some (f2, w2, qa)) : ra = qa := (c_alike h hM _ _ ec).trans (m_alike hM _ _ _ em).symm
/-! A NIGHT AS IT GOES: Play of the class, runs of the reference -/
def gb_tbt (x : Int32) (g : Nat) : Bool := x.toBitVec.getLsbD g
def gb_PR (R : Nat → Int32) (t : Prop) (σ : gb_S) (f : gb_F) : Prop :=
  (∀ g, g < 8 → σ.1 112 g = f 4 g ∧ σ.1 113 g = f 5 g ∧ (t → σ.1 114 g = f 6 g) ∧ σ.1 115 g = f 7 g) ∧
  (∀ g, g < 8 → gb_iv 0 2 (f 4 g) ∧ gb_iv (-1) 60 (f 5 g)) ∧
  (∀ p, p < 5 → σ.1 116 p = f 10 p ∧ σ.1 117 p = f 11 p ∧ σ.1 118 p = f 12 p) ∧
  (∀ g p, g < 8 → p < 5 → (σ.1 119 (8 * p + g)).toInt = (f 9 (5 * g + p)).toInt + 1 ∧ gb_iv (-1) 23 (f 9 (5 * g + p))) ∧
  (σ.1 109 10 = f 0 22 ∧ σ.1 109 11 = f 0 23) ∧
  (∀ g, g < gb_nG R → (¬ f 8 g = 0 ↔ (0 < (R (18 + 5 * g + 2)).toInt ∨ gb_tbt (σ.1 109 9) g = true)))
def gb_raN (R : Nat → Int32) : Prop := ∀ j, j < 97 → gb_iv (gt_R 1 j).1 (gt_R 1 j).2 (R j)
def gb_PC (k0 k1 : Nat) (R NR : Nat → Int32) (σ : gb_S) : Prop := σ.2.1 1 = k0 ∧ gb_cbx k0 R σ ∧ gb_RS 1 (σ.1 (k1 + 1)) NR ∧ k0 + 1 < 109 ∧ k1 + 1 < 109
def gb_PM (m : Nat) (R NR : Nat → Int32) (f : gb_F) : Prop := gb_mbx m R f ∧ gb_mnight NR f ∧ gb_raN NR
def gb_pfr (σ σ2 : gb_S) : Prop := σ2.2 = σ.2 ∧ ∀ k, k < 109 → σ2.1 k = σ.1 k
def gb_mfr (f f2 : gb_F) : Prop := f2 1 = f 1 ∧ f2 0 11 = f 0 11 ∧ f2 0 12 = f 0 12 ∧ f2 0 24 = f 0 24 ∧ f2 2 = f 2
theorem pfr_r {σ : gb_S} : gb_pfr σ σ := ⟨rfl, fun _ _ => rfl⟩
theorem pfr_t {σ σ1 σ2 : gb_S} (a : gb_pfr σ σ1) (b : gb_pfr σ1 σ2) : gb_pfr σ σ2 := ⟨b.1.trans a.1, fun k hk => (b.2 k hk).trans (a.2 k hk)⟩
theorem pfr_u {σ : gb_S} {k : Nat} {F : Nat → Int32} (h : 109 ≤ k) : gb_pfr σ (gb_su σ k F) := ⟨rfl, fun j hj => gb_sun (by omega)⟩
theorem mfr_r {f : gb_F} : gb_mfr f f := ⟨rfl, rfl, rfl, rfl, rfl⟩
theorem mfr_t {f g h : gb_F} (a : gb_mfr f g) (b : gb_mfr g h) : gb_mfr f h := ⟨b.1.trans a.1, b.2.1.trans a.2.1, b.2.2.1.trans a.2.2.1, b.2.2.2.1.trans a.2.2.2.1, b.2.2.2.2.trans a.2.2.2.2⟩
theorem mfr_u {f : gb_F} {k : Nat} {F : Nat → Int32} (h : 3 ≤ k) : gb_mfr f (gb_u f k F) := ⟨gb_un (by omega), by rw [gb_un (by omega)], by rw [gb_un (by omega)], by rw [gb_un (by omega)], gb_un (by omega)⟩
theorem mfr_0 {f : gb_F} {j : Nat} {v : Int32} (h : j ≠ 11 ∧ j ≠ 12 ∧ j ≠ 24) : gb_mfr f (gb_u f 0 (upd (f 0) j v)) := ⟨gb_un (by decide), by rw [gb_us, pk_un (Ne.symm h.1)], by rw [gb_us, pk_un (Ne.symm h.2.1)], by rw [gb_us, pk_un (Ne.symm h.2.2)], gb_un (by decide)⟩
theorem PC_k {k0 k1 : Nat} {R NR : Nat → Int32} {σ σ2 : gb_S} (h : gb_PC k0 k1 R NR σ) (g : gb_pfr σ σ2) : gb_PC k0 k1 R NR σ2 := by
  obtain ⟨h1, h2, h3, h4, h5⟩ := h
  refine ⟨by rw [g.1]; exact h1, ?_, ?_, h4, h5⟩
  · unfold gb_cbx
    rw [g.2 _ h4]
    exact h2
  · rw [g.2 _ h5]
    exact h3
theorem PM_k {m : Nat} {R NR : Nat → Int32} {f f2 : gb_F} (h : gb_PM m R NR f) (g : gb_mfr f f2) : gb_PM m R NR f2 := by
  obtain ⟨⟨a1, a2, a3, a4⟩, ⟨m2, b1, b2, b3⟩, h3⟩ := h
  have e11 : (f2 0 11).toInt = gb_pl 0 m := by rw [g.2.1]; exact a3
  have e12 : (f2 0 12).toInt = gb_pl 1 m2 := by rw [g.2.2.1]; exact b2
  exact ⟨⟨a1, a2, e11, fun j => by rw [g.1]; exact a4 j⟩, ⟨m2, b1, e12, fun j => by rw [g.1]; exact b3 j⟩, h3⟩
def gb_nD (NR : Nat → Int32) : Nat := (NR 0).toInt.toNat
theorem rN_0 {NR : Nat → Int32} (h : gb_raN NR) : (NR 0).toInt = gb_nD NR ∧ gb_nD NR ≤ 24 := by
  have i : gb_iv 0 24 (NR 0) := gb_iw (h 0 (by decide)) (by decide)
  have h1 := i.1
  have h2 := i.2
  unfold gb_nD
  omega
theorem rN_d {NR : Nat → Int32} {k i : Nat} (h : gb_raN NR) (hk : k < 24) (hi : i < 4) : gb_iv (if i = 0 then (0, 8) else if i = 1 then (-1, 10) else if i = 2 then (-1, 60) else ((-1, 4) : Int × Int)).1 (if i = 0 then (0, 8) else if i = 1 then (-1, 10) else if i = 2 then (-1, 60) else ((-1, 4) : Int × Int)).2 (NR (1 + 4 * k + i)) := by
  have := h (1 + 4 * k + i) (by omega)
  rw [gt_R1d hi] at this
  exact this
theorem ch_dN {n : Nat} {σ : gb_S} {k0 k1 k j : Nat} {R NR : Nat → Int32} {x y : Int32} (h : gb_PC k0 k1 R NR σ) (e1 : x.toInt = k) (hk : k < gb_nD NR) (hk2 : k < 24) (e2 : y.toInt = j) (hj : j < 4) : gb_hc (cs_Lines_cell_N n σ k1 x y) (fun s r => s = σ ∧ r = NR (1 + 4 * k + j)) := by
  refine hc_mono (ch_cellN e1 (by omega) e2 (by omega)) (fun s r g => ⟨g.1, ?_⟩)
  rw [g.2, show 1 + 4 * k + j = 1 + (4 * k + j) by omega]
  exact h.2.2.1.2.2.1 (Or.inl rfl) _ (by have e : gb_wid 1 = 4 := rfl; rw [e]; unfold gb_nD at hk; omega)
theorem ch_kN {n : Nat} {σ : gb_S} {k0 k1 k : Nat} {R NR : Nat → Int32} {x : Int32} (h : gb_PC k0 k1 R NR σ) (e1 : x.toInt = k) (hk : k < gb_nD NR) (hk2 : k < 24) : gb_hc (cs_Lines_kind_N n σ k1 x) (fun s r => s = σ ∧ r = NR (1 + 4 * k)) := by
  unfold cs_Lines_kind_N
  exact hc_kk (fun _ => hc_cd (ch_dN h e1 hk hk2 (j := 0) (by decide) (by decide)) (fun s r g => hc_some g))
/-- whether one stands somewhere -/
def gb_at2 (R : Nat → Int32) (f : gb_F) (x v : Int32) : Prop := gb_i0 x (R 1) ∧ f 4 x.toInt.toNat = v
theorem ch_stands {n : Nat} {σ : gb_S} {k0 k1 : Nat} {R NR : Nat → Int32} {f : gb_F} {t : Prop} {x v : Int32} (h : gb_PC k0 k1 R NR σ) (hR : gb_rB R) (hP : gb_PR R t σ f) : gb_hc (cs_Play_stands n σ x v) (fun s r => s = σ ∧ ((r = 0 ∧ ¬ gb_at2 R f x v) ∨ (r = 1 ∧ gb_at2 R f x v))) := by
  unfold cs_Play_stands
  rw [h.1]
  have h8 := (rB_nG hR).2
  refine hc_kk (fun _ => hc_cd (cbx_hasG h.2.1) (fun s r g => ?_))
  obtain ⟨rfl, g⟩ := g
  refine hc_if (fun c => hc_some ⟨rfl, Or.inl ⟨rfl, fun z => (yn_0 g c) z.1⟩⟩) (fun c => ?_)
  obtain ⟨g1, g2, g3⟩ := yn_1 g c
  rw [gi_tn g2, (hP.1 x.toInt.toNat (by omega)).1]
  refine hc_ck (fun _ _ => hc_lt (fun y ey => ?_))
  subst ey
  exact hc_if (fun d => hc_some ⟨rfl, Or.inr ⟨rfl, g1, d⟩⟩) (fun d => hc_some ⟨rfl, Or.inl ⟨rfl, fun z => d z.2⟩⟩)
theorem mh_isAt {n m : Nat} {R : Nat → Int32} {f : gb_F} {w : Int64} {x v : Int32} (h : gb_mbx m R f) : gb_hm (ms_isAt n f w x v) (fun f2 w2 r => f2 = f ∧ w2 = w ∧ ((r = 0 ∧ ¬ gb_at2 R f x v) ∨ (r = 1 ∧ gb_at2 R f x v))) := by
  unfold ms_isAt
  refine hm_bd (mbx_hasG h) (fun f2 w2 r g => ?_)
  obtain ⟨rfl, rfl, g⟩ := g
  refine hm_if (fun c => hm_some ⟨rfl, rfl, Or.inl ⟨rfl, fun z => (yn_0 g c) z.1⟩⟩) (fun c => ?_)
  obtain ⟨g1, g2, g3⟩ := yn_1 g c
  rw [gi_tn g2]
  refine hm_ck (fun _ _ => hm_lt (fun y ey => ?_))
  subst ey
  exact hm_if (fun d => hm_some ⟨rfl, rfl, Or.inr ⟨rfl, g1, d⟩⟩) (fun d => hm_some ⟨rfl, rfl, Or.inl ⟨rfl, fun z => d z.2⟩⟩)
/-! the latest that went by a path -/
def gb_fox (f : gb_F) (p : Nat) : Nat → Int × Int
  | 0 => (-1, -1)
  | g + 1 => if f 4 g = 2 ∨ f 9 (5 * g + p) = -1 then gb_fox f p g else if (gb_fox f p g).1 = -1 ∨ (gb_fox f p g).2 < (f 9 (5 * g + p)).toInt then ((g : Int), (f 9 (5 * g + p)).toInt) else gb_fox f p g
theorem fox_b (f : gb_F) (p : Nat) (hf : ∀ g, g < 8 → gb_iv (-1) 23 (f 9 (5 * g + p))) : ∀ g, g ≤ 8 → ((gb_fox f p g).1 = -1 ∧ (gb_fox f p g).2 = -1) ∨ (0 ≤ (gb_fox f p g).1 ∧ (gb_fox f p g).1 < g ∧ 0 ≤ (gb_fox f p g).2 ∧ (gb_fox f p g).2 = (f 9 (5 * (gb_fox f p g).1.toNat + p)).toInt ∧ (gb_fox f p g).2 ≤ 23) := by
  intro g
  induction g with
  | zero =>
    intro _
    exact Or.inl ⟨rfl, rfl⟩
  | succ g ih =>
    intro hg
    have i := hf g (by omega)
    have i1 := i.1
    have i2 := i.2
    have ih' := ih (by omega)
    show (((if f 4 g = 2 ∨ f 9 (5 * g + p) = -1 then gb_fox f p g else if (gb_fox f p g).1 = -1 ∨ (gb_fox f p g).2 < (f 9 (5 * g + p)).toInt then ((g : Int), (f 9 (5 * g + p)).toInt) else gb_fox f p g) : Int × Int).1 = -1 ∧ _) ∨ _
    have e : gb_fox f p (g + 1) = (if f 4 g = 2 ∨ f 9 (5 * g + p) = -1 then gb_fox f p g else if (gb_fox f p g).1 = -1 ∨ (gb_fox f p g).2 < (f 9 (5 * g + p)).toInt then ((g : Int), (f 9 (5 * g + p)).toInt) else gb_fox f p g) := rfl
    rw [← e]
    by_cases c : f 4 g = 2 ∨ f 9 (5 * g + p) = -1
    · rw [if_pos c] at e
      rw [e]
      rcases ih' with z | z
      · exact Or.inl z
      · exact Or.inr ⟨z.1, by omega, z.2.2⟩
    · rw [if_neg c] at e
      by_cases d : (gb_fox f p g).1 = -1 ∨ (gb_fox f p g).2 < (f 9 (5 * g + p)).toInt
      · rw [if_pos d] at e
        rw [e]
        have nm : (f 9 (5 * g + p)).toInt ≠ -1 := fun z => c (Or.inr (gi_m1.mpr z))
        exact Or.inr ⟨by show (0 : Int) ≤ (g : Int); omega, by show (g : Int) < ((g + 1 : Nat) : Int); omega, by show (0 : Int) ≤ (f 9 (5 * g + p)).toInt; omega, by show _ = (f 9 (5 * ((g : Int)).toNat + p)).toInt; rw [Int.toNat_natCast], i2⟩
      · rw [if_neg d] at e
        rw [e]
        rcases ih' with z | z
        · exact Or.inl z
        · exact Or.inr ⟨z.1, by omega, z.2.2⟩
theorem ch_goer7 {n : Nat} {σ : gb_S} {k0 k1 p : Nat} {R NR : Nat → Int32} {f : gb_F} {t : Prop} {v1 : Int32} (h : gb_PC k0 k1 R NR σ) (hR : gb_rB R) (hP : gb_PR R t σ f) (e1 : v1.toInt = p) (hp : p < 5) : ∀ (mm : Nat) (v2 v3 v4 : Int32) (g : Nat), v4.toInt = g → g ≤ gb_nG R → v3.toInt = (gb_fox f p g).1 → v2.toInt = (gb_fox f p g).2 + 1 → gb_hc (cs_Play_latestGoer_7 n mm σ v1 v2 v3 v4) (fun s r => s = σ ∧ r.toInt = (gb_fox f p (gb_nG R)).1) := by
  have h8 := (rB_nG hR).2
  have gE := (rB_nG hR).1
  have c8 : (8 : Int32).toInt = 8 := by decide
  intro mm
  induction mm with
  | zero =>
    intros
    exact hc_none
  | succ mm ih =>
    intro v2 v3 v4 g e4 hg e3 e2
    rw [cs_Play_latestGoer_7, h.1]
    refine hc_kk (fun _ => hc_cd ch_geese (fun s r k => ?_))
    obtain ⟨rfl, rfl⟩ := k
    have eg : s.1 (k0 + 1) 1 = R 1 := (h.2.1.2.1 rfl).1
    rw [eg]
    refine hc_if (fun d => hc_some ⟨rfl, ?_⟩) (fun d => ?_)
    · have := gi_le d
      rw [e3, show g = gb_nG R by omega]
    · have hgc : g < gb_nG R := by
        have := gi_nle d
        omega
      have m1 : (v1 * 8).toInt = ((8 * p : Nat) : Int) := by
        rw [gb_tmul (by rw [e1, c8]; omega) (by rw [e1, c8]; omega), e1, c8]
        omega
      rw [gi_tn (gi_pl m1 e4 (by omega) (by omega)), gi_tn e4, (hP.1 g (by omega)).1]
      obtain ⟨q1, q2⟩ := hP.2.2.2.1 g p (by omega) hp
      have q21 := q2.1
      have fb := fox_b f p (fun g hg => (hP.2.2.2.1 g p hg hp).2) g (by omega)
      have step : gb_fox f p (g + 1) = (if f 4 g = 2 ∨ f 9 (5 * g + p) = -1 then gb_fox f p g else if (gb_fox f p g).1 = -1 ∨ (gb_fox f p g).2 < (f 9 (5 * g + p)).toInt then ((g : Int), (f 9 (5 * g + p)).toInt) else gb_fox f p g) := rfl
      refine hc_ck (fun _ _ => hc_lt (fun x ex => ?_))
      rw [← ex] at q1
      refine hc_if (fun c => hc_lt (fun z ez => ?_)) (fun c => hc_ck (fun _ _ => hc_lt (fun y ey => ?_)))
      · have c' := gi_le c
        have same : gb_fox f p (g + 1) = gb_fox f p g := by
          rw [step]
          by_cases a : f 4 g = 2 ∨ f 9 (5 * g + p) = -1
          · rw [if_pos a]
          · rw [if_neg a, if_neg (fun b => ?_)]
            have nm : (f 9 (5 * g + p)).toInt ≠ -1 := fun z => a (Or.inr (gi_m1.mpr z))
            rcases b with b | b
            · rcases fb with z | z
              · omega
              · omega
            · omega
        exact ih v2 v3 z (g + 1) (gi_1 e4 (by omega) ez) (by omega) (by rw [same]; exact e3) (by rw [same]; exact e2)
      · have c' := gi_nle c
        subst ey
        refine hc_if (fun a => hc_lt (fun z ez => ?_)) (fun a => hc_lt (fun z ez => ?_))
        · have same : gb_fox f p (g + 1) = gb_fox f p g := by
            rw [step, if_pos (Or.inl a)]
          exact ih v2 v3 z (g + 1) (gi_1 e4 (by omega) ez) (by omega) (by rw [same]; exact e3) (by rw [same]; exact e2)
        · have new : gb_fox f p (g + 1) = ((g : Int), (f 9 (5 * g + p)).toInt) := by
            rw [step, if_neg (fun b => ?_), if_pos (Or.inr (by omega))]
            rcases b with b | b
            · exact a b
            · have := gi_m1.mp b
              rcases fb with z | z <;> omega
          exact ih x v4 z (g + 1) (gi_1 e4 (by omega) ez) (by omega) (by rw [new]; exact e4) (by rw [new]; show x.toInt = _; omega)
theorem ch_goer {n : Nat} {σ : gb_S} {k0 k1 p : Nat} {R NR : Nat → Int32} {f : gb_F} {t : Prop} {v1 : Int32} (h : gb_PC k0 k1 R NR σ) (hR : gb_rB R) (hP : gb_PR R t σ f) (e1 : v1.toInt = p) (hp : p < 5) : gb_hc (cs_Play_latestGoer n σ v1) (fun s r => s = σ ∧ r.toInt = (gb_fox f p (gb_nG R)).1) := by
  unfold cs_Play_latestGoer
  exact ch_goer7 h hR hP e1 hp n 0 (-1) 0 0 (by decide) (Nat.zero_le _) (show ((-1 : Int32)).toInt = (-1 : Int) by decide) (show ((0 : Int32)).toInt = (-1 : Int) + 1 by decide)
theorem mh_foxed4 {n m p : Nat} {R : Nat → Int32} {f : gb_F} {v1 : Int32} (h : gb_mbx m R f) (hf : ∀ g, g < 8 → gb_iv (-1) 23 (f 9 (5 * g + p))) (e1 : v1.toInt = p) (hp : p < 5) : ∀ (mm : Nat) (w : Int64) (v2 v3 : Int32) (g : Nat), v3.toInt = g → g ≤ gb_nG R → v2.toInt = (gb_fox f p g).1 → gb_hm (ms_foxed_4 n mm f w v1 v2 v3) (fun f2 w2 r => f2 = f ∧ w2 = w ∧ r.toInt = (gb_fox f p (gb_nG R)).1) := by
  have hR := mbx_rB h
  have h8 := (rB_nG hR).2
  have gE := (rB_nG hR).1
  have c5 : (5 : Int32).toInt = 5 := by decide
  intro mm
  induction mm with
  | zero =>
    intros
    exact hm_none
  | succ mm ih =>
    intro w v2 v3 g e3 hg e2
    rw [ms_foxed_4]
    refine hm_bd (mx_geese h) (fun f1 w1 r k => ?_)
    obtain ⟨rfl, rfl, rfl⟩ := k
    refine hm_if (fun d => hm_some ⟨rfl, rfl, ?_⟩) (fun d => ?_)
    · have := gi_le d
      rw [e2, show g = gb_nG R by omega]
    · have hgc : g < gb_nG R := by
        have := gi_nle d
        omega
      have ix : ∀ (x : Int32) (a : Nat), x.toInt = a → a ≤ 8 → (5 * x + v1).toInt = ((5 * a + p : Nat) : Int) := fun x a ea ha => by
        have m1 : (5 * x).toInt = ((5 * a : Nat) : Int) := by
          rw [gb_tmul (by rw [ea, c5]; omega) (by rw [ea, c5]; omega), ea, c5]
          omega
        exact gi_pl m1 e1 (by omega) (by omega)
      rw [gi_tn (ix v3 g e3 (by omega)), gi_tn e3]
      have q2 := hf g (by omega)
      have q21 := q2.1
      have fb := fox_b f1 p hf g (by omega)
      have step : gb_fox f1 p (g + 1) = (if f1 4 g = 2 ∨ f1 9 (5 * g + p) = -1 then gb_fox f1 p g else if (gb_fox f1 p g).1 = -1 ∨ (gb_fox f1 p g).2 < (f1 9 (5 * g + p)).toInt then ((g : Int), (f1 9 (5 * g + p)).toInt) else gb_fox f1 p g) := rfl
      have keep : ∀ z : Int32, z = v3 + 1 → gb_fox f1 p (g + 1) = gb_fox f1 p g → gb_hm (ms_foxed_4 n mm f1 w1 v1 v2 z) (fun f2 w2 r => f2 = f1 ∧ w2 = w1 ∧ r.toInt = (gb_fox f1 p (gb_nG R)).1) := fun z ez same => ih w1 v2 z (g + 1) (gi_1 e3 (by omega) ez) (by omega) (by rw [same]; exact e2)
      have take : ∀ z : Int32, z = v3 + 1 → gb_fox f1 p (g + 1) = ((g : Int), (f1 9 (5 * g + p)).toInt) → gb_hm (ms_foxed_4 n mm f1 w1 v1 v3 z) (fun f2 w2 r => f2 = f1 ∧ w2 = w1 ∧ r.toInt = (gb_fox f1 p (gb_nG R)).1) := fun z ez new => ih w1 v3 z (g + 1) (gi_1 e3 (by omega) ez) (by omega) (by rw [new]; exact e3)
      refine hm_ck (fun _ _ => hm_lt (fun x ex => ?_))
      subst ex
      refine hm_if (fun a => hm_lt (fun z ez => keep z ez (by rw [step, if_pos (Or.inl a)]))) (fun a => hm_ck (fun _ _ => hm_lt (fun y ey => ?_)))
      subst ey
      refine hm_if (fun b => hm_lt (fun z ez => keep z ez (by rw [step, if_pos (Or.inr b)]))) (fun b => ?_)
      have nab : ¬ (f1 4 g = 2 ∨ f1 9 (5 * g + p) = -1) := fun z => z.elim a b
      refine hm_if (fun c => hm_lt (fun z ez => take z ez ?_)) (fun c => ?_)
      · rw [step, if_neg nab, if_pos (Or.inl ?_)]
        rw [← e2]
        exact gi_m1.mp c
      · have cn : ¬ (gb_fox f1 p g).1 = -1 := fun z => c (gi_m1.mpr (by rw [e2]; exact z))
        rcases fb with z | ⟨z1, z2, z3, z4, z5⟩
        · exact absurd z.1 cn
        · rw [gi_tn (ix v2 (gb_fox f1 p g).1.toNat (by omega) (by omega))]
          refine hm_ck (fun _ _ => hm_lt (fun u eu => hm_ck (fun _ _ => hm_lt (fun v ev => ?_))))
          refine hm_if (fun q => hm_lt (fun z ez => keep z ez ?_)) (fun q => hm_lt (fun z ez => take z ez ?_))
          · have := gi_le q
            rw [eu, ev, ← z4] at this
            rw [step, if_neg nab, if_neg (by omega)]
          · have := gi_nle q
            rw [eu, ev, ← z4] at this
            rw [step, if_neg nab, if_pos (Or.inr (by omega))]
theorem mh_foxed {n m p : Nat} {R : Nat → Int32} {f : gb_F} {w : Int64} {v1 : Int32} (h : gb_mbx m R f) (hf : ∀ g, g < 8 → gb_iv (-1) 23 (f 9 (5 * g + p))) (e1 : v1.toInt = p) (hp : p < 5) : gb_hm (ms_foxed n f w v1) (fun f2 w2 r => f2 = f ∧ w2 = w ∧ r.toInt = (gb_fox f p (gb_nG R)).1) := by
  unfold ms_foxed
  exact mh_foxed4 h hf e1 hp n w (-1) 0 0 (by decide) (Nat.zero_le _) (show ((-1 : Int32)).toInt = (-1 : Int) by decide)
/-! WHAT A DEED NEEDS -/
theorem gb_012 {p : Int32} (i : gb_iv 0 2 p) : p = 0 ∨ p = 1 ∨ p = 2 := by
  have h1 := i.1
  have h2 := i.2
  rcases (show p.toInt = 0 ∨ p.toInt = 1 ∨ p.toInt = 2 by omega) with e | e | e
  · exact Or.inl (gi_eq e (by decide))
  · exact Or.inr (Or.inl (gi_eq e (by decide)))
  · exact Or.inr (Or.inr (gi_eq e (by decide)))
def gb_can1 (R NR : Nat → Int32) (f : gb_F) (k : Nat) : Prop := if NR (1 + 4 * k) = 0 then gb_at2 R f (NR (1 + 4 * k + 1)) 0 ∧ gb_i0 (NR (1 + 4 * k + 2)) (R 0) else if NR (1 + 4 * k) = 1 then gb_at2 R f (NR (1 + 4 * k + 1)) 0 ∧ gb_i0 (NR (1 + 4 * k + 2)) (R 0) else if NR (1 + 4 * k) = 2 then gb_at2 R f (NR (1 + 4 * k + 1)) 1 ∧ gb_i0 (NR (1 + 4 * k + 2)) (R 0) else if NR (1 + 4 * k) = 3 then gb_at2 R f (NR (1 + 4 * k + 1)) 0 ∧ gb_at2 R f (NR (1 + 4 * k + 2)) 0 ∧ gb_i0 (NR (1 + 4 * k + 3)) (R 0) else if NR (1 + 4 * k) = 4 then gb_at2 R f (NR (1 + 4 * k + 1)) 0 ∨ gb_at2 R f (NR (1 + 4 * k + 1)) 1 else if NR (1 + 4 * k) = 5 then True else if NR (1 + 4 * k) = 6 then True else if NR (1 + 4 * k) = 7 then True else if NR (1 + 4 * k) = 8 then gb_i0 (NR (1 + 4 * k + 1)) (R 0) ∧ (gb_fox f (NR (1 + 4 * k + 1)).toInt.toNat (gb_nG R)).1 ≠ -1 else True
theorem can_0 {R NR : Nat → Int32} {f : gb_F} {k : Nat} (h : NR (1 + 4 * k) = 0) : gb_can1 R NR f k ↔ (gb_at2 R f (NR (1 + 4 * k + 1)) 0 ∧ gb_i0 (NR (1 + 4 * k + 2)) (R 0)) := by
  unfold gb_can1
  rw [if_pos h]
theorem can_1 {R NR : Nat → Int32} {f : gb_F} {k : Nat} (h : NR (1 + 4 * k) = 1) : gb_can1 R NR f k ↔ (gb_at2 R f (NR (1 + 4 * k + 1)) 0 ∧ gb_i0 (NR (1 + 4 * k + 2)) (R 0)) := by
  unfold gb_can1
  rw [if_neg (by rw [h]; decide), if_pos h]
theorem can_2 {R NR : Nat → Int32} {f : gb_F} {k : Nat} (h : NR (1 + 4 * k) = 2) : gb_can1 R NR f k ↔ (gb_at2 R f (NR (1 + 4 * k + 1)) 1 ∧ gb_i0 (NR (1 + 4 * k + 2)) (R 0)) := by
  unfold gb_can1
  rw [if_neg (by rw [h]; decide), if_neg (by rw [h]; decide), if_pos h]
theorem can_3 {R NR : Nat → Int32} {f : gb_F} {k : Nat} (h : NR (1 + 4 * k) = 3) : gb_can1 R NR f k ↔ (gb_at2 R f (NR (1 + 4 * k + 1)) 0 ∧ gb_at2 R f (NR (1 + 4 * k + 2)) 0 ∧ gb_i0 (NR (1 + 4 * k + 3)) (R 0)) := by
  unfold gb_can1
  rw [if_neg (by rw [h]; decide), if_neg (by rw [h]; decide), if_neg (by rw [h]; decide), if_pos h]
theorem can_4 {R NR : Nat → Int32} {f : gb_F} {k : Nat} (h : NR (1 + 4 * k) = 4) : gb_can1 R NR f k ↔ (gb_at2 R f (NR (1 + 4 * k + 1)) 0 ∨ gb_at2 R f (NR (1 + 4 * k + 1)) 1) := by
  unfold gb_can1
  rw [if_neg (by rw [h]; decide), if_neg (by rw [h]; decide), if_neg (by rw [h]; decide), if_neg (by rw [h]; decide), if_pos h]
theorem can_5 {R NR : Nat → Int32} {f : gb_F} {k : Nat} (h : NR (1 + 4 * k) = 5) : gb_can1 R NR f k ↔ (True) := by
  unfold gb_can1
  rw [if_neg (by rw [h]; decide), if_neg (by rw [h]; decide), if_neg (by rw [h]; decide), if_neg (by rw [h]; decide), if_neg (by rw [h]; decide), if_pos h]
theorem can_6 {R NR : Nat → Int32} {f : gb_F} {k : Nat} (h : NR (1 + 4 * k) = 6) : gb_can1 R NR f k ↔ (True) := by
  unfold gb_can1
  rw [if_neg (by rw [h]; decide), if_neg (by rw [h]; decide), if_neg (by rw [h]; decide), if_neg (by rw [h]; decide), if_neg (by rw [h]; decide), if_neg (by rw [h]; decide), if_pos h]
theorem can_7 {R NR : Nat → Int32} {f : gb_F} {k : Nat} (h : NR (1 + 4 * k) = 7) : gb_can1 R NR f k ↔ (True) := by
  unfold gb_can1
  rw [if_neg (by rw [h]; decide), if_neg (by rw [h]; decide), if_neg (by rw [h]; decide), if_neg (by rw [h]; decide), if_neg (by rw [h]; decide), if_neg (by rw [h]; decide), if_neg (by rw [h]; decide), if_pos h]
theorem can_8 {R NR : Nat → Int32} {f : gb_F} {k : Nat} (h : NR (1 + 4 * k) = 8) : gb_can1 R NR f k ↔ (gb_i0 (NR (1 + 4 * k + 1)) (R 0) ∧ (gb_fox f (NR (1 + 4 * k + 1)).toInt.toNat (gb_nG R)).1 ≠ -1) := by
  unfold gb_can1
  rw [if_neg (by rw [h]; decide), if_neg (by rw [h]; decide), if_neg (by rw [h]; decide), if_neg (by rw [h]; decide), if_neg (by rw [h]; decide), if_neg (by rw [h]; decide), if_neg (by rw [h]; decide), if_neg (by rw [h]; decide), if_pos h]
theorem can_9 {R NR : Nat → Int32} {f : gb_F} {k : Nat} (h0 : ¬ NR (1 + 4 * k) = 0) (h1 : ¬ NR (1 + 4 * k) = 1) (h2 : ¬ NR (1 + 4 * k) = 2) (h3 : ¬ NR (1 + 4 * k) = 3) (h4 : ¬ NR (1 + 4 * k) = 4) (h5 : ¬ NR (1 + 4 * k) = 5) (h6 : ¬ NR (1 + 4 * k) = 6) (h7 : ¬ NR (1 + 4 * k) = 7) (h8 : ¬ NR (1 + 4 * k) = 8) : gb_can1 R NR f k := by
  unfold gb_can1
  rw [if_neg h0, if_neg h1, if_neg h2, if_neg h3, if_neg h4, if_neg h5, if_neg h6, if_neg h7, if_neg h8]
  trivial
theorem ch_hasP {n : Nat} {σ : gb_S} {k0 k1 : Nat} {R NR : Nat → Int32} {x : Int32} (h : gb_PC k0 k1 R NR σ) : gb_hc (cs_Border_hasPath_B n σ (σ.2.1 1) x) (fun s r => s = σ ∧ ((r = 0 ∧ ¬ gb_i0 x (R 0)) ∨ (r = 1 ∧ gb_i0 x (R 0) ∧ x.toInt = x.toInt.toNat ∧ x.toInt.toNat < gb_nP R))) := by
  rw [h.1]
  exact cbx_has h.2.1
theorem ch_mayBe {n : Nat} {σ : gb_S} {k0 k1 k : Nat} {R NR : Nat → Int32} {f : gb_F} {t : Prop} {x : Int32} (h : gb_PC k0 k1 R NR σ) (hR : gb_rB R) (hN : gb_raN NR) (hP : gb_PR R t σ f) (e : x.toInt = k) (hk : k < gb_nD NR) : gb_hc (cs_Play_canBe_N n σ k1 x) (fun s r => s = σ ∧ ((r = 0 ∧ ¬ gb_can1 R NR f k) ∨ (r = 1 ∧ gb_can1 R NR f k))) := by
  have hk2 : k < 24 := by
    have := (rN_0 hN).2
    omega
  have hp5 := (rB_nP hR).2
  unfold cs_Play_canBe_N
  refine hc_kk (fun _ => hc_cd (ch_dN h e hk hk2 (j := 1) (by decide) (by decide)) (fun s r g => ?_))
  obtain ⟨rfl, rfl⟩ := g
  refine hc_cd (ch_dN h e hk hk2 (j := 2) (by decide) (by decide)) (fun s r g => ?_)
  obtain ⟨rfl, rfl⟩ := g
  refine hc_cd (ch_kN h e hk hk2) (fun s r g => ?_)
  obtain ⟨rfl, rfl⟩ := g
  refine hc_if (fun c0 => ?_) (fun c0 => ?_)
  · refine hc_cd (ch_stands h hR hP) (fun s r g => ?_)
    obtain ⟨rfl, g⟩ := g
    refine hc_if (fun c => hc_some ⟨rfl, Or.inl ⟨rfl, fun z => (yn_0 g c) ((can_0 c0).mp z).1⟩⟩) (fun c => hc_kk (fun _ => hc_cd (ch_hasP h) (fun s2 r2 g2 => ?_)))
    obtain ⟨rfl, g2⟩ := g2
    exact hc_if (fun d => hc_some ⟨rfl, Or.inl ⟨rfl, fun z => (yn_0 g2 d) ((can_0 c0).mp z).2⟩⟩) (fun d => hc_some ⟨rfl, Or.inr ⟨rfl, (can_0 c0).mpr ⟨yn_1 g c, (yn_1 g2 d).1⟩⟩⟩)
  refine hc_if (fun c1 => ?_) (fun c1 => ?_)
  · refine hc_cd (ch_stands h hR hP) (fun s r g => ?_)
    obtain ⟨rfl, g⟩ := g
    refine hc_if (fun c => hc_some ⟨rfl, Or.inl ⟨rfl, fun z => (yn_0 g c) ((can_1 c1).mp z).1⟩⟩) (fun c => hc_kk (fun _ => hc_cd (ch_hasP h) (fun s2 r2 g2 => ?_)))
    obtain ⟨rfl, g2⟩ := g2
    exact hc_if (fun d => hc_some ⟨rfl, Or.inl ⟨rfl, fun z => (yn_0 g2 d) ((can_1 c1).mp z).2⟩⟩) (fun d => hc_some ⟨rfl, Or.inr ⟨rfl, (can_1 c1).mpr ⟨yn_1 g c, (yn_1 g2 d).1⟩⟩⟩)
  refine hc_if (fun c2 => ?_) (fun c2 => ?_)
  · refine hc_cd (ch_stands h hR hP) (fun s r g => ?_)
    obtain ⟨rfl, g⟩ := g
    refine hc_if (fun c => hc_some ⟨rfl, Or.inl ⟨rfl, fun z => (yn_0 g c) ((can_2 c2).mp z).1⟩⟩) (fun c => hc_kk (fun _ => hc_cd (ch_hasP h) (fun s2 r2 g2 => ?_)))
    obtain ⟨rfl, g2⟩ := g2
    exact hc_if (fun d => hc_some ⟨rfl, Or.inl ⟨rfl, fun z => (yn_0 g2 d) ((can_2 c2).mp z).2⟩⟩) (fun d => hc_some ⟨rfl, Or.inr ⟨rfl, (can_2 c2).mpr ⟨yn_1 g c, (yn_1 g2 d).1⟩⟩⟩)
  refine hc_if (fun c3 => ?_) (fun c3 => ?_)
  · refine hc_cd (ch_stands h hR hP) (fun s r g => ?_)
    obtain ⟨rfl, g⟩ := g
    refine hc_if (fun c => hc_some ⟨rfl, Or.inl ⟨rfl, fun z => (yn_0 g c) ((can_3 c3).mp z).1⟩⟩) (fun c => hc_cd (ch_stands h hR hP) (fun s1 r1 g1 => ?_))
    obtain ⟨rfl, g1⟩ := g1
    refine hc_if (fun d => hc_some ⟨rfl, Or.inl ⟨rfl, fun z => (yn_0 g1 d) ((can_3 c3).mp z).2.1⟩⟩) (fun d => hc_kk (fun _ => hc_cd (ch_dN h e hk hk2 (j := 3) (by decide) (by decide)) (fun s3 r3 g3 => ?_)))
    obtain ⟨rfl, rfl⟩ := g3
    refine hc_cd (ch_hasP h) (fun s2 r2 g2 => ?_)
    obtain ⟨rfl, g2⟩ := g2
    exact hc_if (fun b => hc_some ⟨rfl, Or.inl ⟨rfl, fun z => (yn_0 g2 b) ((can_3 c3).mp z).2.2⟩⟩) (fun b => hc_some ⟨rfl, Or.inr ⟨rfl, (can_3 c3).mpr ⟨yn_1 g c, yn_1 g1 d, (yn_1 g2 b).1⟩⟩⟩)
  refine hc_if (fun c4 => ?_) (fun c4 => ?_)
  · refine hc_cd (ch_stands h hR hP) (fun s r g => ?_)
    obtain ⟨rfl, g⟩ := g
    refine hc_if (fun c => hc_cd (ch_stands h hR hP) (fun s1 r1 g1 => ?_)) (fun c => hc_some ⟨rfl, Or.inr ⟨rfl, (can_4 c4).mpr (Or.inl (yn_1 g c))⟩⟩)
    obtain ⟨rfl, g1⟩ := g1
    exact hc_if (fun d => hc_some ⟨rfl, Or.inl ⟨rfl, fun z => ((can_4 c4).mp z).elim (yn_0 g c) (yn_0 g1 d)⟩⟩) (fun d => hc_some ⟨rfl, Or.inr ⟨rfl, (can_4 c4).mpr (Or.inr (yn_1 g1 d))⟩⟩)
  refine hc_if (fun c5 => ?_) (fun c5 => ?_)
  · exact hc_some ⟨rfl, Or.inr ⟨rfl, (can_5 c5).mpr trivial⟩⟩
  refine hc_if (fun c6 => ?_) (fun c6 => ?_)
  · exact hc_some ⟨rfl, Or.inr ⟨rfl, (can_6 c6).mpr trivial⟩⟩
  refine hc_if (fun c7 => ?_) (fun c7 => ?_)
  · exact hc_some ⟨rfl, Or.inr ⟨rfl, (can_7 c7).mpr trivial⟩⟩
  refine hc_if (fun c8 => ?_) (fun c8 => ?_)
  · refine hc_kk (fun _ => hc_cd (ch_hasP h) (fun s2 r2 g2 => ?_))
    obtain ⟨rfl, g2⟩ := g2
    refine hc_if (fun b => hc_some ⟨rfl, Or.inl ⟨rfl, fun z => (yn_0 g2 b) ((can_8 c8).mp z).1⟩⟩) (fun b => ?_)
    obtain ⟨b1, b2, b3⟩ := yn_1 g2 b
    refine hc_cd (ch_goer h hR hP b2 (by omega)) (fun s3 r3 g3 => ?_)
    obtain ⟨rfl, g3⟩ := g3
    exact hc_if (fun d => hc_some ⟨rfl, Or.inl ⟨rfl, fun z => ((can_8 c8).mp z).2 (by rw [← g3]; exact gi_m1.mp d)⟩⟩) (fun d => hc_some ⟨rfl, Or.inr ⟨rfl, (can_8 c8).mpr ⟨b1, fun z => d (gi_m1.mpr (by rw [g3]; exact z))⟩⟩⟩)
  exact hc_some ⟨rfl, Or.inr ⟨rfl, can_9 c0 c1 c2 c3 c4 c5 c6 c7 c8⟩⟩
theorem mh_can {n m k : Nat} {R NR : Nat → Int32} {f : gb_F} {w : Int64} {x : Int32} (h : gb_PM m R NR f) (h4 : ∀ g, g < 8 → gb_iv 0 2 (f 4 g)) (h9 : ∀ g p, g < 8 → p < 5 → gb_iv (-1) 23 (f 9 (5 * g + p))) (e : x.toInt = k) (hk : k < 24) : gb_hm (ms_can n f w x) (fun f2 w2 r => f2 = f ∧ w2 = w ∧ ((r = 0 ∧ ¬ gb_can1 R NR f k) ∨ (r = 1 ∧ gb_can1 R NR f k))) := by
  have hR := mbx_rB h.1
  have hp5 := (rB_nP hR).2
  have hg8 := (rB_nG hR).2
  unfold ms_can
  refine hm_bd (mx_deedOf h.2.1 e (by omega) (j := 1) (by decide) (by decide)) (fun f1 w1 r g => ?_)
  obtain ⟨rfl, rfl, rfl⟩ := g
  refine hm_bd (mx_deedOf h.2.1 e (by omega) (j := 2) (by decide) (by decide)) (fun f1 w1 r g => ?_)
  obtain ⟨rfl, rfl, rfl⟩ := g
  refine hm_bd (mx_deedOf h.2.1 e (by omega) (j := 0) (by decide) (by decide)) (fun f1 w1 r g => ?_)
  obtain ⟨rfl, rfl, rfl⟩ := g
  rw [Nat.add_zero]
  refine hm_if (fun c0 => ?_) (fun c0 => ?_)
  · refine hm_bd (mh_isAt h.1) (fun s u r g => ?_)
    obtain ⟨rfl, rfl, g⟩ := g
    refine hm_if (fun c => hm_some ⟨rfl, rfl, Or.inl ⟨rfl, fun z => (yn_0 g c) ((can_0 c0).mp z).1⟩⟩) (fun c => hm_bd (mbx_has h.1) (fun s2 u2 r2 g2 => ?_))
    obtain ⟨rfl, rfl, g2⟩ := g2
    exact hm_if (fun d => hm_some ⟨rfl, rfl, Or.inl ⟨rfl, fun z => (yn_0 g2 d) ((can_0 c0).mp z).2⟩⟩) (fun d => hm_some ⟨rfl, rfl, Or.inr ⟨rfl, (can_0 c0).mpr ⟨yn_1 g c, (yn_1 g2 d).1⟩⟩⟩)
  refine hm_if (fun c1 => ?_) (fun c1 => ?_)
  · refine hm_bd (mh_isAt h.1) (fun s u r g => ?_)
    obtain ⟨rfl, rfl, g⟩ := g
    refine hm_if (fun c => hm_some ⟨rfl, rfl, Or.inl ⟨rfl, fun z => (yn_0 g c) ((can_1 c1).mp z).1⟩⟩) (fun c => hm_bd (mbx_has h.1) (fun s2 u2 r2 g2 => ?_))
    obtain ⟨rfl, rfl, g2⟩ := g2
    exact hm_if (fun d => hm_some ⟨rfl, rfl, Or.inl ⟨rfl, fun z => (yn_0 g2 d) ((can_1 c1).mp z).2⟩⟩) (fun d => hm_some ⟨rfl, rfl, Or.inr ⟨rfl, (can_1 c1).mpr ⟨yn_1 g c, (yn_1 g2 d).1⟩⟩⟩)
  refine hm_if (fun c2 => ?_) (fun c2 => ?_)
  · refine hm_bd (mh_isAt h.1) (fun s u r g => ?_)
    obtain ⟨rfl, rfl, g⟩ := g
    refine hm_if (fun c => hm_some ⟨rfl, rfl, Or.inl ⟨rfl, fun z => (yn_0 g c) ((can_2 c2).mp z).1⟩⟩) (fun c => hm_bd (mbx_has h.1) (fun s2 u2 r2 g2 => ?_))
    obtain ⟨rfl, rfl, g2⟩ := g2
    exact hm_if (fun d => hm_some ⟨rfl, rfl, Or.inl ⟨rfl, fun z => (yn_0 g2 d) ((can_2 c2).mp z).2⟩⟩) (fun d => hm_some ⟨rfl, rfl, Or.inr ⟨rfl, (can_2 c2).mpr ⟨yn_1 g c, (yn_1 g2 d).1⟩⟩⟩)
  refine hm_if (fun c3 => ?_) (fun c3 => ?_)
  · refine hm_bd (mh_isAt h.1) (fun s u r g => ?_)
    obtain ⟨rfl, rfl, g⟩ := g
    refine hm_if (fun c => hm_some ⟨rfl, rfl, Or.inl ⟨rfl, fun z => (yn_0 g c) ((can_3 c3).mp z).1⟩⟩) (fun c => hm_bd (mh_isAt h.1) (fun s1 u1 r1 g1 => ?_))
    obtain ⟨rfl, rfl, g1⟩ := g1
    refine hm_if (fun d => hm_some ⟨rfl, rfl, Or.inl ⟨rfl, fun z => (yn_0 g1 d) ((can_3 c3).mp z).2.1⟩⟩) (fun d => hm_bd (mx_deedOf h.2.1 e (by omega) (j := 3) (by decide) (by decide)) (fun s3 u3 r3 g3 => ?_))
    obtain ⟨rfl, rfl, rfl⟩ := g3
    refine hm_bd (mbx_has h.1) (fun s2 u2 r2 g2 => ?_)
    obtain ⟨rfl, rfl, g2⟩ := g2
    exact hm_if (fun b => hm_some ⟨rfl, rfl, Or.inl ⟨rfl, fun z => (yn_0 g2 b) ((can_3 c3).mp z).2.2⟩⟩) (fun b => hm_some ⟨rfl, rfl, Or.inr ⟨rfl, (can_3 c3).mpr ⟨yn_1 g c, yn_1 g1 d, (yn_1 g2 b).1⟩⟩⟩)
  refine hm_if (fun c4 => ?_) (fun c4 => ?_)
  · refine hm_bd (mbx_hasG h.1) (fun s u r g => ?_)
    obtain ⟨rfl, rfl, g⟩ := g
    refine hm_if (fun c => hm_some ⟨rfl, rfl, Or.inl ⟨rfl, fun z => ((can_4 c4).mp z).elim (fun y => (yn_0 g c) y.1) (fun y => (yn_0 g c) y.1)⟩⟩) (fun c => ?_)
    obtain ⟨b1, b2, b3⟩ := yn_1 g c
    rw [gi_tn b2]
    refine hm_ck (fun _ _ => hm_lt (fun y ey => ?_))
    have i4 := h4 (NR (1 + 4 * k + 1)).toInt.toNat (by omega)
    rw [← ey] at i4
    refine hm_if (fun d => hm_some ⟨rfl, rfl, Or.inl ⟨rfl, fun z => ?_⟩⟩) (fun d => hm_some ⟨rfl, rfl, Or.inr ⟨rfl, (can_4 c4).mpr ?_⟩⟩)
    · rcases (can_4 c4).mp z with z | z
      · have := z.2
        rw [← ey, d] at this
        exact absurd this (by decide)
      · have := z.2
        rw [← ey, d] at this
        exact absurd this (by decide)
    · rcases gb_012 i4 with z | z | z
      · exact Or.inl ⟨b1, by rw [← ey]; exact z⟩
      · exact Or.inr ⟨b1, by rw [← ey]; exact z⟩
      · exact absurd z d
  refine hm_if (fun c5 => ?_) (fun c5 => ?_)
  · exact hm_some ⟨rfl, rfl, Or.inr ⟨rfl, (can_5 c5).mpr trivial⟩⟩
  refine hm_if (fun c6 => ?_) (fun c6 => ?_)
  · exact hm_some ⟨rfl, rfl, Or.inr ⟨rfl, (can_6 c6).mpr trivial⟩⟩
  refine hm_if (fun c7 => ?_) (fun c7 => ?_)
  · exact hm_some ⟨rfl, rfl, Or.inr ⟨rfl, (can_7 c7).mpr trivial⟩⟩
  refine hm_if (fun c8 => ?_) (fun c8 => ?_)
  · refine hm_bd (mbx_has h.1) (fun s2 u2 r2 g2 => ?_)
    obtain ⟨rfl, rfl, g2⟩ := g2
    refine hm_if (fun b => hm_some ⟨rfl, rfl, Or.inl ⟨rfl, fun z => (yn_0 g2 b) ((can_8 c8).mp z).1⟩⟩) (fun b => ?_)
    obtain ⟨b1, b2, b3⟩ := yn_1 g2 b
    refine hm_bd (mh_foxed h.1 (fun g hg => h9 g _ hg (by omega)) b2 (by omega)) (fun s3 u3 r3 g3 => ?_)
    obtain ⟨rfl, rfl, g3⟩ := g3
    exact hm_if (fun d => hm_some ⟨rfl, rfl, Or.inl ⟨rfl, fun z => ((can_8 c8).mp z).2 (by rw [← g3]; exact gi_m1.mp d)⟩⟩) (fun d => hm_some ⟨rfl, rfl, Or.inr ⟨rfl, (can_8 c8).mpr ⟨b1, fun z => d (gi_m1.mpr (by rw [g3]; exact z))⟩⟩⟩)
  exact hm_some ⟨rfl, rfl, Or.inr ⟨rfl, can_9 c0 c1 c2 c3 c4 c5 c6 c7 c8⟩⟩
/-! ONE GOES BY A PATH -/
theorem upd_0 {F : Nat → Int32} {p : Nat} : F = upd F p (F p + 0) := by
  funext x
  by_cases c : x = p
  · subst c
    rw [pk_us, Int32.add_zero]
  · rw [pk_un c]
theorem upd_E {F G : Nat → Int32} {a b : Int32} {g x : Nat} (h : a = b) (k : F x = G x) : upd F g a x = upd G g b x := by
  by_cases c : x = g
  · subst c
    rw [pk_us, pk_us, h]
  · rw [pk_un c, pk_un c, k]
def gb_goP (σ s : gb_S) (g p : Nat) (y z bo mk at' : Int32) (T6 T7 : Nat → Int32) : Prop := s.2 = σ.2 ∧ (∀ k, k < 112 → s.1 k = σ.1 k) ∧ s.1 112 = upd (σ.1 112) g at' ∧ s.1 113 = upd (σ.1 113) g bo ∧ s.1 114 = upd (σ.1 114) g (σ.1 114 g + mk) ∧ s.1 115 = upd (σ.1 115) g y ∧ s.1 116 = T6 ∧ s.1 117 = T7 ∧ s.1 118 = σ.1 118 ∧ s.1 119 = upd (σ.1 119) (8 * p + g) (z + 1)
theorem ch_miP {n : Nat} {σ : gb_S} {k0 k1 p : Nat} {R NR : Nat → Int32} {x : Int32} (h : gb_PC k0 k1 R NR σ) (hR : gb_rB R) (e : x.toInt = p) (hp : p < gb_nP R) : gb_hc (cs_Border_miles_B n σ (σ.2.1 1) x) (fun s r => s = σ ∧ r = R (3 + 3 * p)) := by
  rw [h.1]
  exact ch_miles h.2.1 hR e hp
theorem ch_moP {n : Nat} {σ : gb_S} {k0 k1 g : Nat} {R NR : Nat → Int32} {x mi bo fr : Int32} (h : gb_PC k0 k1 R NR σ) (hR : gb_rB R) (e : x.toInt = g) (hg : g < gb_nG R) : gb_hc (cs_Border_marksOver_B n σ (σ.2.1 1) x mi bo fr) (fun s r => s = σ ∧ r = gb_mk (gb_toe R g) mi bo (R (18 + 5 * g + 3)) fr) := by
  rw [h.1]
  exact ch_marksOver h.2.1 hR e hg
theorem gi_8p {x y : Int32} {g p : Nat} (e1 : x.toInt = g) (e2 : y.toInt = p) (hg : g < 8) (hp : p < 5) : (y * 8 + x).toInt = ((8 * p + g : Nat) : Int) := by
  have c8 : (8 : Int32).toInt = 8 := by decide
  have m1 : (y * 8).toInt = ((8 * p : Nat) : Int) := by
    rw [gb_tmul (by rw [e2, c8]; omega) (by rw [e2, c8]; omega), e2, c8]
    omega
  exact gi_pl m1 e1 (by omega) (by omega)
theorem gi_5g {x y : Int32} {g p : Nat} (e1 : x.toInt = g) (e2 : y.toInt = p) (hg : g < 8) (hp : p < 5) : (5 * x + y).toInt = ((5 * g + p : Nat) : Int) := by
  have c5 : (5 : Int32).toInt = 5 := by decide
  have m1 : (5 * x).toInt = ((5 * g : Nat) : Int) := by
    rw [gb_tmul (by rw [e1, c5]; omega) (by rw [e1, c5]; omega), e1, c5]
    omega
  exact gi_pl m1 e2 (by omega) (by omega)
theorem ch_go_n {n : Nat} {σ : gb_S} {k0 k1 g p : Nat} {R NR : Nat → Int32} {x y z : Int32} (h : gb_PC k0 k1 R NR σ) (hR : gb_rB R) (e1 : x.toInt = g) (hg : g < gb_nG R) (e2 : y.toInt = p) (hp : p < gb_nP R) : gb_hc (cs_Play_go_n n σ x y z) (fun s _ => gb_goP σ s g p y z (if (0 : Int32) < (σ.1 113 g - R (3 + 3 * p)) then (σ.1 113 g - R (3 + 3 * p)) else (0 : Int32)) (gb_mk (gb_toe R g) (R (3 + 3 * p)) (σ.1 113 g) (R (18 + 5 * g + 3)) (σ.1 109 10)) (if σ.1 112 g = 0 then 1 else 0) (σ.1 116) (σ.1 117)) := by
  have hg8 := (rB_nG hR).2
  have hp5 := (rB_nP hR).2
  have t1 := gi_tn e1
  have t2 := gi_tn e2
  have t8 := gi_tn (gi_8p e1 e2 (by omega) (by omega))
  unfold cs_Play_go_n
  refine hc_kk (fun _ => hc_cd (ch_miP h hR e2 hp) (fun s r q => ?_))
  obtain ⟨q1, rfl⟩ := q
  subst s
  refine hc_kk (fun _ => hc_ck (fun _ _ => hc_lt (fun b eb => hc_cd (ch_moP h hR e1 hg) (fun s2 r2 q => ?_))))
  obtain ⟨q2, q3⟩ := q
  subst s2
  rw [t1] at eb
  subst eb
  subst q3
  unfold cs_Play_go_n_46
  refine hc_ck (fun _ _ => hc_lt (fun x1 ex1 => hc_lt (fun x2 ex2 => hc_ck (fun _ _ => hc_lt (fun s4 e4 => hc_ck (fun _ _ => hc_lt (fun x3 ex3 => hc_ck (fun _ _ => hc_lt (fun s5 e5 => hc_ck (fun _ _ => hc_lt (fun x4 ex4 => ?_)))))))))))
  subst ex1
  subst ex2
  subst e4
  subst ex3
  subst e5
  have go : ∀ t0 : Int32, t0 = (if σ.1 112 g = 0 then 1 else 0) → ∀ S : gb_S, S.2 = σ.2 → (∀ k, k < 112 → S.1 k = σ.1 k) → S.1 112 = σ.1 112 → S.1 113 = upd (σ.1 113) g (if (0 : Int32) < (σ.1 113 g - R (3 + 3 * p)) then (σ.1 113 g - R (3 + 3 * p)) else (0 : Int32)) → S.1 114 = upd (σ.1 114) g (σ.1 114 g + (gb_mk (gb_toe R g) (R (3 + 3 * p)) (σ.1 113 g) (R (18 + 5 * g + 3)) (σ.1 109 10))) → S.1 115 = σ.1 115 → S.1 116 = (σ.1 116) → S.1 117 = (σ.1 117) → S.1 118 = σ.1 118 → S.1 119 = σ.1 119 → gb_hc (cs_Play_go_n_95 n S x y z t0 x) (fun s _ => gb_goP σ s g p y z (if (0 : Int32) < (σ.1 113 g - R (3 + 3 * p)) then (σ.1 113 g - R (3 + 3 * p)) else (0 : Int32)) (gb_mk (gb_toe R g) (R (3 + 3 * p)) (σ.1 113 g) (R (18 + 5 * g + 3)) (σ.1 109 10)) (if σ.1 112 g = 0 then 1 else 0) (σ.1 116) (σ.1 117)) := by
    intro t0 et S a0 a1 a2 a3 a4 a5 a6 a7 a8 a9
    unfold cs_Play_go_n_95
    refine hc_ck (fun _ _ => hc_lt (fun s6 e6 => hc_ck (fun _ _ => hc_lt (fun s7 e7 => hc_ck (fun _ _ => hc_lt (fun s8 e8 => hc_some ?_))))))
    subst e8
    subst e7
    subst e6
    refine ⟨a0, fun k hk => ?_, ?_, ?_, ?_, ?_, ?_, ?_, ?_, ?_⟩
    · rw [gb_sun (by omega), gb_sun (by omega), gb_sun (by omega), a1 k hk]
    · rw [gb_sun (by decide), gb_sun (by decide), gb_sus, t1, a2, et]
    · rw [gb_sun (by decide), gb_sun (by decide), gb_sun (by decide), a3]
    · rw [gb_sun (by decide), gb_sun (by decide), gb_sun (by decide), a4]
    · rw [gb_sun (by decide), gb_sus, gb_sun (by decide), t1, a5]
    · rw [gb_sun (by decide), gb_sun (by decide), gb_sun (by decide), a6]
    · rw [gb_sun (by decide), gb_sun (by decide), gb_sun (by decide), a7]
    · rw [gb_sun (by decide), gb_sun (by decide), gb_sun (by decide), a8]
    · rw [gb_sus, gb_sun (by decide), gb_sun (by decide), t8, a9]
  refine hc_if (fun c => go _ ?_ _ rfl (fun k hk => by rw [gb_sun (by omega), gb_sun (by omega)]) ?_ ?_ ?_ ?_ ?_ ?_ ?_ ?_) (fun c => go _ ?_ _ rfl (fun k hk => by rw [gb_sun (by omega), gb_sun (by omega)]) ?_ ?_ ?_ ?_ ?_ ?_ ?_ ?_)
  · subst ex4
    rw [t1, gb_sun (by decide), gb_sun (by decide)] at c
    rw [if_pos c]
  · simp only [gb_sus, gb_sun, ne_eq, Nat.reduceEqDiff, not_false_eq_true, t1, t2, t8]
  · simp only [gb_sus, gb_sun, ne_eq, Nat.reduceEqDiff, not_false_eq_true, t1, t2, t8]
  · simp only [gb_sus, gb_sun, ne_eq, Nat.reduceEqDiff, not_false_eq_true, t1, t2, t8]
  · simp only [gb_sus, gb_sun, ne_eq, Nat.reduceEqDiff, not_false_eq_true, t1, t2, t8]
  · simp only [gb_sus, gb_sun, ne_eq, Nat.reduceEqDiff, not_false_eq_true, t1, t2, t8]
  · simp only [gb_sus, gb_sun, ne_eq, Nat.reduceEqDiff, not_false_eq_true, t1, t2, t8]
  · simp only [gb_sus, gb_sun, ne_eq, Nat.reduceEqDiff, not_false_eq_true, t1, t2, t8]
  · simp only [gb_sus, gb_sun, ne_eq, Nat.reduceEqDiff, not_false_eq_true, t1, t2, t8]
  · subst ex4
    rw [t1, gb_sun (by decide), gb_sun (by decide)] at c
    rw [if_neg c]
  · simp only [gb_sus, gb_sun, ne_eq, Nat.reduceEqDiff, not_false_eq_true, t1, t2, t8]
  · simp only [gb_sus, gb_sun, ne_eq, Nat.reduceEqDiff, not_false_eq_true, t1, t2, t8]
  · simp only [gb_sus, gb_sun, ne_eq, Nat.reduceEqDiff, not_false_eq_true, t1, t2, t8]
  · simp only [gb_sus, gb_sun, ne_eq, Nat.reduceEqDiff, not_false_eq_true, t1, t2, t8]
  · simp only [gb_sus, gb_sun, ne_eq, Nat.reduceEqDiff, not_false_eq_true, t1, t2, t8]
  · simp only [gb_sus, gb_sun, ne_eq, Nat.reduceEqDiff, not_false_eq_true, t1, t2, t8]
  · simp only [gb_sus, gb_sun, ne_eq, Nat.reduceEqDiff, not_false_eq_true, t1, t2, t8]
  · simp only [gb_sus, gb_sun, ne_eq, Nat.reduceEqDiff, not_false_eq_true, t1, t2, t8]
theorem ch_go_c116 {n : Nat} {σ : gb_S} {k0 k1 g p : Nat} {R NR : Nat → Int32} {x y z : Int32} (h : gb_PC k0 k1 R NR σ) (hR : gb_rB R) (e1 : x.toInt = g) (hg : g < gb_nG R) (e2 : y.toInt = p) (hp : p < gb_nP R) : gb_hc (cs_Play_go_c116 n σ x y z) (fun s _ => gb_goP σ s g p y z (if (0 : Int32) < (σ.1 113 g - R (3 + 3 * p)) then (σ.1 113 g - R (3 + 3 * p)) else (0 : Int32)) (gb_mk (gb_toe R g) (R (3 + 3 * p)) (σ.1 113 g) (R (18 + 5 * g + 3)) (σ.1 109 10)) (if σ.1 112 g = 0 then 1 else 0) (upd (σ.1 116) p (σ.1 116 p + (gb_mk (gb_toe R g) (R (3 + 3 * p)) (σ.1 113 g) (R (18 + 5 * g + 3)) (σ.1 109 10)))) (σ.1 117)) := by
  have hg8 := (rB_nG hR).2
  have hp5 := (rB_nP hR).2
  have t1 := gi_tn e1
  have t2 := gi_tn e2
  have t8 := gi_tn (gi_8p e1 e2 (by omega) (by omega))
  unfold cs_Play_go_c116
  refine hc_kk (fun _ => hc_cd (ch_miP h hR e2 hp) (fun s r q => ?_))
  obtain ⟨q1, rfl⟩ := q
  subst s
  refine hc_kk (fun _ => hc_ck (fun _ _ => hc_lt (fun b eb => hc_cd (ch_moP h hR e1 hg) (fun s2 r2 q => ?_))))
  obtain ⟨q2, q3⟩ := q
  subst s2
  rw [t1] at eb
  subst eb
  subst q3
  refine hc_ck (fun _ _ => hc_lt (fun a ea => hc_ck (fun _ _ => hc_lt (fun s3 e3 => ?_))))
  subst ea
  subst e3
  unfold cs_Play_go_c116_46
  refine hc_ck (fun _ _ => hc_lt (fun x1 ex1 => hc_lt (fun x2 ex2 => hc_ck (fun _ _ => hc_lt (fun s4 e4 => hc_ck (fun _ _ => hc_lt (fun x3 ex3 => hc_ck (fun _ _ => hc_lt (fun s5 e5 => hc_ck (fun _ _ => hc_lt (fun x4 ex4 => ?_)))))))))))
  subst ex1
  subst ex2
  subst e4
  subst ex3
  subst e5
  have go : ∀ t0 : Int32, t0 = (if σ.1 112 g = 0 then 1 else 0) → ∀ S : gb_S, S.2 = σ.2 → (∀ k, k < 112 → S.1 k = σ.1 k) → S.1 112 = σ.1 112 → S.1 113 = upd (σ.1 113) g (if (0 : Int32) < (σ.1 113 g - R (3 + 3 * p)) then (σ.1 113 g - R (3 + 3 * p)) else (0 : Int32)) → S.1 114 = upd (σ.1 114) g (σ.1 114 g + (gb_mk (gb_toe R g) (R (3 + 3 * p)) (σ.1 113 g) (R (18 + 5 * g + 3)) (σ.1 109 10))) → S.1 115 = σ.1 115 → S.1 116 = (upd (σ.1 116) p (σ.1 116 p + (gb_mk (gb_toe R g) (R (3 + 3 * p)) (σ.1 113 g) (R (18 + 5 * g + 3)) (σ.1 109 10)))) → S.1 117 = (σ.1 117) → S.1 118 = σ.1 118 → S.1 119 = σ.1 119 → gb_hc (cs_Play_go_c116_95 n S x y z t0 x) (fun s _ => gb_goP σ s g p y z (if (0 : Int32) < (σ.1 113 g - R (3 + 3 * p)) then (σ.1 113 g - R (3 + 3 * p)) else (0 : Int32)) (gb_mk (gb_toe R g) (R (3 + 3 * p)) (σ.1 113 g) (R (18 + 5 * g + 3)) (σ.1 109 10)) (if σ.1 112 g = 0 then 1 else 0) (upd (σ.1 116) p (σ.1 116 p + (gb_mk (gb_toe R g) (R (3 + 3 * p)) (σ.1 113 g) (R (18 + 5 * g + 3)) (σ.1 109 10)))) (σ.1 117)) := by
    intro t0 et S a0 a1 a2 a3 a4 a5 a6 a7 a8 a9
    unfold cs_Play_go_c116_95
    refine hc_ck (fun _ _ => hc_lt (fun s6 e6 => hc_ck (fun _ _ => hc_lt (fun s7 e7 => hc_ck (fun _ _ => hc_lt (fun s8 e8 => hc_some ?_))))))
    subst e8
    subst e7
    subst e6
    refine ⟨a0, fun k hk => ?_, ?_, ?_, ?_, ?_, ?_, ?_, ?_, ?_⟩
    · rw [gb_sun (by omega), gb_sun (by omega), gb_sun (by omega), a1 k hk]
    · rw [gb_sun (by decide), gb_sun (by decide), gb_sus, t1, a2, et]
    · rw [gb_sun (by decide), gb_sun (by decide), gb_sun (by decide), a3]
    · rw [gb_sun (by decide), gb_sun (by decide), gb_sun (by decide), a4]
    · rw [gb_sun (by decide), gb_sus, gb_sun (by decide), t1, a5]
    · rw [gb_sun (by decide), gb_sun (by decide), gb_sun (by decide), a6]
    · rw [gb_sun (by decide), gb_sun (by decide), gb_sun (by decide), a7]
    · rw [gb_sun (by decide), gb_sun (by decide), gb_sun (by decide), a8]
    · rw [gb_sus, gb_sun (by decide), gb_sun (by decide), t8, a9]
  refine hc_if (fun c => go _ ?_ _ rfl (fun k hk => by rw [gb_sun (by omega), gb_sun (by omega), gb_sun (by omega)]) ?_ ?_ ?_ ?_ ?_ ?_ ?_ ?_) (fun c => go _ ?_ _ rfl (fun k hk => by rw [gb_sun (by omega), gb_sun (by omega), gb_sun (by omega)]) ?_ ?_ ?_ ?_ ?_ ?_ ?_ ?_)
  · subst ex4
    rw [t1, gb_sun (by decide), gb_sun (by decide), gb_sun (by decide)] at c
    rw [if_pos c]
  · simp only [gb_sus, gb_sun, ne_eq, Nat.reduceEqDiff, not_false_eq_true, t1, t2, t8]
  · simp only [gb_sus, gb_sun, ne_eq, Nat.reduceEqDiff, not_false_eq_true, t1, t2, t8]
  · simp only [gb_sus, gb_sun, ne_eq, Nat.reduceEqDiff, not_false_eq_true, t1, t2, t8]
  · simp only [gb_sus, gb_sun, ne_eq, Nat.reduceEqDiff, not_false_eq_true, t1, t2, t8]
  · simp only [gb_sus, gb_sun, ne_eq, Nat.reduceEqDiff, not_false_eq_true, t1, t2, t8]
  · simp only [gb_sus, gb_sun, ne_eq, Nat.reduceEqDiff, not_false_eq_true, t1, t2, t8]
  · simp only [gb_sus, gb_sun, ne_eq, Nat.reduceEqDiff, not_false_eq_true, t1, t2, t8]
  · simp only [gb_sus, gb_sun, ne_eq, Nat.reduceEqDiff, not_false_eq_true, t1, t2, t8]
  · subst ex4
    rw [t1, gb_sun (by decide), gb_sun (by decide), gb_sun (by decide)] at c
    rw [if_neg c]
  · simp only [gb_sus, gb_sun, ne_eq, Nat.reduceEqDiff, not_false_eq_true, t1, t2, t8]
  · simp only [gb_sus, gb_sun, ne_eq, Nat.reduceEqDiff, not_false_eq_true, t1, t2, t8]
  · simp only [gb_sus, gb_sun, ne_eq, Nat.reduceEqDiff, not_false_eq_true, t1, t2, t8]
  · simp only [gb_sus, gb_sun, ne_eq, Nat.reduceEqDiff, not_false_eq_true, t1, t2, t8]
  · simp only [gb_sus, gb_sun, ne_eq, Nat.reduceEqDiff, not_false_eq_true, t1, t2, t8]
  · simp only [gb_sus, gb_sun, ne_eq, Nat.reduceEqDiff, not_false_eq_true, t1, t2, t8]
  · simp only [gb_sus, gb_sun, ne_eq, Nat.reduceEqDiff, not_false_eq_true, t1, t2, t8]
  · simp only [gb_sus, gb_sun, ne_eq, Nat.reduceEqDiff, not_false_eq_true, t1, t2, t8]
theorem ch_go_c117 {n : Nat} {σ : gb_S} {k0 k1 g p : Nat} {R NR : Nat → Int32} {x y z : Int32} (h : gb_PC k0 k1 R NR σ) (hR : gb_rB R) (e1 : x.toInt = g) (hg : g < gb_nG R) (e2 : y.toInt = p) (hp : p < gb_nP R) : gb_hc (cs_Play_go_c117 n σ x y z) (fun s _ => gb_goP σ s g p y z (if (0 : Int32) < (σ.1 113 g - R (3 + 3 * p)) then (σ.1 113 g - R (3 + 3 * p)) else (0 : Int32)) (gb_mk (gb_toe R g) (R (3 + 3 * p)) (σ.1 113 g) (R (18 + 5 * g + 3)) (σ.1 109 10)) (if σ.1 112 g = 0 then 1 else 0) (σ.1 116) (upd (σ.1 117) p (σ.1 117 p + (gb_mk (gb_toe R g) (R (3 + 3 * p)) (σ.1 113 g) (R (18 + 5 * g + 3)) (σ.1 109 10))))) := by
  have hg8 := (rB_nG hR).2
  have hp5 := (rB_nP hR).2
  have t1 := gi_tn e1
  have t2 := gi_tn e2
  have t8 := gi_tn (gi_8p e1 e2 (by omega) (by omega))
  unfold cs_Play_go_c117
  refine hc_kk (fun _ => hc_cd (ch_miP h hR e2 hp) (fun s r q => ?_))
  obtain ⟨q1, rfl⟩ := q
  subst s
  refine hc_kk (fun _ => hc_ck (fun _ _ => hc_lt (fun b eb => hc_cd (ch_moP h hR e1 hg) (fun s2 r2 q => ?_))))
  obtain ⟨q2, q3⟩ := q
  subst s2
  rw [t1] at eb
  subst eb
  subst q3
  refine hc_ck (fun _ _ => hc_lt (fun a ea => hc_ck (fun _ _ => hc_lt (fun s3 e3 => ?_))))
  subst ea
  subst e3
  unfold cs_Play_go_c117_46
  refine hc_ck (fun _ _ => hc_lt (fun x1 ex1 => hc_lt (fun x2 ex2 => hc_ck (fun _ _ => hc_lt (fun s4 e4 => hc_ck (fun _ _ => hc_lt (fun x3 ex3 => hc_ck (fun _ _ => hc_lt (fun s5 e5 => hc_ck (fun _ _ => hc_lt (fun x4 ex4 => ?_)))))))))))
  subst ex1
  subst ex2
  subst e4
  subst ex3
  subst e5
  have go : ∀ t0 : Int32, t0 = (if σ.1 112 g = 0 then 1 else 0) → ∀ S : gb_S, S.2 = σ.2 → (∀ k, k < 112 → S.1 k = σ.1 k) → S.1 112 = σ.1 112 → S.1 113 = upd (σ.1 113) g (if (0 : Int32) < (σ.1 113 g - R (3 + 3 * p)) then (σ.1 113 g - R (3 + 3 * p)) else (0 : Int32)) → S.1 114 = upd (σ.1 114) g (σ.1 114 g + (gb_mk (gb_toe R g) (R (3 + 3 * p)) (σ.1 113 g) (R (18 + 5 * g + 3)) (σ.1 109 10))) → S.1 115 = σ.1 115 → S.1 116 = (σ.1 116) → S.1 117 = (upd (σ.1 117) p (σ.1 117 p + (gb_mk (gb_toe R g) (R (3 + 3 * p)) (σ.1 113 g) (R (18 + 5 * g + 3)) (σ.1 109 10)))) → S.1 118 = σ.1 118 → S.1 119 = σ.1 119 → gb_hc (cs_Play_go_c117_95 n S x y z t0 x) (fun s _ => gb_goP σ s g p y z (if (0 : Int32) < (σ.1 113 g - R (3 + 3 * p)) then (σ.1 113 g - R (3 + 3 * p)) else (0 : Int32)) (gb_mk (gb_toe R g) (R (3 + 3 * p)) (σ.1 113 g) (R (18 + 5 * g + 3)) (σ.1 109 10)) (if σ.1 112 g = 0 then 1 else 0) (σ.1 116) (upd (σ.1 117) p (σ.1 117 p + (gb_mk (gb_toe R g) (R (3 + 3 * p)) (σ.1 113 g) (R (18 + 5 * g + 3)) (σ.1 109 10))))) := by
    intro t0 et S a0 a1 a2 a3 a4 a5 a6 a7 a8 a9
    unfold cs_Play_go_c117_95
    refine hc_ck (fun _ _ => hc_lt (fun s6 e6 => hc_ck (fun _ _ => hc_lt (fun s7 e7 => hc_ck (fun _ _ => hc_lt (fun s8 e8 => hc_some ?_))))))
    subst e8
    subst e7
    subst e6
    refine ⟨a0, fun k hk => ?_, ?_, ?_, ?_, ?_, ?_, ?_, ?_, ?_⟩
    · rw [gb_sun (by omega), gb_sun (by omega), gb_sun (by omega), a1 k hk]
    · rw [gb_sun (by decide), gb_sun (by decide), gb_sus, t1, a2, et]
    · rw [gb_sun (by decide), gb_sun (by decide), gb_sun (by decide), a3]
    · rw [gb_sun (by decide), gb_sun (by decide), gb_sun (by decide), a4]
    · rw [gb_sun (by decide), gb_sus, gb_sun (by decide), t1, a5]
    · rw [gb_sun (by decide), gb_sun (by decide), gb_sun (by decide), a6]
    · rw [gb_sun (by decide), gb_sun (by decide), gb_sun (by decide), a7]
    · rw [gb_sun (by decide), gb_sun (by decide), gb_sun (by decide), a8]
    · rw [gb_sus, gb_sun (by decide), gb_sun (by decide), t8, a9]
  refine hc_if (fun c => go _ ?_ _ rfl (fun k hk => by rw [gb_sun (by omega), gb_sun (by omega), gb_sun (by omega)]) ?_ ?_ ?_ ?_ ?_ ?_ ?_ ?_) (fun c => go _ ?_ _ rfl (fun k hk => by rw [gb_sun (by omega), gb_sun (by omega), gb_sun (by omega)]) ?_ ?_ ?_ ?_ ?_ ?_ ?_ ?_)
  · subst ex4
    rw [t1, gb_sun (by decide), gb_sun (by decide), gb_sun (by decide)] at c
    rw [if_pos c]
  · simp only [gb_sus, gb_sun, ne_eq, Nat.reduceEqDiff, not_false_eq_true, t1, t2, t8]
  · simp only [gb_sus, gb_sun, ne_eq, Nat.reduceEqDiff, not_false_eq_true, t1, t2, t8]
  · simp only [gb_sus, gb_sun, ne_eq, Nat.reduceEqDiff, not_false_eq_true, t1, t2, t8]
  · simp only [gb_sus, gb_sun, ne_eq, Nat.reduceEqDiff, not_false_eq_true, t1, t2, t8]
  · simp only [gb_sus, gb_sun, ne_eq, Nat.reduceEqDiff, not_false_eq_true, t1, t2, t8]
  · simp only [gb_sus, gb_sun, ne_eq, Nat.reduceEqDiff, not_false_eq_true, t1, t2, t8]
  · simp only [gb_sus, gb_sun, ne_eq, Nat.reduceEqDiff, not_false_eq_true, t1, t2, t8]
  · simp only [gb_sus, gb_sun, ne_eq, Nat.reduceEqDiff, not_false_eq_true, t1, t2, t8]
  · subst ex4
    rw [t1, gb_sun (by decide), gb_sun (by decide), gb_sun (by decide)] at c
    rw [if_neg c]
  · simp only [gb_sus, gb_sun, ne_eq, Nat.reduceEqDiff, not_false_eq_true, t1, t2, t8]
  · simp only [gb_sus, gb_sun, ne_eq, Nat.reduceEqDiff, not_false_eq_true, t1, t2, t8]
  · simp only [gb_sus, gb_sun, ne_eq, Nat.reduceEqDiff, not_false_eq_true, t1, t2, t8]
  · simp only [gb_sus, gb_sun, ne_eq, Nat.reduceEqDiff, not_false_eq_true, t1, t2, t8]
  · simp only [gb_sus, gb_sun, ne_eq, Nat.reduceEqDiff, not_false_eq_true, t1, t2, t8]
  · simp only [gb_sus, gb_sun, ne_eq, Nat.reduceEqDiff, not_false_eq_true, t1, t2, t8]
  · simp only [gb_sus, gb_sun, ne_eq, Nat.reduceEqDiff, not_false_eq_true, t1, t2, t8]
  · simp only [gb_sus, gb_sun, ne_eq, Nat.reduceEqDiff, not_false_eq_true, t1, t2, t8]
def gb_wkP (f f2 : gb_F) (g p : Nat) (v1 v3 v5 bo mk d10 d11 : Int32) : Prop := f2 0 = f 0 ∧ f2 1 = f 1 ∧ f2 2 = f 2 ∧ f2 4 = upd (f 4) g v5 ∧ f2 5 = upd (f 5) g bo ∧ f2 7 = upd (f 7) g v3 ∧ f2 8 = f 8 ∧ f2 9 = upd (f 9) (5 * g + p) v1 ∧ f2 12 = f 12 ∧ ((v1 = f 0 24 ∧ f2 6 = f 6 ∧ f2 10 = f 10 ∧ f2 11 = f 11) ∨ (v1 ≠ f 0 24 ∧ f2 6 = upd (f 6) g (f 6 g + mk) ∧ f2 10 = upd (f 10) p (f 10 p + d10) ∧ f2 11 = upd (f 11) p (f 11 p + d11)))
theorem mh_walks {n m g p : Nat} {R : Nat → Int32} {f : gb_F} {w : Int64} {v1 v2 v3 v4 v5 : Int32} (h : gb_mbx m R f) (e1 : v2.toInt = g) (hg : g < 8) (e2 : v3.toInt = p) (hp : p < 5) : gb_hm (ms_walks n f w v1 v2 v3 v4 v5) (fun f2 _ _ => gb_wkP f f2 g p v1 v3 v5 (if f 5 g ≤ R (3 + 3 * p) then 0 else f 5 g - R (3 + 3 * p)) (gb_mk (gb_toe R g) (R (3 + 3 * p)) (f 5 g) (R (18 + 5 * g + 3)) (f 0 22)) (if v4 = 0 then (gb_mk (gb_toe R g) (R (3 + 3 * p)) (f 5 g) (R (18 + 5 * g + 3)) (f 0 22)) else 0) (if v4 = 0 then 0 else (gb_mk (gb_toe R g) (R (3 + 3 * p)) (f 5 g) (R (18 + 5 * g + 3)) (f 0 22)))) := by
  have hR := mbx_rB h
  have t1 := gi_tn e1
  have t2 := gi_tn e2
  have t5 := gi_tn (gi_5g e1 e2 hg hp)
  generalize eM : gb_mk (gb_toe R g) (R (3 + 3 * p)) (f 5 g) (R (18 + 5 * g + 3)) (f 0 22) = M
  generalize eB : (if f 5 g ≤ R (3 + 3 * p) then 0 else f 5 g - R (3 + 3 * p)) = BO
  generalize eD : (if v4 = 0 then M else 0) = D
  generalize eE : (if v4 = 0 then 0 else M) = E
  have fin : ∀ F : gb_F, F 0 = f 0 → F 1 = f 1 → F 2 = f 2 → F 4 = f 4 → F 5 = upd (f 5) g BO → F 7 = f 7 → F 8 = f 8 → F 9 = f 9 → F 12 = f 12 → ((v1 = f 0 24 ∧ F 6 = f 6 ∧ F 10 = f 10 ∧ F 11 = f 11) ∨ (v1 ≠ f 0 24 ∧ F 6 = upd (f 6) g (f 6 g + M) ∧ F 10 = upd (f 10) p (f 10 p + D) ∧ F 11 = upd (f 11) p (f 11 p + E))) → ∀ u : Int64, gb_hm (ms_walks_122 n F u v1 v2 v3 v5) (fun f2 _ _ => gb_wkP f f2 g p v1 v3 v5 BO M D E) := by
    intro F a0 a1 a2 a4 a5 a7 a8 a9 a12 aa u
    unfold ms_walks_122
    refine hm_ck (fun _ _ => hm_lt (fun f1 d1 => hm_ck (fun _ _ => hm_lt (fun f2 d2 => hm_ck (fun _ _ => hm_lt (fun f3 d3 => hm_some ?_))))))
    subst d3
    subst d2
    subst d1
    refine ⟨?_, ?_, ?_, ?_, ?_, ?_, ?_, ?_, ?_, ?_⟩
    · rw [gb_un (by decide), gb_un (by decide), gb_un (by decide), a0]
    · rw [gb_un (by decide), gb_un (by decide), gb_un (by decide), a1]
    · rw [gb_un (by decide), gb_un (by decide), gb_un (by decide), a2]
    · rw [gb_un (by decide), gb_un (by decide), gb_us, t1, a4]
    · rw [gb_un (by decide), gb_un (by decide), gb_un (by decide), a5]
    · rw [gb_un (by decide), gb_us, gb_un (by decide), t1, a7]
    · rw [gb_un (by decide), gb_un (by decide), gb_un (by decide), a8]
    · rw [gb_us, gb_un (by decide), gb_un (by decide), t5, a9]
    · rw [gb_un (by decide), gb_un (by decide), gb_un (by decide), a12]
    · rw [gb_un (by decide), gb_un (by decide), gb_un (by decide), gb_un (by decide), gb_un (by decide), gb_un (by decide), gb_un (by decide), gb_un (by decide), gb_un (by decide)]
      exact aa
  have go : ∀ u : Int64, gb_hm (ms_walks_62 n f u v1 v2 v3 v4 v5 M BO v2) (fun f2 _ _ => gb_wkP f f2 g p v1 v3 v5 BO M D E) := by
    intro u
    unfold ms_walks_62
    refine hm_ck (fun _ _ => hm_lt (fun f1 d1 => ?_))
    have b0 : f1 0 = f 0 := by rw [d1, gb_un (by decide)]
    rw [b0]
    refine hm_if (fun c => fin f1 b0 ?_ ?_ ?_ ?_ ?_ ?_ ?_ ?_ (Or.inl ⟨c, ?_, ?_, ?_⟩) u) (fun c => ?_)
    · rw [d1, gb_un (by decide)]
    · rw [d1, gb_un (by decide)]
    · rw [d1, gb_un (by decide)]
    · rw [d1, gb_us, t1]
    · rw [d1, gb_un (by decide)]
    · rw [d1, gb_un (by decide)]
    · rw [d1, gb_un (by decide)]
    · rw [d1, gb_un (by decide)]
    · rw [d1, gb_un (by decide)]
    · rw [d1, gb_un (by decide)]
    · rw [d1, gb_un (by decide)]
    · refine hm_ck (fun _ _ => hm_lt (fun x6 d2 => hm_ck (fun _ _ => hm_lt (fun f3 d3 => hm_ck (fun _ _ => hm_lt (fun x10 d4 => ?_))))))
      have m100 : gb_hm (ms_walks_100 n f3 u v1 v2 v3 v4 v5 M D x10 v3) (fun f2 _ _ => gb_wkP f f2 g p v1 v3 v5 BO M D E) := by
        unfold ms_walks_100
        refine hm_ck (fun _ _ => hm_lt (fun f4 d5 => hm_ck (fun _ _ => hm_lt (fun x11 d6 => ?_))))
        have m120 : gb_hm (ms_walks_120 n f4 u v1 v2 v3 v5 E x11 v3) (fun f2 _ _ => gb_wkP f f2 g p v1 v3 v5 BO M D E) := by
          unfold ms_walks_120
          refine hm_ck (fun _ _ => hm_lt (fun f5 d7 => ?_))
          subst d7
          subst d6
          subst d5
          subst d4
          subst d3
          subst d2
          subst d1
          refine fin _ ?_ ?_ ?_ ?_ ?_ ?_ ?_ ?_ ?_ (Or.inr ⟨c, ?_, ?_, ?_⟩) u
          all_goals simp only [gb_us, gb_un, ne_eq, Nat.reduceEqDiff, not_false_eq_true, t1, t2]
        by_cases q : v4 = 0
        · rw [if_pos q] at eE ⊢
          subst eE
          exact m120
        · rw [if_neg q] at eE ⊢
          subst eE
          exact m120
      by_cases q : v4 = 0
      · rw [if_pos q] at eD ⊢
        subst eD
        exact m100
      · rw [if_neg q] at eD ⊢
        subst eD
        exact m100
  unfold ms_walks
  refine hm_bd (mx_ofPath h e2 (by omega) (j := 0) (by decide) (by decide)) (fun f1 w1 r g1 => ?_)
  obtain ⟨q1, q2, q3⟩ := g1
  subst f1
  subst w1
  rw [Nat.add_zero] at q3
  subst q3
  rw [t1]
  refine hm_ck (fun _ _ => hm_lt (fun x7 d7 => hm_bd (mx_ofGoose h e1 (by omega) (j := 3) (by decide) (by decide)) (fun f1 w1 r g1 => ?_)))
  obtain ⟨q1, q2, q3⟩ := g1
  subst f1
  subst w1
  subst q3
  refine hm_bd (mx_left h e1 (by omega) (rB_li hR hg)) (fun f1 w1 r g1 => ?_)
  obtain ⟨q1, q2, q3⟩ := g1
  subst f1
  subst w1
  rw [d7, eM] at q3
  subst q3
  refine hm_ck (fun _ _ => hm_lt (fun x8 d8 => hm_if (fun c => ?_) (fun c => hm_ck (fun _ _ => hm_lt (fun x9 d9 => ?_)))))
  · rw [d8] at c
    rw [if_pos c] at eB
    rw [eB]
    exact go w
  · rw [d8] at c
    rw [if_neg c] at eB
    rw [d9, eB]
    exact go w
/-! both go -/
theorem PR_go {R : Nat → Int32} {t : Prop} {σ s : gb_S} {f f2 : gb_F} {g p : Nat} {y z bo mk at' v5 bo2 mk2 d10 d11 : Int32} {T6 T7 : Nat → Int32} (hP : gb_PR R t σ f) (hg : g < 8) (hp : p < 5) (hz : gb_iv 0 23 z) (A : gb_goP σ s g p y z bo mk at' T6 T7) (B : gb_wkP f f2 g p z y v5 bo2 mk2 d10 d11) (eb : bo = bo2) (ib : gb_iv (-1) 60 bo2) (ea : at' = v5) (ia : gb_iv 0 2 v5) (em : mk = mk2) (H : (z = f 0 24 ∧ ¬ t ∧ T6 = σ.1 116 ∧ T7 = σ.1 117) ∨ (z ≠ f 0 24 ∧ T6 = upd (σ.1 116) p (σ.1 116 p + d10) ∧ T7 = upd (σ.1 117) p (σ.1 117 p + d11))) : gb_PR R t s f2 := by
  obtain ⟨h1, h2, h3, h4, h5, h6⟩ := hP
  obtain ⟨a0, a1, a2, a3, a4, a5, a6, a7, a8, a9⟩ := A
  obtain ⟨b0, b1, b2, b4, b5, b7, b8, b9, b12, bb⟩ := B
  have f9 : s.1 109 = σ.1 109 := a1 109 (by decide)
  subst eb
  subst ea
  subst em
  refine ⟨fun x hx => ⟨?_, ?_, ?_, ?_⟩, fun x hx => ⟨?_, ?_⟩, fun x hx => ⟨?_, ?_, ?_⟩, fun x q hx hq => ?_, ?_, fun x hx => ?_⟩
  · rw [a2, b4]
    exact upd_E rfl (h1 x hx).1
  · rw [a3, b5]
    exact upd_E rfl (h1 x hx).2.1
  · intro ht
    rcases bb with bb | bb
    · rcases H with H | H
      · exact absurd ht H.2.1
      · exact absurd bb.1 H.1
    · rw [a4, bb.2.1]
      by_cases c : x = g
      · subst c
        rw [pk_us, pk_us, (h1 x hx).2.2.1 ht]
      · rw [pk_un c, pk_un c]
        exact (h1 x hx).2.2.1 ht
  · rw [a5, b7]
    exact upd_E rfl (h1 x hx).2.2.2
  · rw [b4]
    by_cases c : x = g
    · subst c
      rw [pk_us]
      exact ia
    · rw [pk_un c]
      exact (h2 x hx).1
  · rw [b5]
    by_cases c : x = g
    · subst c
      rw [pk_us]
      exact ib
    · rw [pk_un c]
      exact (h2 x hx).2
  · rcases bb with bb | bb
    · rcases H with H | H
      · rw [a6, bb.2.2.1, H.2.2.1]
        exact (h3 x hx).1
      · exact absurd bb.1 H.1
    · rcases H with H | H
      · exact absurd H.1 bb.1
      · rw [a6, bb.2.2.1, H.2.1]
        exact upd_E (by rw [(h3 p hp).1]) (h3 x hx).1
  · rcases bb with bb | bb
    · rcases H with H | H
      · rw [a7, bb.2.2.2, H.2.2.2]
        exact (h3 x hx).2.1
      · exact absurd bb.1 H.1
    · rcases H with H | H
      · exact absurd H.1 bb.1
      · rw [a7, bb.2.2.2, H.2.2]
        exact upd_E (by rw [(h3 p hp).2.1]) (h3 x hx).2.1
  · rw [a8, b12]
    exact (h3 x hx).2.2
  · rw [a9, b9]
    by_cases c : 8 * q + x = 8 * p + g
    · have c2 : 5 * x + q = 5 * g + p := by omega
      rw [c, c2, pk_us, pk_us]
      have z1 := hz.1
      have z2 := hz.2
      refine ⟨?_, by omega, z2⟩
      rw [gb_tadd (by rw [show (1 : Int32).toInt = 1 from by decide]; omega) (by rw [show (1 : Int32).toInt = 1 from by decide]; omega)]
      rfl
    · by_cases c2 : 5 * x + q = 5 * g + p
      · exact absurd (show 8 * q + x = 8 * p + g by omega) c
      · rw [pk_un c, pk_un c2]
        exact h4 x q hx hq
  · rw [f9, b0]
    exact h5
  · rw [b8, f9]
    exact h6 x hx
/-! THE RAIN, THE FOX, AND EVERY DEED -/
theorem PR_path {R : Nat → Int32} {t : Prop} {σ : gb_S} {f : gb_F} {p : Nat} {a b c : Int32} (hP : gb_PR R t σ f) : gb_PR R t (gb_su (gb_su (gb_su σ 116 (upd (σ.1 116) p a)) 117 (upd (σ.1 117) p b)) 118 (upd (σ.1 118) p c)) (gb_u (gb_u (gb_u f 10 (upd (f 10) p a)) 11 (upd (f 11) p b)) 12 (upd (f 12) p c)) := by
  obtain ⟨h1, h2, h3, h4, h5, h6⟩ := hP
  refine ⟨fun x hx => ?_, fun x hx => ?_, fun x hx => ⟨?_, ?_, ?_⟩, fun x q hx hq => ?_, ?_, fun x hx => ?_⟩
  · simp only [gb_sun, gb_un, ne_eq, Nat.reduceEqDiff, not_false_eq_true]
    exact h1 x hx
  · simp only [gb_un, ne_eq, Nat.reduceEqDiff, not_false_eq_true]
    exact h2 x hx
  · rw [gb_sun (by decide), gb_sun (by decide), gb_sus, gb_un (by decide), gb_un (by decide), gb_us]
    exact upd_E rfl (h3 x hx).1
  · rw [gb_sun (by decide), gb_sus, gb_un (by decide), gb_us]
    exact upd_E rfl (h3 x hx).2.1
  · rw [gb_sus, gb_us]
    exact upd_E rfl (h3 x hx).2.2
  · simp only [gb_sun, gb_un, ne_eq, Nat.reduceEqDiff, not_false_eq_true]
    exact h4 x q hx hq
  · simp only [gb_sun, gb_un, ne_eq, Nat.reduceEqDiff, not_false_eq_true]
    exact h5
  · simp only [gb_sun, gb_un, ne_eq, Nat.reduceEqDiff, not_false_eq_true]
    exact h6 x hx
def gb_DE (R : Nat → Int32) (t : Prop) (σ s : gb_S) (f f2 : gb_F) : Prop := gb_PR R t s f2 ∧ gb_pfr σ s ∧ gb_mfr f f2 ∧ f2 0 23 = f 0 23
theorem DE_t {R : Nat → Int32} {t : Prop} {σ s s2 : gb_S} {f g h : gb_F} (a : gb_DE R t σ s f g) (b : gb_DE R t s s2 g h) : gb_DE R t σ s2 f h := ⟨b.1, pfr_t a.2.1 b.2.1, mfr_t a.2.2.1 b.2.2.1, b.2.2.2.trans a.2.2.2⟩
theorem r_rain {n m k0 k1 : Nat} {R NR : Nat → Int32} {t : Prop} {v1 : Int32} : ∀ (mm : Nat) (σ : gb_S) (f : gb_F) (x : Int32) (k : Nat), gb_PC k0 k1 R NR σ → gb_PM m R NR f → gb_PR R t σ f → x.toInt = k → k ≤ 5 → gb_hc (cs_Play_rainDown_2 n mm σ v1 x) (fun s _ => ∀ (mm2 : Nat) (w : Int64), gb_hm (ms_rains_2 n mm2 f w v1 x) (fun f2 _ _ => gb_DE R t σ s f f2)) := by
  intro mm
  induction mm with
  | zero =>
    intros
    exact hc_none
  | succ mm ih =>
    intro σ f x k h hM hP e hk
    have hR := mbx_rB hM.1
    have hp5 := (rB_nP hR).2
    have hpE := (rB_nP hR).1
    have tx := gi_tn e
    rw [cs_Play_rainDown_2]
    rw [h.1]
    refine hc_kk (fun _ => hc_cd ch_paths (fun s r g => ?_))
    obtain ⟨g1, g2⟩ := g
    subst s
    have eR : σ.1 (k0 + 1) 0 = R 0 := h.2.1.1
    rw [eR] at g2
    subst g2
    refine hc_if (fun c => hc_some ?_) (fun c => ?_)
    · intro mm2 w
      cases mm2 with
      | zero => exact hm_none
      | succ mm2 =>
        rw [ms_rains_2]
        refine hm_bd (mx_paths hM.1) (fun f1 w1 r g => ?_)
        obtain ⟨g1, g2, g3⟩ := g
        subst f1
        subst w1
        subst g3
        rw [if_pos c]
        exact hm_some ⟨hP, pfr_r, mfr_r, rfl⟩
    · have hkc : k < gb_nP R := by
        have := gi_nle c
        omega
      have q := hP.2.2.1 k (by omega)
      refine hc_ck (fun _ _ => hc_lt (fun y1 d1 => hc_lt (fun y2 d2 => hc_ck (fun _ _ => hc_lt (fun y3 d3 => hc_lt (fun y4 d4 => hc_ck (fun _ _ => hc_lt (fun y5 d5 => hc_ck (fun _ _ => hc_lt (fun s6 d6 => hc_ck (fun _ _ => hc_lt (fun y7 d7 => hc_ck (fun _ _ => hc_lt (fun s8 d8 => hc_ck (fun _ _ => hc_lt (fun y9 d9 => hc_ck (fun _ _ => hc_lt (fun s10 d10 => hc_lt (fun x2 dx => ?_)))))))))))))))))))
      rw [tx] at d1 d3 d5 d6 d7 d8 d9 d10
      have E : s10 = gb_su (gb_su (gb_su σ 116 (upd (σ.1 116) k (f 10 k - f 10 k * v1 / 10))) 117 (upd (σ.1 117) k (f 11 k - f 11 k * v1 / 10))) 118 (upd (σ.1 118) k (f 12 k + (f 10 k * v1 / 10 + f 11 k * v1 / 10))) := by
        subst d6
        rw [gb_sun (by decide)] at d7
        subst d8
        rw [gb_sun (by decide), gb_sun (by decide)] at d9
        rw [gb_sun (by decide), gb_sun (by decide), gb_sun (by decide)] at d10
        rw [d10, d9, d7, d5, d4, d3, d2, d1, q.1, q.2.1, q.2.2]
      have P2 := PR_path (p := k) (a := f 10 k - f 10 k * v1 / 10) (b := f 11 k - f 11 k * v1 / 10) (c := f 12 k + (f 10 k * v1 / 10 + f 11 k * v1 / 10)) hP
      rw [← E] at P2
      have fr : gb_pfr σ s10 := by
        rw [E]
        exact pfr_t (pfr_t (pfr_u (by decide)) (pfr_u (by decide))) (pfr_u (by decide))
      have mf : gb_mfr f (gb_u (gb_u (gb_u f 10 (upd (f 10) k (f 10 k - f 10 k * v1 / 10))) 11 (upd (f 11) k (f 11 k - f 11 k * v1 / 10))) 12 (upd (f 12) k (f 12 k + (f 10 k * v1 / 10 + f 11 k * v1 / 10)))) := mfr_t (mfr_t (mfr_u (by decide)) (mfr_u (by decide))) (mfr_u (by decide))
      refine hc_mono (ih s10 _ x2 (k + 1) (PC_k h fr) (PM_k hM mf) P2 (gi_1 e (by omega) dx) (by omega)) (fun s u H => ?_)
      intro mm2 w
      cases mm2 with
      | zero => exact hm_none
      | succ mm2 =>
        rw [ms_rains_2]
        refine hm_bd (mx_paths hM.1) (fun f1 w1 r g => ?_)
        obtain ⟨g1, g2, g3⟩ := g
        subst f1
        subst w1
        subst g3
        rw [if_neg c, tx]
        refine hm_ck (fun _ _ => hm_lt (fun z1 d1 => hm_lt (fun z2 d2 => hm_ck (fun _ _ => hm_lt (fun z3 d3 => hm_lt (fun z4 d4 => hm_ck (fun _ _ => hm_lt (fun z5 d5 => hm_ck (fun _ _ => hm_lt (fun s6 d6 => hm_ck (fun _ _ => hm_lt (fun z7 d7 => hm_ck (fun _ _ => hm_lt (fun s8 d8 => hm_ck (fun _ _ => hm_lt (fun z9 d9 => hm_ck (fun _ _ => hm_lt (fun s11 d11 => hm_lt (fun x3 dx3 => ?_)))))))))))))))))))
        have E2 : s11 = gb_u (gb_u (gb_u f 10 (upd (f 10) k (f 10 k - f 10 k * v1 / 10))) 11 (upd (f 11) k (f 11 k - f 11 k * v1 / 10))) 12 (upd (f 12) k (f 12 k + (f 10 k * v1 / 10 + f 11 k * v1 / 10))) := by
          subst d6
          rw [gb_un (by decide)] at d7
          subst d8
          rw [gb_un (by decide), gb_un (by decide)] at d9
          rw [gb_un (by decide), gb_un (by decide), gb_un (by decide)] at d11
          rw [d11, d9, d7, d5, d4, d3, d2, d1]
        rw [dx3, ← dx, E2]
        refine hm_mono (H mm2 w) (fun f3 w3 _ k3 => ?_)
        refine ⟨k3.1, pfr_t fr k3.2.1, mfr_t mf k3.2.2.1, ?_⟩
        rw [k3.2.2.2, gb_un (by decide), gb_un (by decide), gb_un (by decide)]
/-- one number of every goose's -/
theorem PR_at {R : Nat → Int32} {t : Prop} {σ : gb_S} {f : gb_F} {g : Nat} {a : Int32} (hP : gb_PR R t σ f) (ia : gb_iv 0 2 a) : gb_PR R t (gb_su σ 112 (upd (σ.1 112) g a)) (gb_u f 4 (upd (f 4) g a)) := by
  obtain ⟨h1, h2, h3, h4, h5, h6⟩ := hP
  refine ⟨fun x hx => ⟨?_, ?_⟩, fun x hx => ⟨?_, ?_⟩, fun x hx => ?_, fun x q hx hq => ?_, ?_, fun x hx => ?_⟩
  · rw [gb_sus, gb_us]
    exact upd_E rfl (h1 x hx).1
  · simp only [gb_sun, gb_un, ne_eq, Nat.reduceEqDiff, not_false_eq_true]
    exact (h1 x hx).2
  · rw [gb_us]
    by_cases c : x = g
    · subst c
      rw [pk_us]
      exact ia
    · rw [pk_un c]
      exact (h2 x hx).1
  · simp only [gb_un, ne_eq, Nat.reduceEqDiff, not_false_eq_true]
    exact (h2 x hx).2
  · simp only [gb_sun, gb_un, ne_eq, Nat.reduceEqDiff, not_false_eq_true]
    exact h3 x hx
  · simp only [gb_sun, gb_un, ne_eq, Nat.reduceEqDiff, not_false_eq_true]
    exact h4 x q hx hq
  · simp only [gb_sun, gb_un, ne_eq, Nat.reduceEqDiff, not_false_eq_true]
    exact h5
  · simp only [gb_sun, gb_un, ne_eq, Nat.reduceEqDiff, not_false_eq_true]
    exact h6 x hx
theorem PR_la {R : Nat → Int32} {t : Prop} {σ : gb_S} {f : gb_F} {g : Nat} {a : Int32} (hP : gb_PR R t σ f) : gb_PR R t (gb_su σ 115 (upd (σ.1 115) g a)) (gb_u f 7 (upd (f 7) g a)) := by
  obtain ⟨h1, h2, h3, h4, h5, h6⟩ := hP
  refine ⟨fun x hx => ⟨?_, ?_, ?_, ?_⟩, fun x hx => ?_, fun x hx => ?_, fun x q hx hq => ?_, ?_, fun x hx => ?_⟩
  · rw [gb_sun (by decide), gb_un (by decide)]
    exact (h1 x hx).1
  · rw [gb_sun (by decide), gb_un (by decide)]
    exact (h1 x hx).2.1
  · rw [gb_sun (by decide), gb_un (by decide)]
    exact (h1 x hx).2.2.1
  · rw [gb_sus, gb_us]
    exact upd_E rfl (h1 x hx).2.2.2
  · simp only [gb_un, ne_eq, Nat.reduceEqDiff, not_false_eq_true]
    exact h2 x hx
  · simp only [gb_sun, gb_un, ne_eq, Nat.reduceEqDiff, not_false_eq_true]
    exact h3 x hx
  · simp only [gb_sun, gb_un, ne_eq, Nat.reduceEqDiff, not_false_eq_true]
    exact h4 x q hx hq
  · simp only [gb_sun, gb_un, ne_eq, Nat.reduceEqDiff, not_false_eq_true]
    exact h5
  · simp only [gb_sun, gb_un, ne_eq, Nat.reduceEqDiff, not_false_eq_true]
    exact h6 x hx
theorem tb_or (x y : Int32) (g : Nat) : gb_tbt (x ||| y) g = (gb_tbt x g || gb_tbt y g) := by
  unfold gb_tbt
  rw [Int32.toBitVec_or, BitVec.getLsbD_or]
theorem tb_1 : ∀ g h : Fin 8, gb_tbt ((1 : Int32) <<< ((Int32.ofNat g.val) &&& 31)) h.val = decide (h = g) := by decide
theorem tb_one {x : Int32} {g h : Nat} (e : x.toInt = g) (hg : g < 8) (hh : h < 8) : gb_tbt ((1 : Int32) <<< (x &&& 31)) h = decide (h = g) := by
  have ex : x = Int32.ofNat g := gi_nI e (by omega)
  rw [ex]
  have := tb_1 ⟨g, hg⟩ ⟨h, hh⟩
  rw [this]
  by_cases c : h = g
  · subst c
    rw [decide_eq_true rfl, decide_eq_true rfl]
  · rw [decide_eq_false c, decide_eq_false (fun z => c (congrArg Fin.val z))]
theorem PR_bo {R : Nat → Int32} {t : Prop} {σ : gb_S} {f : gb_F} {g : Nat} {a x : Int32} (hP : gb_PR R t σ f) (hR : gb_rB R) (ia : gb_iv (-1) 60 a) (e : x.toInt = g) (hg : g < 8) : gb_PR R t (gb_su (gb_su σ 113 (upd (σ.1 113) g a)) 109 (upd (σ.1 109) 9 ((σ.1 109 9) ||| ((1 : Int32) <<< (x &&& 31))))) (gb_u (gb_u f 5 (upd (f 5) g a)) 8 (upd (f 8) g (vp_nar .boolean 1))) := by
  have h8 := (rB_nG hR).2
  obtain ⟨h1, h2, h3, h4, h5, h6⟩ := hP
  refine ⟨fun y hy => ⟨?_, ?_, ?_, ?_⟩, fun y hy => ⟨?_, ?_⟩, fun y hy => ?_, fun y q hy hq => ?_, ⟨?_, ?_⟩, fun y hy => ?_⟩
  · simp only [gb_sun, gb_un, ne_eq, Nat.reduceEqDiff, not_false_eq_true]
    exact (h1 y hy).1
  · rw [gb_sun (by decide), gb_sus, gb_un (by decide), gb_us]
    exact upd_E rfl (h1 y hy).2.1
  · simp only [gb_sun, gb_un, ne_eq, Nat.reduceEqDiff, not_false_eq_true]
    exact (h1 y hy).2.2.1
  · simp only [gb_sun, gb_un, ne_eq, Nat.reduceEqDiff, not_false_eq_true]
    exact (h1 y hy).2.2.2
  · simp only [gb_un, ne_eq, Nat.reduceEqDiff, not_false_eq_true]
    exact (h2 y hy).1
  · rw [gb_un (by decide), gb_us]
    by_cases c : y = g
    · subst c
      rw [pk_us]
      exact ia
    · rw [pk_un c]
      exact (h2 y hy).2
  · simp only [gb_sun, gb_un, ne_eq, Nat.reduceEqDiff, not_false_eq_true]
    exact h3 y hy
  · simp only [gb_sun, gb_un, ne_eq, Nat.reduceEqDiff, not_false_eq_true]
    exact h4 y q hy hq
  · rw [gb_sus, pk_un (by decide), gb_un (by decide), gb_un (by decide)]
    exact h5.1
  · rw [gb_sus, pk_un (by decide), gb_un (by decide), gb_un (by decide)]
    exact h5.2
  · rw [gb_us, gb_sus, pk_us, tb_or, tb_one e hg (by omega)]
    by_cases c : y = g
    · subst c
      rw [pk_us, decide_eq_true rfl, Bool.or_true]
      exact ⟨fun _ => Or.inr rfl, fun _ => by decide⟩
    · rw [pk_un c, decide_eq_false c, Bool.or_false]
      exact h6 y hy
theorem PR_fr {R : Nat → Int32} {t : Prop} {σ : gb_S} {f : gb_F} {a : Int32} (hP : gb_PR R t σ f) : gb_PR R t (gb_su σ 109 (upd (σ.1 109) 10 a)) (gb_u f 0 (upd (f 0) 22 a)) := by
  obtain ⟨h1, h2, h3, h4, h5, h6⟩ := hP
  refine ⟨fun x hx => ?_, fun x hx => ?_, fun x hx => ?_, fun x q hx hq => ?_, ⟨?_, ?_⟩, fun x hx => ?_⟩
  · simp only [gb_sun, gb_un, ne_eq, Nat.reduceEqDiff, not_false_eq_true]
    exact h1 x hx
  · simp only [gb_un, ne_eq, Nat.reduceEqDiff, not_false_eq_true]
    exact h2 x hx
  · simp only [gb_sun, gb_un, ne_eq, Nat.reduceEqDiff, not_false_eq_true]
    exact h3 x hx
  · simp only [gb_sun, gb_un, ne_eq, Nat.reduceEqDiff, not_false_eq_true]
    exact h4 x q hx hq
  · rw [gb_sus, gb_us, pk_us, pk_us]
  · rw [gb_sus, gb_us, pk_un (by decide), pk_un (by decide)]
    exact h5.2
  · rw [gb_un (by decide), gb_sus, pk_un (by decide)]
    exact h6 x hx
theorem PR_dn {R : Nat → Int32} {t : Prop} {σ : gb_S} {f : gb_F} {a : Int32} (hP : gb_PR R t σ f) : gb_PR R t (gb_su σ 109 (upd (σ.1 109) 11 a)) (gb_u f 0 (upd (f 0) 23 a)) := by
  obtain ⟨h1, h2, h3, h4, h5, h6⟩ := hP
  refine ⟨fun x hx => ?_, fun x hx => ?_, fun x hx => ?_, fun x q hx hq => ?_, ⟨?_, ?_⟩, fun x hx => ?_⟩
  · simp only [gb_sun, gb_un, ne_eq, Nat.reduceEqDiff, not_false_eq_true]
    exact h1 x hx
  · simp only [gb_un, ne_eq, Nat.reduceEqDiff, not_false_eq_true]
    exact h2 x hx
  · simp only [gb_sun, gb_un, ne_eq, Nat.reduceEqDiff, not_false_eq_true]
    exact h3 x hx
  · simp only [gb_sun, gb_un, ne_eq, Nat.reduceEqDiff, not_false_eq_true]
    exact h4 x q hx hq
  · rw [gb_sus, gb_us, pk_un (by decide), pk_un (by decide)]
    exact h5.1
  · rw [gb_sus, gb_us, pk_us, pk_us]
  · rw [gb_un (by decide), gb_sus, pk_un (by decide)]
    exact h6 x hx
/-! EVERY DEED -/
theorem in_G {R : Nat → Int32} {x : Int32} (h : gb_i0 x (R 1)) : x.toInt = x.toInt.toNat ∧ x.toInt.toNat < gb_nG R := by
  have h1 := h.1
  have h2 := h.2
  unfold gb_nG
  omega
theorem in_P {R : Nat → Int32} {x : Int32} (h : gb_i0 x (R 0)) : x.toInt = x.toInt.toNat ∧ x.toInt.toNat < gb_nP R := by
  have h1 := h.1
  have h2 := h.2
  unfold gb_nP
  omega
theorem mk_E {R : Nat → Int32} {t : Prop} {σ : gb_S} {f : gb_F} {g p : Nat} (hP : gb_PR R t σ f) (hg : g < 8) : (gb_mk (gb_toe R g) (R (3 + 3 * p)) (σ.1 113 g) (R (18 + 5 * g + 3)) (σ.1 109 10)) = (gb_mk (gb_toe R g) (R (3 + 3 * p)) (f 5 g) (R (18 + 5 * g + 3)) (f 0 22)) := by
  rw [(hP.1 g hg).2.1, hP.2.2.2.2.1.1]
theorem bo_E {a m : Int32} (ha : gb_iv (-1) 60 a) (hm : gb_iv 0 20 m) : (if (0 : Int32) < (a - m) then (a - m) else (0 : Int32)) = (if a ≤ m then 0 else a - m) ∧ gb_iv (-1) 60 (if a ≤ m then 0 else a - m) := by
  have a1 := ha.1
  have a2 := ha.2
  have m1 := hm.1
  have m2 := hm.2
  have e : (a - m).toInt = a.toInt - m.toInt := gb_tsub (by omega) (by omega)
  have z : (0 : Int32).toInt = 0 := by decide
  by_cases c : a ≤ m
  · have c' := gi_le c
    rw [if_pos c, if_neg (fun q => by have := gi_lt q; omega)]
    exact ⟨rfl, by unfold gb_iv; rw [z]; omega⟩
  · have c' := gi_nle c
    rw [if_neg c, if_pos (Int32.lt_iff_toInt_lt.mpr (by omega))]
    exact ⟨rfl, by unfold gb_iv; rw [e]; omega⟩
theorem DE_go {R : Nat → Int32} {t : Prop} {σ s : gb_S} {f f2 : gb_F} {g p : Nat} {y z v5 d10 d11 : Int32} {T6 T7 : Nat → Int32} (hP : gb_PR R t σ f) (hR : gb_rB R) (hg : g < 8) (hp : p < 5) (hz : gb_iv 0 23 z) (A : gb_goP σ s g p y z (if (0 : Int32) < (σ.1 113 g - R (3 + 3 * p)) then (σ.1 113 g - R (3 + 3 * p)) else (0 : Int32)) (gb_mk (gb_toe R g) (R (3 + 3 * p)) (σ.1 113 g) (R (18 + 5 * g + 3)) (σ.1 109 10)) (if σ.1 112 g = 0 then 1 else 0) T6 T7) (B : gb_wkP f f2 g p z y v5 (if f 5 g ≤ R (3 + 3 * p) then 0 else f 5 g - R (3 + 3 * p)) (gb_mk (gb_toe R g) (R (3 + 3 * p)) (f 5 g) (R (18 + 5 * g + 3)) (f 0 22)) d10 d11) (ea : (if f 4 g = 0 then (1 : Int32) else 0) = v5) (H : (z = f 0 24 ∧ ¬ t ∧ T6 = σ.1 116 ∧ T7 = σ.1 117) ∨ (z ≠ f 0 24 ∧ T6 = upd (σ.1 116) p (σ.1 116 p + d10) ∧ T7 = upd (σ.1 117) p (σ.1 117 p + d11))) : gb_DE R t σ s f f2 := by
  have q := bo_E (hP.2.1 g hg).2 (rB_mi hR hp)
  refine ⟨PR_go hP hg hp hz A B ?_ q.2 ?_ ?_ (mk_E hP hg) H, ?_, ?_, ?_⟩
  · rw [(hP.1 g hg).2.1]
    exact q.1
  · rw [(hP.1 g hg).1]
    exact ea
  · rw [← ea]
    by_cases c : f 4 g = 0
    · rw [if_pos c]
      exact by unfold gb_iv; decide
    · rw [if_neg c]
      exact by unfold gb_iv; decide
  · exact ⟨A.1, fun k hk => A.2.1 k (by omega)⟩
  · exact ⟨B.2.1, by rw [B.1], by rw [B.1], by rw [B.1], B.2.2.1⟩
  · rw [B.1]
theorem ch_eat {n : Nat} {σ : gb_S} {k0 k1 g : Nat} {R NR : Nat → Int32} {x : Int32} (h : gb_PC k0 k1 R NR σ) (e : x.toInt = g) (hg : g < gb_nG R) : gb_hc (cs_Play_eat n σ x) (fun s _ => s = gb_su σ 112 (upd (σ.1 112) g 2)) := by
  unfold cs_Play_eat
  rw [h.1]
  refine hc_kk (fun _ => hc_cd (cbx_hasG h.2.1) (fun s r q => ?_))
  obtain ⟨q1, q2⟩ := q
  subst s
  refine hc_if (fun c => ?_) (fun c => hc_ck (fun _ _ => hc_lt (fun s2 e2 => hc_some ?_)))
  · exact absurd (show gb_i0 x (R 1) from ⟨by omega, by unfold gb_nG at hg; omega⟩) (yn_0 q2 c)
  · rw [e2, gi_tn e]
theorem r_does {n m k0 k1 k : Nat} {R NR : Nat → Int32} {t : Prop} {σ : gb_S} {f : gb_F} {x p3 : Int32} (h : gb_PC k0 k1 R NR σ) (hM : gb_PM m R NR f) (hP : gb_PR R t σ f) (e : x.toInt = k) (hk : k < gb_nD NR) (hc : gb_can1 R NR f k) (h0 : p3 = 0 → x = f 0 24 ∧ ¬ t ∧ NR (1 + 4 * k) = 0) (h1 : ¬ p3 = 0 → x ≠ f 0 24) : gb_hc (cs_Play_doDeed_N n σ k1 x p3) (fun s _ => ∀ w : Int64, gb_hm (ms_does n f w x) (fun f2 _ _ => gb_DE R t σ s f f2)) := by
  have hR := mbx_rB hM.1
  have hN := hM.2.2
  have hk2 : k < 24 := by
    have := (rN_0 hN).2
    omega
  have hp5 := (rB_nP hR).2
  have hg8 := (rB_nG hR).2
  have hz : gb_iv 0 23 x := ⟨by omega, by omega⟩
  have ns : ¬ NR (1 + 4 * k) = 0 → x ≠ f 0 24 := fun q => h1 (fun z => q (h0 z).2.2)
  unfold cs_Play_doDeed_N
  refine hc_kk (fun _ => hc_cd (ch_dN h e hk hk2 (j := 1) (by decide) (by decide)) (fun s r g => ?_))
  obtain ⟨g1, g2⟩ := g
  subst s
  subst g2
  refine hc_cd (ch_dN h e hk hk2 (j := 2) (by decide) (by decide)) (fun s r g => ?_)
  obtain ⟨g1, g2⟩ := g
  subst s
  subst g2
  refine hc_cd (ch_kN h e hk hk2) (fun s r g => ?_)
  obtain ⟨g1, g2⟩ := g
  subst s
  subst g2
  refine hc_if (fun c0 => ?_) (fun c0 => ?_)
  · have cc := (can_0 c0).mp hc
    obtain ⟨⟨ia, ea⟩, ib⟩ := cc
    obtain ⟨a1, a2⟩ := in_G ia
    obtain ⟨b1, b2⟩ := in_P ib
    refine hc_if (fun d => hc_cd (ch_go_n h hR a1 a2 b1 b2) (fun s u A1 => hc_some ?_)) (fun d => hc_cd (ch_go_c116 h hR a1 a2 b1 b2) (fun s u A1 => hc_some ?_))
    · skip
      intro w
      unfold ms_does
      refine hm_bd (mx_deedOf hM.2.1 e (by omega) (j := 1) (by decide) (by decide)) (fun f1 w1 r1 g1 => ?_)
      obtain ⟨g1, g2, g3⟩ := g1
      subst f1
      subst w1
      subst g3
      refine hm_bd (mx_deedOf hM.2.1 e (by omega) (j := 2) (by decide) (by decide)) (fun f1 w1 r1 g1 => ?_)
      obtain ⟨g1, g2, g3⟩ := g1
      subst f1
      subst w1
      subst g3
      refine hm_bd (mx_deedOf hM.2.1 e (by omega) (j := 0) (by decide) (by decide)) (fun f1 w1 r1 g1 => ?_)
      obtain ⟨g1, g2, g3⟩ := g1
      subst f1
      subst w1
      subst g3
      rw [Nat.add_zero, if_pos c0]
      refine hm_bd (mh_walks hM.1 a1 (by omega) b1 (by omega)) (fun f2 w2 u2 B1 => hm_some ?_)
      exact DE_go hP hR (by omega) (by omega) hz A1 B1 (by rw [if_pos ea]) (Or.inl ⟨(h0 d).1, (h0 d).2.1, rfl, rfl⟩)
    · skip
      intro w
      unfold ms_does
      refine hm_bd (mx_deedOf hM.2.1 e (by omega) (j := 1) (by decide) (by decide)) (fun f1 w1 r1 g1 => ?_)
      obtain ⟨g1, g2, g3⟩ := g1
      subst f1
      subst w1
      subst g3
      refine hm_bd (mx_deedOf hM.2.1 e (by omega) (j := 2) (by decide) (by decide)) (fun f1 w1 r1 g1 => ?_)
      obtain ⟨g1, g2, g3⟩ := g1
      subst f1
      subst w1
      subst g3
      refine hm_bd (mx_deedOf hM.2.1 e (by omega) (j := 0) (by decide) (by decide)) (fun f1 w1 r1 g1 => ?_)
      obtain ⟨g1, g2, g3⟩ := g1
      subst f1
      subst w1
      subst g3
      rw [Nat.add_zero, if_pos c0]
      refine hm_bd (mh_walks hM.1 a1 (by omega) b1 (by omega)) (fun f2 w2 u2 B1 => hm_some ?_)
      exact DE_go hP hR (by omega) (by omega) hz A1 B1 (by rw [if_pos ea]) (Or.inr ⟨h1 d, by rw [if_pos rfl, mk_E hP (by omega)], by rw [if_pos rfl]; exact upd_0⟩)
  refine hc_if (fun c1 => ?_) (fun c1 => ?_)
  · have cc := (can_1 c1).mp hc
    obtain ⟨⟨ia, ea⟩, ib⟩ := cc
    obtain ⟨a1, a2⟩ := in_G ia
    obtain ⟨b1, b2⟩ := in_P ib
    refine hc_cd (ch_go_c117 h hR a1 a2 b1 b2) (fun s u A1 => hc_some ?_)
    · skip
      intro w
      unfold ms_does
      refine hm_bd (mx_deedOf hM.2.1 e (by omega) (j := 1) (by decide) (by decide)) (fun f1 w1 r1 g1 => ?_)
      obtain ⟨g1, g2, g3⟩ := g1
      subst f1
      subst w1
      subst g3
      refine hm_bd (mx_deedOf hM.2.1 e (by omega) (j := 2) (by decide) (by decide)) (fun f1 w1 r1 g1 => ?_)
      obtain ⟨g1, g2, g3⟩ := g1
      subst f1
      subst w1
      subst g3
      refine hm_bd (mx_deedOf hM.2.1 e (by omega) (j := 0) (by decide) (by decide)) (fun f1 w1 r1 g1 => ?_)
      obtain ⟨g1, g2, g3⟩ := g1
      subst f1
      subst w1
      subst g3
      rw [Nat.add_zero, if_neg c0, if_pos c1]
      refine hm_bd (mh_walks hM.1 a1 (by omega) b1 (by omega)) (fun f2 w2 u2 B1 => hm_some ?_)
      exact DE_go hP hR (by omega) (by omega) hz A1 B1 (by rw [if_pos ea]) (Or.inr ⟨ns (by rw [c1]; decide), by rw [if_neg (by decide)]; exact upd_0, by rw [if_neg (by decide), mk_E hP (by omega)]⟩)
  refine hc_if (fun c2 => ?_) (fun c2 => ?_)
  · have cc := (can_2 c2).mp hc
    obtain ⟨⟨ia, ea⟩, ib⟩ := cc
    obtain ⟨a1, a2⟩ := in_G ia
    obtain ⟨b1, b2⟩ := in_P ib
    refine hc_cd (ch_go_c117 h hR a1 a2 b1 b2) (fun s u A1 => hc_some ?_)
    · skip
      intro w
      unfold ms_does
      refine hm_bd (mx_deedOf hM.2.1 e (by omega) (j := 1) (by decide) (by decide)) (fun f1 w1 r1 g1 => ?_)
      obtain ⟨g1, g2, g3⟩ := g1
      subst f1
      subst w1
      subst g3
      refine hm_bd (mx_deedOf hM.2.1 e (by omega) (j := 2) (by decide) (by decide)) (fun f1 w1 r1 g1 => ?_)
      obtain ⟨g1, g2, g3⟩ := g1
      subst f1
      subst w1
      subst g3
      refine hm_bd (mx_deedOf hM.2.1 e (by omega) (j := 0) (by decide) (by decide)) (fun f1 w1 r1 g1 => ?_)
      obtain ⟨g1, g2, g3⟩ := g1
      subst f1
      subst w1
      subst g3
      rw [Nat.add_zero, if_neg c0, if_neg c1, if_pos c2]
      refine hm_bd (mh_walks hM.1 a1 (by omega) b1 (by omega)) (fun f2 w2 u2 B1 => hm_some ?_)
      exact DE_go hP hR (by omega) (by omega) hz A1 B1 (by rw [ea, if_neg (by decide)]) (Or.inr ⟨ns (by rw [c2]; decide), by rw [if_neg (by decide)]; exact upd_0, by rw [if_neg (by decide), mk_E hP (by omega)]⟩)
  refine hc_if (fun c3 => ?_) (fun c3 => ?_)
  · have cc := (can_3 c3).mp hc
    obtain ⟨⟨ia, ea⟩, ⟨ib, eb⟩, ic⟩ := cc
    obtain ⟨a1, a2⟩ := in_G ia
    obtain ⟨b1, b2⟩ := in_G ib
    obtain ⟨d1, d2⟩ := in_P ic
    refine hc_cd (ch_dN h e hk hk2 (j := 3) (by decide) (by decide)) (fun s r g => ?_)
    obtain ⟨g1, g2⟩ := g
    subst s
    subst g2
    refine hc_cd (ch_go_c116 h hR a1 a2 d1 d2) (fun s u A1 => ?_)
    have hs : gb_pfr σ s := ⟨A1.1, fun j hj => A1.2.1 j (by omega)⟩
    rw [gi_tn b1]
    refine hc_ck (fun _ _ => hc_lt (fun s2 e2 => ?_))
    have hs2 : gb_pfr σ s2 := by
      rw [e2]
      exact pfr_t hs (pfr_u (by decide))
    refine hc_cd (ch_dN (PC_k h hs2) e hk hk2 (j := 3) (by decide) (by decide)) (fun s3 r g => ?_)
    obtain ⟨g1, g2⟩ := g
    subst s3
    subst g2
    refine hc_ck (fun _ _ => hc_lt (fun s4 e4 => hc_some ?_))
    intro w
    unfold ms_does
    refine hm_bd (mx_deedOf hM.2.1 e (by omega) (j := 1) (by decide) (by decide)) (fun f1 w1 r1 g1 => ?_)
    obtain ⟨g1, g2, g3⟩ := g1
    subst f1
    subst w1
    subst g3
    refine hm_bd (mx_deedOf hM.2.1 e (by omega) (j := 2) (by decide) (by decide)) (fun f1 w1 r1 g1 => ?_)
    obtain ⟨g1, g2, g3⟩ := g1
    subst f1
    subst w1
    subst g3
    refine hm_bd (mx_deedOf hM.2.1 e (by omega) (j := 0) (by decide) (by decide)) (fun f1 w1 r1 g1 => ?_)
    obtain ⟨g1, g2, g3⟩ := g1
    subst f1
    subst w1
    subst g3
    rw [Nat.add_zero, if_neg c0, if_neg c1, if_neg c2, if_pos c3]
    refine hm_bd (mx_deedOf hM.2.1 e (by omega) (j := 3) (by decide) (by decide)) (fun f1 w1 r1 g1 => ?_)
    obtain ⟨g1, g2, g3⟩ := g1
    subst f1
    subst w1
    subst g3
    refine hm_bd (mh_walks hM.1 a1 (by omega) d1 (by omega)) (fun f2 w2 u2 B1 => ?_)
    have D1 : gb_DE R t σ s f f2 := DE_go hP hR (by omega) (by omega) hz A1 B1 (by rw [if_pos ea]) (Or.inr ⟨ns (by rw [c3]; decide), by rw [if_pos rfl, mk_E hP (by omega)], by rw [if_pos rfl]; exact upd_0⟩)
    rw [gi_tn b1]
    refine hm_ck (fun _ _ => hm_lt (fun f3 e3 => ?_))
    have mf : gb_mfr f f3 := by
      rw [e3]
      exact mfr_t D1.2.2.1 (mfr_u (by decide))
    refine hm_bd (mx_deedOf (PM_k hM mf).2.1 e (by omega) (j := 3) (by decide) (by decide)) (fun f1 w1 r1 g1 => ?_)
    obtain ⟨g1, g2, g3⟩ := g1
    subst f1
    subst w1
    subst g3
    refine hm_ck (fun _ _ => hm_lt (fun f4 e5 => hm_some ?_))
    subst e5
    subst e4
    subst e3
    subst e2
    refine ⟨PR_la (PR_at D1.1 (by unfold gb_iv; decide)), pfr_t hs2 (pfr_u (by decide)), mfr_t mf (mfr_u (by decide)), ?_⟩
    rw [gb_un (by decide), gb_un (by decide)]
    exact D1.2.2.2
  refine hc_if (fun c4 => ?_) (fun c4 => ?_)
  · have cc := (can_4 c4).mp hc
    have ia : gb_i0 (NR (1 + 4 * k + 1)) (R 1) := cc.elim (fun z => z.1) (fun z => z.1)
    obtain ⟨a1, a2⟩ := in_G ia
    rw [gi_tn a1]
    refine hc_ck (fun _ _ => hc_lt (fun s1 e1 => hc_lt (fun s2 e2 => hc_some ?_)))
    intro w
    unfold ms_does
    refine hm_bd (mx_deedOf hM.2.1 e (by omega) (j := 1) (by decide) (by decide)) (fun f1 w1 r1 g1 => ?_)
    obtain ⟨g1, g2, g3⟩ := g1
    subst f1
    subst w1
    subst g3
    refine hm_bd (mx_deedOf hM.2.1 e (by omega) (j := 2) (by decide) (by decide)) (fun f1 w1 r1 g1 => ?_)
    obtain ⟨g1, g2, g3⟩ := g1
    subst f1
    subst w1
    subst g3
    refine hm_bd (mx_deedOf hM.2.1 e (by omega) (j := 0) (by decide) (by decide)) (fun f1 w1 r1 g1 => ?_)
    obtain ⟨g1, g2, g3⟩ := g1
    subst f1
    subst w1
    subst g3
    rw [Nat.add_zero, if_neg c0, if_neg c1, if_neg c2, if_neg c3, if_pos c4]
    rw [gi_tn a1]
    refine hm_ck (fun _ _ => hm_lt (fun f1 d1 => hm_ck (fun _ _ => hm_lt (fun f2 d2 => hm_some ?_))))
    have i2 := rN_d (i := 2) hN hk2 (by decide)
    have E2 : s2 = gb_su (gb_su σ 113 (upd (σ.1 113) (NR (1 + 4 * k + 1)).toInt.toNat (NR (1 + 4 * k + 2)))) 109 (upd (σ.1 109) 9 ((σ.1 109 9) ||| ((1 : Int32) <<< ((NR (1 + 4 * k + 1)) &&& 31)))) := by
      rw [e2, e1, gb_sun (by decide)]
    have F2 : f2 = gb_u (gb_u f 5 (upd (f 5) (NR (1 + 4 * k + 1)).toInt.toNat (NR (1 + 4 * k + 2)))) 8 (upd (f 8) (NR (1 + 4 * k + 1)).toInt.toNat (vp_nar .boolean 1)) := by
      rw [d2, d1, gb_un (by decide)]
    rw [E2, F2]
    refine ⟨PR_bo hP hR i2 a1 (by omega), pfr_t (pfr_u (by decide)) (pfr_u (by decide)), mfr_t (mfr_u (by decide)) (mfr_u (by decide)), ?_⟩
    rw [gb_un (by decide), gb_un (by decide)]
  refine hc_if (fun c5 => ?_) (fun c5 => ?_)
  · have cc := (can_5 c5).mp hc
    refine hc_cd (r_rain n σ f 0 0 h hM hP (by decide) (by decide)) (fun s u H => hc_some ?_)
    intro w
    unfold ms_does
    refine hm_bd (mx_deedOf hM.2.1 e (by omega) (j := 1) (by decide) (by decide)) (fun f1 w1 r1 g1 => ?_)
    obtain ⟨g1, g2, g3⟩ := g1
    subst f1
    subst w1
    subst g3
    refine hm_bd (mx_deedOf hM.2.1 e (by omega) (j := 2) (by decide) (by decide)) (fun f1 w1 r1 g1 => ?_)
    obtain ⟨g1, g2, g3⟩ := g1
    subst f1
    subst w1
    subst g3
    refine hm_bd (mx_deedOf hM.2.1 e (by omega) (j := 0) (by decide) (by decide)) (fun f1 w1 r1 g1 => ?_)
    obtain ⟨g1, g2, g3⟩ := g1
    subst f1
    subst w1
    subst g3
    rw [Nat.add_zero, if_neg c0, if_neg c1, if_neg c2, if_neg c3, if_neg c4, if_pos c5]
    exact hm_bd (H n w) (fun f2 w2 u2 k2 => hm_some k2)
  refine hc_if (fun c6 => ?_) (fun c6 => ?_)
  · have cc := (can_6 c6).mp hc
    refine hc_lt (fun s e2 => hc_some ?_)
    intro w
    unfold ms_does
    refine hm_bd (mx_deedOf hM.2.1 e (by omega) (j := 1) (by decide) (by decide)) (fun f1 w1 r1 g1 => ?_)
    obtain ⟨g1, g2, g3⟩ := g1
    subst f1
    subst w1
    subst g3
    refine hm_bd (mx_deedOf hM.2.1 e (by omega) (j := 2) (by decide) (by decide)) (fun f1 w1 r1 g1 => ?_)
    obtain ⟨g1, g2, g3⟩ := g1
    subst f1
    subst w1
    subst g3
    refine hm_bd (mx_deedOf hM.2.1 e (by omega) (j := 0) (by decide) (by decide)) (fun f1 w1 r1 g1 => ?_)
    obtain ⟨g1, g2, g3⟩ := g1
    subst f1
    subst w1
    subst g3
    rw [Nat.add_zero, if_neg c0, if_neg c1, if_neg c2, if_neg c3, if_neg c4, if_neg c5, if_pos c6]
    refine hm_lt (fun f2 d2 => hm_some ?_)
    subst e2
    subst d2
    refine ⟨PR_fr hP, pfr_u (by decide), mfr_0 (by decide), ?_⟩
    rw [gb_us, pk_un (by decide)]
  refine hc_if (fun c7 => ?_) (fun c7 => ?_)
  · have cc := (can_7 c7).mp hc
    refine hc_lt (fun s e2 => hc_some ?_)
    intro w
    unfold ms_does
    refine hm_bd (mx_deedOf hM.2.1 e (by omega) (j := 1) (by decide) (by decide)) (fun f1 w1 r1 g1 => ?_)
    obtain ⟨g1, g2, g3⟩ := g1
    subst f1
    subst w1
    subst g3
    refine hm_bd (mx_deedOf hM.2.1 e (by omega) (j := 2) (by decide) (by decide)) (fun f1 w1 r1 g1 => ?_)
    obtain ⟨g1, g2, g3⟩ := g1
    subst f1
    subst w1
    subst g3
    refine hm_bd (mx_deedOf hM.2.1 e (by omega) (j := 0) (by decide) (by decide)) (fun f1 w1 r1 g1 => ?_)
    obtain ⟨g1, g2, g3⟩ := g1
    subst f1
    subst w1
    subst g3
    rw [Nat.add_zero, if_neg c0, if_neg c1, if_neg c2, if_neg c3, if_neg c4, if_neg c5, if_neg c6, if_pos c7]
    refine hm_lt (fun f2 d2 => hm_some ?_)
    subst e2
    subst d2
    refine ⟨PR_fr hP, pfr_u (by decide), mfr_0 (by decide), ?_⟩
    rw [gb_us, pk_un (by decide)]
  refine hc_if (fun c8 => ?_) (fun c8 => ?_)
  · have cc := (can_8 c8).mp hc
    obtain ⟨ia, ne⟩ := cc
    obtain ⟨a1, a2⟩ := in_P ia
    have fb := fox_b f (NR (1 + 4 * k + 1)).toInt.toNat (fun g hg => (hP.2.2.2.1 g _ hg (by omega)).2) (gb_nG R) (by omega)
    rcases fb with fb | fb
    · exact absurd fb.1 ne
    refine hc_cd (ch_goer h hR hP a1 (by omega)) (fun s r g => ?_)
    obtain ⟨g1, g2⟩ := g
    subst s
    have er : r.toInt = ((gb_fox f (NR (1 + 4 * k + 1)).toInt.toNat (gb_nG R)).1.toNat : Int) := by
      rw [g2]
      omega
    refine hc_cd (ch_eat h er (by omega)) (fun s u e2 => hc_some ?_)
    intro w
    unfold ms_does
    refine hm_bd (mx_deedOf hM.2.1 e (by omega) (j := 1) (by decide) (by decide)) (fun f1 w1 r1 g1 => ?_)
    obtain ⟨g1, g2, g3⟩ := g1
    subst f1
    subst w1
    subst g3
    refine hm_bd (mx_deedOf hM.2.1 e (by omega) (j := 2) (by decide) (by decide)) (fun f1 w1 r1 g1 => ?_)
    obtain ⟨g1, g2, g3⟩ := g1
    subst f1
    subst w1
    subst g3
    refine hm_bd (mx_deedOf hM.2.1 e (by omega) (j := 0) (by decide) (by decide)) (fun f1 w1 r1 g1 => ?_)
    obtain ⟨g1, g2, g3⟩ := g1
    subst f1
    subst w1
    subst g3
    rw [Nat.add_zero, if_neg c0, if_neg c1, if_neg c2, if_neg c3, if_neg c4, if_neg c5, if_neg c6, if_neg c7]
    refine hm_bd (mh_foxed hM.1 (fun g hg => (hP.2.2.2.1 g _ hg (by omega)).2) a1 (by omega)) (fun f1 w1 r1 k1 => ?_)
    obtain ⟨q1, q2, q3⟩ := k1
    subst f1
    subst w1
    have er1 : r1.toInt = ((gb_fox f (NR (1 + 4 * k + 1)).toInt.toNat (gb_nG R)).1.toNat : Int) := by
      rw [q3]
      omega
    rw [gi_tn er1]
    refine hm_ck (fun _ _ => hm_lt (fun f2 d2 => hm_some ?_))
    subst e2
    subst d2
    refine ⟨PR_at hP (by unfold gb_iv; decide), pfr_u (by decide), mfr_u (by decide), ?_⟩
    rw [gb_un (by decide)]
  exfalso
  have i0 := rN_d (i := 0) hN hk2 (by decide)
  rw [if_pos rfl, Nat.add_zero] at i0
  have i1 := i0.1
  have i2 := i0.2
  have nk : ∀ (v : Int32) (z : Int), v.toInt = z → ¬ NR (1 + 4 * k) = v → (NR (1 + 4 * k)).toInt ≠ z := fun v z ez q y => q (gi_eq y ez)
  have n0 := nk 0 0 (by decide) c0
  have n1 := nk 1 1 (by decide) c1
  have n2 := nk 2 2 (by decide) c2
  have n3 := nk 3 3 (by decide) c3
  have n4 := nk 4 4 (by decide) c4
  have n5 := nk 5 5 (by decide) c5
  have n6 := nk 6 6 (by decide) c6
  have n7 := nk 7 7 (by decide) c7
  have n8 := nk 8 8 (by decide) c8
  change (0 : Int) ≤ (NR (1 + 4 * k)).toInt at i1
  change (NR (1 + 4 * k)).toInt ≤ 8 at i2
  omega
/-! A NIGHT BEGINS -/
def gb_bo0 (R : Nat → Int32) (g : Nat) : Int32 := if g < gb_nG R then R (18 + 5 * g + 2) else 0
theorem bo0_i {R : Nat → Int32} {g : Nat} (h : gb_rB R) : gb_iv (-1) 60 (gb_bo0 R g) := by
  unfold gb_bo0
  have h8 := (rB_nG h).2
  by_cases c : g < gb_nG R
  · rw [if_pos c]
    exact gb_iw (rB_bo h (by omega)) (by decide)
  · rw [if_neg c]
    exact by unfold gb_iv; decide
theorem lt_sk {g k : Nat} (h : g < k + 1) : g < k ∨ g = k := by omega
theorem ch_fill116_5 {n : Nat} {v : Int32} : ∀ (mm : Nat) (σ : gb_S) (x : Int32) (k : Nat), x.toInt = k → k ≤ 5 → (∀ j, j < k → σ.1 116 j = v) → gb_hc (cs_java_util_Arrays_fill_c116_5 n mm σ v x 5) (fun s _ => s.2 = σ.2 ∧ (∀ i, i ≠ 116 → s.1 i = σ.1 i) ∧ ∀ j, j < 5 → s.1 116 j = v) := by
  intro mm
  induction mm with
  | zero =>
    intros
    exact hc_none
  | succ mm ih =>
    intro σ x k e hk h
    have c5 : (5 : Int32).toInt = 5 := by decide
    rw [cs_java_util_Arrays_fill_c116_5]
    refine hc_if (fun c => hc_some ⟨rfl, fun _ _ => rfl, fun j hj => h j ?_⟩) (fun c => hc_ck (fun _ _ => hc_lt (fun s es => hc_lt (fun y ey => ?_))))
    · have := gi_le c
      omega
    · have := gi_nle c
      rw [gi_tn e] at es
      refine hc_mono (ih s y (k + 1) (gi_1 e (by omega) ey) (by omega) (fun j hj => ?_)) (fun s2 u g => ⟨?_, fun i hi => ?_, g.2.2⟩)
      · rw [es, gb_sus]
        rcases lt_sk hj with q | q
        · rw [pk_un (by omega)]
          exact h j q
        · rw [q, pk_us]
      · rw [g.1, es]
        rfl
      · rw [g.2.1 i hi, es, gb_sun hi]
theorem ch_fill116 {n : Nat} {σ : gb_S} {v : Int32} : gb_hc (cs_java_util_Arrays_fill_c116 n σ v) (fun s _ => s.2 = σ.2 ∧ (∀ i, i ≠ 116 → s.1 i = σ.1 i) ∧ ∀ j, j < 5 → s.1 116 j = v) := by
  unfold cs_java_util_Arrays_fill_c116
  exact ch_fill116_5 n σ 0 0 (by decide) (by decide) (fun j hj => absurd hj (by omega))
theorem ch_fill117_5 {n : Nat} {v : Int32} : ∀ (mm : Nat) (σ : gb_S) (x : Int32) (k : Nat), x.toInt = k → k ≤ 5 → (∀ j, j < k → σ.1 117 j = v) → gb_hc (cs_java_util_Arrays_fill_c117_5 n mm σ v x 5) (fun s _ => s.2 = σ.2 ∧ (∀ i, i ≠ 117 → s.1 i = σ.1 i) ∧ ∀ j, j < 5 → s.1 117 j = v) := by
  intro mm
  induction mm with
  | zero =>
    intros
    exact hc_none
  | succ mm ih =>
    intro σ x k e hk h
    have c5 : (5 : Int32).toInt = 5 := by decide
    rw [cs_java_util_Arrays_fill_c117_5]
    refine hc_if (fun c => hc_some ⟨rfl, fun _ _ => rfl, fun j hj => h j ?_⟩) (fun c => hc_ck (fun _ _ => hc_lt (fun s es => hc_lt (fun y ey => ?_))))
    · have := gi_le c
      omega
    · have := gi_nle c
      rw [gi_tn e] at es
      refine hc_mono (ih s y (k + 1) (gi_1 e (by omega) ey) (by omega) (fun j hj => ?_)) (fun s2 u g => ⟨?_, fun i hi => ?_, g.2.2⟩)
      · rw [es, gb_sus]
        rcases lt_sk hj with q | q
        · rw [pk_un (by omega)]
          exact h j q
        · rw [q, pk_us]
      · rw [g.1, es]
        rfl
      · rw [g.2.1 i hi, es, gb_sun hi]
theorem ch_fill117 {n : Nat} {σ : gb_S} {v : Int32} : gb_hc (cs_java_util_Arrays_fill_c117 n σ v) (fun s _ => s.2 = σ.2 ∧ (∀ i, i ≠ 117 → s.1 i = σ.1 i) ∧ ∀ j, j < 5 → s.1 117 j = v) := by
  unfold cs_java_util_Arrays_fill_c117
  exact ch_fill117_5 n σ 0 0 (by decide) (by decide) (fun j hj => absurd hj (by omega))
theorem ch_fill118_5 {n : Nat} {v : Int32} : ∀ (mm : Nat) (σ : gb_S) (x : Int32) (k : Nat), x.toInt = k → k ≤ 5 → (∀ j, j < k → σ.1 118 j = v) → gb_hc (cs_java_util_Arrays_fill_c118_5 n mm σ v x 5) (fun s _ => s.2 = σ.2 ∧ (∀ i, i ≠ 118 → s.1 i = σ.1 i) ∧ ∀ j, j < 5 → s.1 118 j = v) := by
  intro mm
  induction mm with
  | zero =>
    intros
    exact hc_none
  | succ mm ih =>
    intro σ x k e hk h
    have c5 : (5 : Int32).toInt = 5 := by decide
    rw [cs_java_util_Arrays_fill_c118_5]
    refine hc_if (fun c => hc_some ⟨rfl, fun _ _ => rfl, fun j hj => h j ?_⟩) (fun c => hc_ck (fun _ _ => hc_lt (fun s es => hc_lt (fun y ey => ?_))))
    · have := gi_le c
      omega
    · have := gi_nle c
      rw [gi_tn e] at es
      refine hc_mono (ih s y (k + 1) (gi_1 e (by omega) ey) (by omega) (fun j hj => ?_)) (fun s2 u g => ⟨?_, fun i hi => ?_, g.2.2⟩)
      · rw [es, gb_sus]
        rcases lt_sk hj with q | q
        · rw [pk_un (by omega)]
          exact h j q
        · rw [q, pk_us]
      · rw [g.1, es]
        rfl
      · rw [g.2.1 i hi, es, gb_sun hi]
theorem ch_fill118 {n : Nat} {σ : gb_S} {v : Int32} : gb_hc (cs_java_util_Arrays_fill_c118 n σ v) (fun s _ => s.2 = σ.2 ∧ (∀ i, i ≠ 118 → s.1 i = σ.1 i) ∧ ∀ j, j < 5 → s.1 118 j = v) := by
  unfold cs_java_util_Arrays_fill_c118
  exact ch_fill118_5 n σ 0 0 (by decide) (by decide) (fun j hj => absurd hj (by omega))
theorem ch_fill119_5 {n : Nat} {v : Int32} : ∀ (mm : Nat) (σ : gb_S) (x : Int32) (k : Nat), x.toInt = k → k ≤ 40 → (∀ j, j < k → σ.1 119 j = v) → gb_hc (cs_java_util_Arrays_fill_c119_5 n mm σ v x 40) (fun s _ => s.2 = σ.2 ∧ (∀ i, i ≠ 119 → s.1 i = σ.1 i) ∧ ∀ j, j < 40 → s.1 119 j = v) := by
  intro mm
  induction mm with
  | zero =>
    intros
    exact hc_none
  | succ mm ih =>
    intro σ x k e hk h
    have c5 : (40 : Int32).toInt = 40 := by decide
    rw [cs_java_util_Arrays_fill_c119_5]
    refine hc_if (fun c => hc_some ⟨rfl, fun _ _ => rfl, fun j hj => h j ?_⟩) (fun c => hc_ck (fun _ _ => hc_lt (fun s es => hc_lt (fun y ey => ?_))))
    · have := gi_le c
      omega
    · have := gi_nle c
      rw [gi_tn e] at es
      refine hc_mono (ih s y (k + 1) (gi_1 e (by omega) ey) (by omega) (fun j hj => ?_)) (fun s2 u g => ⟨?_, fun i hi => ?_, g.2.2⟩)
      · rw [es, gb_sus]
        rcases lt_sk hj with q | q
        · rw [pk_un (by omega)]
          exact h j q
        · rw [q, pk_us]
      · rw [g.1, es]
        rfl
      · rw [g.2.1 i hi, es, gb_sun hi]
theorem ch_fill119 {n : Nat} {σ : gb_S} {v : Int32} : gb_hc (cs_java_util_Arrays_fill_c119 n σ v) (fun s _ => s.2 = σ.2 ∧ (∀ i, i ≠ 119 → s.1 i = σ.1 i) ∧ ∀ j, j < 40 → s.1 119 j = v) := by
  unfold cs_java_util_Arrays_fill_c119
  exact ch_fill119_5 n σ 0 0 (by decide) (by decide) (fun j hj => absurd hj (by omega))
def gb_beC (R : Nat → Int32) (σ s : gb_S) : Prop := s.2 = σ.2 ∧ (∀ k, k < 109 → s.1 k = σ.1 k) ∧ (∀ g, g < 8 → s.1 112 g = 0 ∧ s.1 113 g = gb_bo0 R g ∧ s.1 114 g = 0 ∧ s.1 115 g = -1) ∧ (∀ p, p < 5 → s.1 116 p = 0 ∧ s.1 117 p = 0 ∧ s.1 118 p = 0) ∧ (∀ j, j < 40 → s.1 119 j = 0) ∧ s.1 109 9 = 0 ∧ s.1 109 10 = 0 ∧ s.1 109 11 = 0
theorem ch_begin7 {n k0 : Nat} {R : Nat → Int32} (hR : gb_rB R) : ∀ (mm : Nat) (σ : gb_S) (x : Int32) (k : Nat), x.toInt = k → k ≤ 8 → k0 + 1 < 109 → gb_cbx k0 R σ → (∀ g, g < k → σ.1 112 g = 0 ∧ σ.1 113 g = gb_bo0 R g ∧ σ.1 114 g = 0 ∧ σ.1 115 g = -1) → gb_hc (cs_Play_begin_B_7 n mm σ k0 x) (fun s _ => gb_beC R σ s) := by
  intro mm
  induction mm with
  | zero =>
    intros
    exact hc_none
  | succ mm ih =>
    intro σ x k e hk k9 hb h
    have c8 : (8 : Int32).toInt = 8 := by decide
    rw [cs_Play_begin_B_7]
    refine hc_kk (fun _ => hc_if (fun c => ?_) (fun c => ?_))
    · have := gi_le c
      refine hc_cd ch_fill116 (fun s1 _ g1 => hc_cd ch_fill117 (fun s2 _ g2 => hc_cd ch_fill118 (fun s3 _ g3 => hc_cd ch_fill119 (fun s4 _ g4 => hc_lt (fun s5 e5 => hc_lt (fun s6 e6 => hc_lt (fun s7 e7 => hc_some ?_)))))))
      have a : ∀ i, i ≠ 109 → s7.1 i = s4.1 i := fun i hi => by rw [e7, gb_sun hi, e6, gb_sun hi, e5, gb_sun hi]
      have b : ∀ i, i ≠ 109 → i ≠ 116 → i ≠ 117 → i ≠ 118 → i ≠ 119 → s7.1 i = σ.1 i := fun i h1 h2 h3 h4 h5 => by rw [a i h1, g4.2.1 i h5, g3.2.1 i h4, g2.2.1 i h3, g1.2.1 i h2]
      refine ⟨?_, fun i hi => b i (by omega) (by omega) (by omega) (by omega) (by omega), fun g hg => ?_, fun p hp => ⟨?_, ?_, ?_⟩, fun j hj => ?_, ?_, ?_, ?_⟩
      · have : s7.2 = s4.2 := by rw [e7, e6, e5]; rfl
        rw [this, g4.1, g3.1, g2.1, g1.1]
      · rw [b 112 (by decide) (by decide) (by decide) (by decide) (by decide), b 113 (by decide) (by decide) (by decide) (by decide) (by decide), b 114 (by decide) (by decide) (by decide) (by decide) (by decide), b 115 (by decide) (by decide) (by decide) (by decide) (by decide)]
        exact h g (by omega)
      · rw [a 116 (by decide), g4.2.1 116 (by decide), g3.2.1 116 (by decide), g2.2.1 116 (by decide)]
        exact g1.2.2 p hp
      · rw [a 117 (by decide), g4.2.1 117 (by decide), g3.2.1 117 (by decide)]
        exact g2.2.2 p hp
      · rw [a 118 (by decide), g4.2.1 118 (by decide)]
        exact g3.2.2 p hp
      · rw [a 119 (by decide)]
        exact g4.2.2 j hj
      · rw [e7, gb_sus, pk_un (by decide), e6, gb_sus, pk_un (by decide), e5, gb_sus, pk_us]
      · rw [e7, gb_sus, pk_un (by decide), e6, gb_sus, pk_us]
      · rw [e7, gb_sus, pk_us]
    · have k8 := gi_nle c
      refine hc_ck (fun _ _ => hc_lt (fun s1 e1 => ?_))
      have hb1 : gb_cbx k0 R s1 := by
        unfold gb_cbx
        rw [e1, gb_sun (by omega)]
        exact hb
      refine hc_cd (cbx_hasG hb1) (fun s r q => ?_)
      obtain ⟨q1, q2⟩ := q
      subst s
      have tail : ∀ (v : Int32), v = gb_bo0 R k → gb_hc (gb_ck x 8 (gb_lt (gb_su s1 113 (upd (s1.1 113) (Int32.toNatClampNeg x) v)) (fun s_32 => gb_ck x 8 (gb_lt (gb_su s_32 114 (upd (s_32.1 114) (Int32.toNatClampNeg x) 0)) (fun s_34 => gb_ck x 8 (gb_lt (gb_su s_34 115 (upd (s_34.1 115) (Int32.toNatClampNeg x) (-1))) (fun s_36 => gb_lt (x + 1) (fun x_37 => cs_Play_begin_B_7 n mm s_36 k0 x_37)))))))) (fun s _ => gb_beC R σ s) := by
        intro v ev
        refine hc_ck (fun _ _ => hc_lt (fun s2 e2 => hc_ck (fun _ _ => hc_lt (fun s3 e3 => hc_ck (fun _ _ => hc_lt (fun s4 e4 => hc_lt (fun y ey => ?_)))))))
        rw [gi_tn e] at e1 e2 e3 e4
        subst e4
        subst e3
        subst e2
        subst e1
        refine hc_mono (ih _ y (k + 1) (gi_1 e (by omega) ey) (by omega) k9 ?_ (fun g hg => ⟨?_, ?_, ?_, ?_⟩)) (fun s u G => ?_)
        · unfold gb_cbx
          rw [gb_sun (by omega), gb_sun (by omega), gb_sun (by omega), gb_sun (by omega)]
          exact hb
        · rw [gb_sun (by decide), gb_sun (by decide), gb_sun (by decide), gb_sus]
          rcases lt_sk hg with z | z
          · rw [pk_un (by omega)]
            exact (h g z).1
          · rw [z, pk_us]
        · rw [gb_sun (by decide), gb_sun (by decide), gb_sus, gb_sun (by decide)]
          rcases lt_sk hg with z | z
          · rw [pk_un (by omega)]
            exact (h g z).2.1
          · rw [z, pk_us, ev]
        · rw [gb_sun (by decide), gb_sus, gb_sun (by decide), gb_sun (by decide)]
          rcases lt_sk hg with z | z
          · rw [pk_un (by omega)]
            exact (h g z).2.2.1
          · rw [z, pk_us]
        · rw [gb_sus, gb_sun (by decide), gb_sun (by decide), gb_sun (by decide)]
          rcases lt_sk hg with z | z
          · rw [pk_un (by omega)]
            exact (h g z).2.2.2
          · rw [z, pk_us]
        · refine ⟨G.1, fun i hi => ?_, G.2.2⟩
          rw [G.2.1 i hi, gb_sun (by omega), gb_sun (by omega), gb_sun (by omega), gb_sun (by omega)]
      refine hc_if (fun c2 => tail 0 ?_) (fun c2 => ?_)
      · have no := yn_0 q2 c2
        unfold gb_bo0
        rw [if_neg (fun z => no ⟨by omega, by unfold gb_nG at z; omega⟩)]
      · obtain ⟨a1, a2, a3⟩ := yn_1 q2 c2
        have ek : x.toInt.toNat = k := by omega
        rw [ek] at a3
        refine hc_cd (ch_boots hb1 hR e a3) (fun s r q => ?_)
        obtain ⟨q1, q3⟩ := q
        subst s
        exact tail r (by rw [q3]; unfold gb_bo0; rw [if_pos a3])
theorem ch_begin {n k0 : Nat} {R : Nat → Int32} {σ : gb_S} (hR : gb_rB R) (k9 : k0 + 1 < 109) (hb : gb_cbx k0 R σ) : gb_hc (cs_Play_begin_B n σ k0) (fun s _ => gb_beC R (gb_sq σ 1 k0) s) := by
  unfold cs_Play_begin_B
  refine hc_kk (fun _ => hc_lt (fun s es => ?_))
  subst es
  exact ch_begin7 hR n _ 0 0 (by decide) (by decide) k9 hb (fun g hg => absurd hg (by omega))
def gb_beM (R : Nat → Int32) (f f2 : gb_F) : Prop := gb_mfr f f2 ∧ (∀ g, g < 8 → f2 4 g = 0 ∧ f2 5 g = gb_bo0 R g ∧ f2 6 g = 0 ∧ f2 7 g = -1 ∧ (¬ f2 8 g = 0 ↔ 0 < (gb_bo0 R g).toInt) ∧ ∀ p, p < 5 → f2 9 (5 * g + p) = -1) ∧ (∀ p, p < 5 → f2 10 p = 0 ∧ f2 11 p = 0 ∧ f2 12 p = 0) ∧ f2 0 22 = 0 ∧ f2 0 23 = 0
def gb_beG (R : Nat → Int32) (f : gb_F) (g : Nat) : Prop := f 4 g = 0 ∧ f 5 g = gb_bo0 R g ∧ f 6 g = 0 ∧ f 7 g = -1 ∧ (¬ f 8 g = 0 ↔ 0 < (gb_bo0 R g).toInt) ∧ ∀ p, p < 5 → f 9 (5 * g + p) = -1
theorem mh_begins105 {n : Nat} {R : Nat → Int32} : ∀ (mm : Nat) (f : gb_F) (w : Int64) (x : Int32) (k : Nat), x.toInt = k → k ≤ 5 → (∀ g, g < 8 → gb_beG R f g) → (∀ p, p < k → f 10 p = 0 ∧ f 11 p = 0 ∧ f 12 p = 0) → gb_hm (ms_begins_105 n mm f w x) (fun f2 _ _ => gb_beM R f f2) := by
  intro mm
  induction mm with
  | zero =>
    intros
    exact hm_none
  | succ mm ih =>
    intro f w x k e hk hG h
    have c5 : (5 : Int32).toInt = 5 := by decide
    rw [ms_begins_105]
    refine hm_if (fun c => hm_lt (fun f1 d1 => hm_lt (fun f2 d2 => hm_some ?_))) (fun c => ?_)
    · have := gi_le c
      have a : ∀ i, i ≠ 0 → f2 i = f i := fun i hi => by rw [d2, gb_un hi, d1, gb_un hi]
      refine ⟨?_, fun g hg => ?_, fun p hp => ?_, ?_, ?_⟩
      · rw [d2, d1]
        exact mfr_t (mfr_0 (by decide)) (mfr_0 (by decide))
      · have := hG g hg
        unfold gb_beG at this
        rw [a 4 (by decide), a 5 (by decide), a 6 (by decide), a 7 (by decide), a 8 (by decide), a 9 (by decide)]
        exact this
      · rw [a 10 (by decide), a 11 (by decide), a 12 (by decide)]
        exact h p (by omega)
      · rw [d2, gb_us, pk_un (by decide), d1, gb_us, pk_us]
      · rw [d2, gb_us, pk_us]
    · have := gi_nle c
      refine hm_ck (fun _ _ => hm_lt (fun f1 d1 => hm_ck (fun _ _ => hm_lt (fun f2 d2 => hm_ck (fun _ _ => hm_lt (fun f3 d3 => hm_lt (fun y ey => ?_)))))))
      rw [gi_tn e] at d1 d2 d3
      have a : ∀ i, i ≠ 10 → i ≠ 11 → i ≠ 12 → f3 i = f i := fun i h1 h2 h3 => by rw [d3, gb_un h3, d2, gb_un h2, d1, gb_un h1]
      refine hm_mono (ih f3 w y (k + 1) (gi_1 e (by omega) ey) (by omega) (fun g hg => ?_) (fun p hp => ⟨?_, ?_, ?_⟩)) (fun f4 w4 u G => ⟨mfr_t ?_ G.1, G.2⟩)
      · unfold gb_beG
        rw [a 4 (by decide) (by decide) (by decide), a 5 (by decide) (by decide) (by decide), a 6 (by decide) (by decide) (by decide), a 7 (by decide) (by decide) (by decide), a 8 (by decide) (by decide) (by decide), a 9 (by decide) (by decide) (by decide)]
        exact hG g hg
      · rw [d3, gb_un (by decide), d2, gb_un (by decide), d1, gb_us]
        rcases lt_sk hp with z | z
        · rw [pk_un (by omega)]
          exact (h p z).1
        · rw [z, pk_us]
      · rw [d3, gb_un (by decide), d2, gb_us, d1, gb_un (by decide)]
        rcases lt_sk hp with z | z
        · rw [pk_un (by omega)]
          exact (h p z).2.1
        · rw [z, pk_us]
      · rw [d3, gb_us, d2, gb_un (by decide), d1, gb_un (by decide)]
        rcases lt_sk hp with z | z
        · rw [pk_un (by omega)]
          exact (h p z).2.2
        · rw [z, pk_us]
      · rw [d3, d2, d1]
        exact mfr_t (mfr_t (mfr_u (by decide)) (mfr_u (by decide))) (mfr_u (by decide))
theorem mh_begins75 {n g : Nat} {k2 : gb_F → Int64 → Int32 → gb_MR Unit} {Q : gb_F → Int64 → Unit → Prop} {v1 : Int32} (e1 : v1.toInt = g) (hg : g < 8) (f0 : gb_F) : ∀ (mm : Nat) (f : gb_F) (w : Int64) (x : Int32) (k : Nat), x.toInt = k → k ≤ 5 → (∀ i, i ≠ 9 → f i = f0 i) → (∀ j, ¬ (5 * g ≤ j ∧ j < 5 * g + 5) → f 9 j = f0 9 j) → (∀ p, p < k → f 9 (5 * g + p) = -1) → (∀ (f2 : gb_F) (w2 : Int64), (∀ i, i ≠ 9 → f2 i = f0 i) → (∀ j, ¬ (5 * g ≤ j ∧ j < 5 * g + 5) → f2 9 j = f0 9 j) → (∀ p, p < 5 → f2 9 (5 * g + p) = -1) → gb_hm (k2 f2 w2 (v1 + 1)) Q) → gb_hm (ms_begins_75 n k2 mm f w v1 x) Q := by
  intro mm
  induction mm with
  | zero =>
    intros
    exact hm_none
  | succ mm ih =>
    intro f w x k e hk h1 h2 h3 H
    have c5 : (5 : Int32).toInt = 5 := by decide
    rw [ms_begins_75]
    refine hm_if (fun c => hm_lt (fun y ey => ?_)) (fun c => ?_)
    · have := gi_le c
      rw [ey]
      exact H f w h1 h2 (fun p hp => h3 p (by omega))
    · have := gi_nle c
      refine hm_ck (fun _ _ => hm_lt (fun f1 d1 => hm_lt (fun y ey => ?_)))
      rw [gi_tn (gi_5g e1 e hg (by omega))] at d1
      refine ih f1 w y (k + 1) (gi_1 e (by omega) ey) (by omega) (fun i hi => ?_) (fun j hj => ?_) (fun p hp => ?_) H
      · rw [d1, gb_un hi]
        exact h1 i hi
      · rw [d1, gb_us, pk_un (by omega)]
        exact h2 j hj
      · rw [d1, gb_us]
        rcases lt_sk hp with z | z
        · rw [pk_un (by omega)]
          exact h3 p z
        · rw [z, pk_us]
theorem mh_begins2 {n m : Nat} {R : Nat → Int32} : ∀ (mm : Nat) (f : gb_F) (w : Int64) (x : Int32) (k : Nat), gb_mbx m R f → x.toInt = k → k ≤ 8 → (∀ g, g < k → gb_beG R f g) → gb_hm (ms_begins_2 n mm f w x) (fun f2 _ _ => gb_beM R f f2) := by
  intro mm
  induction mm with
  | zero =>
    intros
    exact hm_none
  | succ mm ih =>
    intro f w x k hb e hk hG
    have c8 : (8 : Int32).toInt = 8 := by decide
    have hR := mbx_rB hb
    rw [ms_begins_2]
    refine hm_if (fun c => ?_) (fun c => ?_)
    · have := gi_le c
      exact mh_begins105 n f w 0 0 (by decide) (by decide) (fun g hg => hG g (by omega)) (fun p hp => absurd hp (by omega))
    · have k8 := gi_nle c
      refine hm_ck (fun _ _ => hm_lt (fun f1 d1 => ?_))
      rw [gi_tn e] at d1
      have mk : ∀ f2 : gb_F, f2 1 = f 1 → f2 0 = f 0 → gb_mbx m R f2 := fun f2 q1 q0 => ⟨hb.1, hb.2.1, by have := hb.2.2.1; unfold gb_mb at this ⊢; rw [q0]; exact this, fun j => by rw [q1]; exact hb.2.2.2 j⟩
      have hb1 : gb_mbx m R f1 := mk f1 (by rw [d1, gb_un (by decide)]) (by rw [d1, gb_un (by decide)])
      have tail : ∀ (v : Int32) (u : Int64), v = gb_bo0 R k → gb_hm (ms_begins_38 n (fun f w v1 => ms_begins_2 n mm f w v1) f1 u x v x) (fun f2 _ _ => gb_beM R f f2) := by
        intro v u ev
        unfold ms_begins_38
        rw [gi_tn e]
        refine hm_ck (fun _ _ => hm_lt (fun f2 d2 => hm_ck (fun _ _ => hm_lt (fun y dy => ?_))))
        rw [d2, gb_us, pk_us, ev] at dy
        have last : ∀ (b : Int32) (f5 : gb_F), (¬ b = 0 ↔ 0 < (gb_bo0 R k).toInt) → f5 = gb_u (gb_u (gb_u f2 8 (upd (f2 8) k b)) 6 (upd (f2 6) k 0)) 7 (upd (f2 7) k (-1)) → gb_hm (ms_begins_75 n (fun f w v1 => ms_begins_2 n mm f w v1) n f5 u x 0) (fun f2 _ _ => gb_beM R f f2) := by
          intro b f5 hb8 d5
          refine mh_begins75 (g := k) e (by omega) f5 n f5 u 0 0 (by decide) (by decide) (fun _ _ => rfl) (fun _ _ => rfl) (fun p hp => absurd hp (by omega)) (fun f6 w6 a1 a2 a3 => ?_)
          have cells : ∀ i, i ≠ 9 → i ≠ 8 → i ≠ 7 → i ≠ 6 → i ≠ 5 → i ≠ 4 → f6 i = f i := fun i h9 h8 h7 h6 h5 h4 => by rw [a1 i h9, d5, gb_un h7, gb_un h6, gb_un h8, d2, gb_un h5, d1, gb_un h4]
          have i4 : f6 4 = upd (f 4) k 0 := by rw [a1 4 (by decide), d5, gb_un (by decide), gb_un (by decide), gb_un (by decide), d2, gb_un (by decide), d1, gb_us]
          have i5 : f6 5 = upd (f 5) k (gb_bo0 R k) := by rw [a1 5 (by decide), d5, gb_un (by decide), gb_un (by decide), gb_un (by decide), d2, gb_us, d1, gb_un (by decide), ev]
          have i6 : f6 6 = upd (f 6) k 0 := by rw [a1 6 (by decide), d5, gb_un (by decide), gb_us, d2, gb_un (by decide), d1, gb_un (by decide)]
          have i7 : f6 7 = upd (f 7) k (-1) := by rw [a1 7 (by decide), d5, gb_us, d2, gb_un (by decide), d1, gb_un (by decide)]
          have i8 : f6 8 = upd (f 8) k b := by rw [a1 8 (by decide), d5, gb_un (by decide), gb_un (by decide), gb_us, d2, gb_un (by decide), d1, gb_un (by decide)]
          have i9 : f5 9 = f 9 := by rw [d5, gb_un (by decide), gb_un (by decide), gb_un (by decide), d2, gb_un (by decide), d1, gb_un (by decide)]
          have c0 := cells 0 (by decide) (by decide) (by decide) (by decide) (by decide) (by decide)
          have c1 := cells 1 (by decide) (by decide) (by decide) (by decide) (by decide) (by decide)
          have c2 := cells 2 (by decide) (by decide) (by decide) (by decide) (by decide) (by decide)
          refine hm_mono (ih f6 w6 (x + 1) (k + 1) (mk f6 c1 c0) (gi_1 e (by omega) rfl) (by omega) (fun g hg => ?_)) (fun f7 w7 u7 G => ⟨mfr_t ⟨c1, by rw [c0], by rw [c0], by rw [c0], c2⟩ G.1, G.2⟩)
          unfold gb_beG
          rw [i4, i5, i6, i7, i8]
          rcases lt_sk hg with z | z
          · rw [pk_un (by omega), pk_un (by omega), pk_un (by omega), pk_un (by omega), pk_un (by omega)]
            obtain ⟨o1, o2, o3, o4, o5, o6⟩ := hG g z
            refine ⟨o1, o2, o3, o4, o5, fun p hp => ?_⟩
            rw [a2 _ (by omega), i9]
            exact o6 p hp
          · subst z
            rw [pk_us, pk_us, pk_us, pk_us, pk_us]
            exact ⟨rfl, rfl, rfl, rfl, hb8, a3⟩
        refine hm_if (fun c2 => ?_) (fun c2 => ?_)
        · have q := gi_le c2
          rw [dy] at q
          have z0 : (0 : Int32).toInt = 0 := by decide
          refine hm_ck (fun _ _ => hm_lt (fun f3 d3 => hm_ck (fun _ _ => hm_lt (fun f4 d4 => hm_ck (fun _ _ => hm_lt (fun f5 d5 => last (vp_nar .boolean 0) f5 ⟨fun z => absurd (by decide) z, fun z => by omega⟩ ?_))))))
          subst d5
          subst d4
          subst d3
          rw [gb_un (show (6 : Nat) ≠ 8 by decide), gb_un (show (7 : Nat) ≠ 6 by decide), gb_un (show (7 : Nat) ≠ 8 by decide)]
        · have q := gi_nle c2
          rw [dy] at q
          have z0 : (0 : Int32).toInt = 0 := by decide
          refine hm_ck (fun _ _ => hm_lt (fun f3 d3 => hm_ck (fun _ _ => hm_lt (fun f4 d4 => hm_ck (fun _ _ => hm_lt (fun f5 d5 => last (vp_nar .boolean 1) f5 ⟨fun _ => by omega, fun _ => by decide⟩ ?_))))))
          subst d5
          subst d4
          subst d3
          rw [gb_un (show (6 : Nat) ≠ 8 by decide), gb_un (show (7 : Nat) ≠ 6 by decide), gb_un (show (7 : Nat) ≠ 8 by decide)]
      refine hm_bd (mbx_hasG hb1) (fun f2 w2 r q => ?_)
      obtain ⟨q1, q2, q3⟩ := q
      subst f2
      subst w2
      refine hm_if (fun c2 => tail 0 w ?_) (fun c2 => ?_)
      · have no := yn_0 q3 c2
        unfold gb_bo0
        rw [if_neg (fun z => no ⟨by omega, by unfold gb_nG at z; omega⟩)]
      · obtain ⟨a1, a2, a3⟩ := yn_1 q3 c2
        have ek : x.toInt.toNat = k := by omega
        rw [ek] at a3
        refine hm_bd (mx_ofGoose hb1 e (by omega) (j := 2) (by decide) (by decide)) (fun f2 w2 r q => ?_)
        obtain ⟨q1, q2, q4⟩ := q
        subst f2
        subst w2
        exact tail r w (by rw [q4]; unfold gb_bo0; rw [if_pos a3])
theorem mh_begins {n m : Nat} {R : Nat → Int32} {f : gb_F} {w : Int64} (hb : gb_mbx m R f) : gb_hm (ms_begins n f w) (fun f2 _ _ => gb_beM R f f2) := by
  unfold ms_begins
  exact mh_begins2 n f w 0 0 hb (by decide) (by decide) (fun g hg => absurd hg (by omega))
theorem PR_0 {R : Nat → Int32} {t : Prop} {σ s : gb_S} {f f2 : gb_F} (hR : gb_rB R) (A : gb_beC R σ s) (B : gb_beM R f f2) : gb_PR R t s f2 := by
  obtain ⟨a1, a2, a3, a4, a5, a6, a7, a8⟩ := A
  obtain ⟨b1, b2, b3, b4, b5⟩ := B
  have h8 := (rB_nG hR).2
  refine ⟨fun g hg => ?_, fun g hg => ?_, fun p hp => ?_, fun g p hg hp => ?_, ?_, fun g hg => ?_⟩
  · obtain ⟨x1, x2, x3, x4⟩ := a3 g hg
    obtain ⟨y1, y2, y3, y4, y5, y6⟩ := b2 g hg
    rw [x1, x2, x3, x4, y1, y2, y3, y4]
    exact ⟨rfl, rfl, fun _ => rfl, rfl⟩
  · obtain ⟨y1, y2, y3, y4, y5, y6⟩ := b2 g hg
    rw [y1, y2]
    exact ⟨by unfold gb_iv; decide, bo0_i hR⟩
  · obtain ⟨x1, x2, x3⟩ := a4 p hp
    obtain ⟨y1, y2, y3⟩ := b3 p hp
    rw [x1, x2, x3, y1, y2, y3]
    exact ⟨rfl, rfl, rfl⟩
  · rw [a5 _ (by omega), (b2 g hg).2.2.2.2.2 p hp]
    exact ⟨by decide, by unfold gb_iv; decide⟩
  · rw [a7, a8, b4, b5]
    exact ⟨rfl, rfl⟩
  · rw [(b2 g (by omega)).2.2.2.2.1, a6]
    have e0 : gb_tbt 0 g = false := by
      unfold gb_tbt
      exact BitVec.getLsbD_zero
    rw [e0]
    unfold gb_bo0
    rw [if_pos hg]
    exact ⟨fun z => Or.inl z, fun z => z.elim id (fun y => absurd y (by decide))⟩
/-! THE TALLIES STAY SMALL -/
def gb_tr (b : Int) (f : gb_F) : Prop := ∀ p, p < 5 → gb_iv (-b) b (f 10 p) ∧ gb_iv (-b) b (f 11 p)
def gb_nb (b : Int) : Int := b + b / 10 + 501
theorem tr_w {b : Int} {f f2 : gb_F} (h0 : 0 ≤ b) (h : gb_tr b f) (e1 : f2 10 = f 10) (e2 : f2 11 = f 11) : gb_tr (gb_nb b) f2 := fun p hp => by
  rw [e1, e2]
  unfold gb_nb
  exact ⟨gb_iw (h p hp).1 ⟨by omega, by omega⟩, gb_iw (h p hp).2 ⟨by omega, by omega⟩⟩
theorem mk_b {toe mi bo li fr : Int32} (h1 : gb_iv 0 8 toe) (h2 : gb_iv 0 20 mi) (h3 : gb_iv (-1) 60 bo) : gb_iv (-500) 500 (gb_mk toe mi bo li fr) := by
  have it : gb_iv (-1) 20 (if bo < mi then bo else mi) := by
    by_cases c : bo < mi
    · rw [if_pos c]
      have := gi_lt c
      exact ⟨h3.1, by have := h2.2; omega⟩
    · rw [if_neg c]
      exact gb_iw h2 (by decide)
  have im : (if bo < mi then bo else mi).toInt ≤ mi.toInt := by
    by_cases c : bo < mi
    · rw [if_pos c]
      have := gi_lt c
      omega
    · rw [if_neg c]
      exact Int.le_refl _
  unfold gb_mk
  generalize (if bo < mi then bo else mi) = tt at it im ⊢
  have c2 : (2 : Int32).toInt = 2 := by decide
  have dbl : ∀ (x : Int32) (a b : Int), gb_iv a b x → -100000 ≤ a → b ≤ 100000 → gb_iv (2 * a) (2 * b) (2 * x) := fun x a b h ha hb => by
    have h1 := h.1
    have h2 := h.2
    unfold gb_iv
    rw [gb_tmul (by rw [c2]; omega) (by rw [c2]; omega), c2]
    omega
  have i1 : gb_iv (-2) 40 (if fr = 0 then 2 * tt else 0) := gb_iite (dbl tt (-1) 20 it (by decide) (by decide)) (by unfold gb_iv; decide)
  have i2 : gb_iv 0 21 (mi - tt) := by
    have q1 := it.1
    have q2 := it.2
    have q3 := h2.1
    have q4 := h2.2
    unfold gb_iv
    rw [gb_tsub (by omega) (by omega)]
    omega
  have i3 : gb_iv 0 168 (toe * (mi - tt)) := gb_imul h1 i2 (by decide)
  have i4 := gb_iadd (lo := -2) (hi := 208) i1 i3 (by decide)
  exact gb_iite (gb_iw (dbl _ _ _ i4 (by decide) (by decide)) (by decide)) (gb_iw i4 (by decide))
theorem rain_b {x v : Int32} {b : Int} (hx : gb_iv (-b) b x) (hb : 0 ≤ b) (hb2 : b ≤ 100000) (hv : gb_iv (-1) 10 v) : gb_iv (-(gb_nb b)) (gb_nb b) (x - x * v / 10) := by
  have x1 := hx.1
  have x2 := hx.2
  have v1 := hv.1
  have v2 := hv.2
  have c10 : (10 : Int32).toInt = 10 := by decide
  have go : ∀ c : Int, v.toInt = c → -1000001 ≤ x.toInt * c → x.toInt * c ≤ 1000001 → (∀ d : Int, (x.toInt * c = 10 * d + (x.toInt * c) % 10 ∧ 0 ≤ (x.toInt * c) % 10 ∧ (x.toInt * c) % 10 < 10 ∧ 0 ≤ x.toInt * c) ∨ (∃ r : Int, -(x.toInt * c) = 10 * (-d) + r ∧ 0 ≤ r ∧ r < 10 ∧ x.toInt * c < 0) → -(gb_nb b) ≤ x.toInt - d ∧ x.toInt - d ≤ gb_nb b) → gb_iv (-(gb_nb b)) (gb_nb b) (x - x * v / 10) := by
    intro c ec m1 m2 H
    have m : (x * v).toInt = x.toInt * c := by rw [gb_tmul (by rw [ec]; omega) (by rw [ec]; omega), ec]
    have d : (x * v / 10).toInt = (x.toInt * c).tdiv 10 := by rw [gb_tdiv (gb_it _) (gb_ic c10) (by decide), m, c10]
    have K := H ((x.toInt * c).tdiv 10) (by
      by_cases s : 0 ≤ x.toInt * c
      · refine Or.inl ⟨?_, by omega, by omega, s⟩
        rw [Int.tdiv_eq_ediv_of_nonneg s]
        omega
      · refine Or.inr ⟨(-(x.toInt * c)) % 10, ?_, by omega, by omega, by omega⟩
        have e : (x.toInt * c).tdiv 10 = -((-(x.toInt * c)).tdiv 10) := by rw [Int.neg_tdiv, Int.neg_neg]
        rw [e, Int.tdiv_eq_ediv_of_nonneg (by omega)]
        omega)
    have k1 := K.1
    have k2 := K.2
    unfold gb_nb at k1 k2 ⊢
    unfold gb_iv
    rw [gb_tsub (by rw [d]; omega) (by rw [d]; omega), d]
    omega
  have cs : v.toInt = -1 ∨ v.toInt = 0 ∨ v.toInt = 1 ∨ v.toInt = 2 ∨ v.toInt = 3 ∨ v.toInt = 4 ∨ v.toInt = 5 ∨ v.toInt = 6 ∨ v.toInt = 7 ∨ v.toInt = 8 ∨ v.toInt = 9 ∨ v.toInt = 10 := by omega
  rcases cs with e | e | e | e | e | e | e | e | e | e | e | e
  all_goals
    refine go _ e (by omega) (by omega) (fun d hd => ?_)
    unfold gb_nb
    rcases hd with ⟨q1, q2, q3, q4⟩ | ⟨r, q1, q2, q3, q4⟩ <;> omega
theorem mh_rains_tr {n m : Nat} {R NR : Nat → Int32} {v1 : Int32} {b : Int} (hb : 0 ≤ b) (hb2 : b ≤ 100000) (hv : gb_iv (-1) 10 v1) : ∀ (mm : Nat) (f : gb_F) (w : Int64) (x : Int32) (k : Nat), gb_PM m R NR f → x.toInt = k → k ≤ 5 → (∀ p, p < 5 → (p < k → gb_iv (-(gb_nb b)) (gb_nb b) (f 10 p) ∧ gb_iv (-(gb_nb b)) (gb_nb b) (f 11 p)) ∧ (k ≤ p → gb_iv (-b) b (f 10 p) ∧ gb_iv (-b) b (f 11 p))) → gb_hm (ms_rains_2 n mm f w v1 x) (fun f2 _ _ => gb_tr (gb_nb b) f2) := by
  intro mm
  induction mm with
  | zero =>
    intros
    exact hm_none
  | succ mm ih =>
    intro f w x k hM e hk H
    have hR := mbx_rB hM.1
    have hp5 := (rB_nP hR).2
    have hpE := (rB_nP hR).1
    have tx := gi_tn e
    rw [ms_rains_2]
    refine hm_bd (mx_paths hM.1) (fun f1 w1 r g => ?_)
    obtain ⟨g1, g2, g3⟩ := g
    subst f1
    subst w1
    subst g3
    refine hm_if (fun c => hm_some (fun p hp => ?_)) (fun c => ?_)
    · by_cases q : p < k
      · exact (H p hp).1 q
      · have := (H p hp).2 (by omega)
        unfold gb_nb
        exact ⟨gb_iw this.1 ⟨by omega, by omega⟩, gb_iw this.2 ⟨by omega, by omega⟩⟩
    · have := gi_nle c
      have hkc : k < 5 := by omega
      rw [tx]
      refine hm_ck (fun _ _ => hm_lt (fun z1 d1 => hm_lt (fun z2 d2 => hm_ck (fun _ _ => hm_lt (fun z3 d3 => hm_lt (fun z4 d4 => hm_ck (fun _ _ => hm_lt (fun z5 d5 => hm_ck (fun _ _ => hm_lt (fun s6 d6 => hm_ck (fun _ _ => hm_lt (fun z7 d7 => hm_ck (fun _ _ => hm_lt (fun s8 d8 => hm_ck (fun _ _ => hm_lt (fun z9 d9 => hm_ck (fun _ _ => hm_lt (fun s11 d11 => hm_lt (fun x3 dx3 => ?_)))))))))))))))))))
      have a10 : s11 10 = upd (f 10) k (f 10 k - f 10 k * v1 / 10) := by rw [d11, gb_un (by decide), d8, gb_un (by decide), d6, gb_us, d5, d2, d1]
      have a11 : s11 11 = upd (f 11) k (f 11 k - f 11 k * v1 / 10) := by rw [d11, gb_un (by decide), d8, gb_us, d7, d6, gb_un (by decide), d4, d3]
      have mf : gb_mfr f s11 := by
        rw [d11, d8, d6]
        exact mfr_t (mfr_t (mfr_u (by decide)) (mfr_u (by decide))) (mfr_u (by decide))
      refine ih s11 w x3 (k + 1) (PM_k hM mf) (gi_1 e (by omega) dx3) (by omega) (fun p hp => ⟨fun q => ?_, fun q => ?_⟩)
      · rw [a10, a11]
        rcases lt_sk q with z | z
        · rw [pk_un (by omega), pk_un (by omega)]
          exact (H p hp).1 z
        · subst z
          rw [pk_us, pk_us]
          have := (H p hp).2 (Nat.le_refl _)
          exact ⟨rain_b this.1 hb hb2 hv, rain_b this.2 hb hb2 hv⟩
      · rw [a10, a11, pk_un (by omega), pk_un (by omega)]
        exact (H p hp).2 (by omega)
theorem tr_walk {f f2 : gb_F} {g p : Nat} {v1 v3 v5 bo mk d10 d11 : Int32} {b : Int} (hb : 0 ≤ b) (hb2 : b ≤ 100000) (B : gb_wkP f f2 g p v1 v3 v5 bo mk d10 d11) (i10 : gb_iv (-500) 500 d10) (i11 : gb_iv (-500) 500 d11) (h : gb_tr b f) : gb_tr (gb_nb b) f2 := by
  obtain ⟨-, -, -, -, -, -, -, -, -, bb⟩ := B
  rcases bb with bb | bb
  · exact tr_w hb h bb.2.2.1 bb.2.2.2
  · intro q hq
    have sm : ∀ (F : Nat → Int32) (d : Int32), gb_iv (-500) 500 d → (∀ x, x < 5 → gb_iv (-b) b (F x)) → p < 5 ∨ ¬ p < 5 → gb_iv (-(gb_nb b)) (gb_nb b) (upd F p (F p + d) q) := by
      intro F d hd hF _
      by_cases c : q = p
      · subst c
        rw [pk_us]
        exact gb_iadd (hF q hq) hd ⟨⟨by unfold gb_nb; omega, by unfold gb_nb; omega⟩, by unfold gb_nb; omega, by unfold gb_nb; omega⟩
      · rw [pk_un c]
        exact gb_iw (hF q hq) ⟨by unfold gb_nb; omega, by unfold gb_nb; omega⟩
    rw [bb.2.2.1, bb.2.2.2]
    exact ⟨sm (f 10) d10 i10 (fun x hx => (h x hx).1) (Classical.em _), sm (f 11) d11 i11 (fun x hx => (h x hx).2) (Classical.em _)⟩
theorem mf_foxed {n m : Nat} {R : Nat → Int32} {f : gb_F} {w : Int64} {v1 : Int32} (h : gb_mbx m R f) : gb_hm (ms_foxed n f w v1) (fun f2 w2 _ => f2 = f ∧ w2 = w) := by
  unfold ms_foxed
  have go : ∀ (mm : Nat) (v2 v3 : Int32), gb_hm (ms_foxed_4 n mm f w v1 v2 v3) (fun f2 w2 _ => f2 = f ∧ w2 = w) := by
    intro mm
    induction mm with
    | zero =>
      intros
      exact hm_none
    | succ mm ih =>
      intro v2 v3
      rw [ms_foxed_4]
      refine hm_bd (mx_geese h) (fun f1 w1 r k => ?_)
      obtain ⟨k1, k2, k3⟩ := k
      subst f1
      subst w1
      refine hm_if (fun _ => hm_some ⟨rfl, rfl⟩) (fun _ => hm_ck (fun _ _ => hm_lt (fun _ _ => hm_if (fun _ => hm_lt (fun _ _ => ih _ _)) (fun _ => hm_ck (fun _ _ => hm_lt (fun _ _ => hm_if (fun _ => hm_lt (fun _ _ => ih _ _)) (fun _ => hm_if (fun _ => hm_lt (fun _ _ => ih _ _)) (fun _ => hm_ck (fun _ _ => hm_lt (fun _ _ => hm_ck (fun _ _ => hm_lt (fun _ _ => hm_if (fun _ => hm_lt (fun _ _ => ih _ _)) (fun _ => hm_lt (fun _ _ => ih _ _))))))))))))))
  exact go n (-1) 0
theorem mh_does_tr {n m k : Nat} {R NR : Nat → Int32} {f : gb_F} {x : Int32} {b : Int} (hM : gb_PM m R NR f) (h5 : ∀ g, g < 8 → gb_iv (-1) 60 (f 5 g)) (e : x.toInt = k) (hk : k < gb_nD NR) (hc : gb_can1 R NR f k) (hb : 0 ≤ b) (hb2 : b ≤ 100000) (ht : gb_tr b f) (w : Int64) : gb_hm (ms_does n f w x) (fun f2 _ _ => gb_tr (gb_nb b) f2) := by
  have hR := mbx_rB hM.1
  have hN := hM.2.2
  have hk2 : k < 24 := by
    have := (rN_0 hN).2
    omega
  have hp5 := (rB_nP hR).2
  have hg8 := (rB_nG hR).2
  have z5 : gb_iv (-500) 500 (0 : Int32) := by unfold gb_iv; decide
  have toe8 : ∀ g, g < 8 → gb_iv 0 8 (gb_toe R g) := fun g hg => by
    have t0 := rB_to (i := 0) hR hg (by decide)
    have t1 := rB_to (i := 1) hR hg (by decide)
    rw [Nat.add_zero] at t0
    exact gb_iadd t0 t1 (by decide)
  have mb : ∀ g p, g < 8 → p < 5 → gb_iv (-500) 500 (gb_mk (gb_toe R g) (R (3 + 3 * p)) (f 5 g) (R (18 + 5 * g + 3)) (f 0 22)) := fun g p hg hp => mk_b (toe8 g hg) (rB_mi hR hp) (h5 g hg)
  unfold ms_does
  refine hm_bd (mx_deedOf hM.2.1 e (by omega) (j := 1) (by decide) (by decide)) (fun f1 w1 r1 g1 => ?_)
  obtain ⟨g1, g2, g3⟩ := g1
  subst f1
  subst w1
  subst g3
  refine hm_bd (mx_deedOf hM.2.1 e (by omega) (j := 2) (by decide) (by decide)) (fun f1 w1 r1 g1 => ?_)
  obtain ⟨g1, g2, g3⟩ := g1
  subst f1
  subst w1
  subst g3
  refine hm_bd (mx_deedOf hM.2.1 e (by omega) (j := 0) (by decide) (by decide)) (fun f1 w1 r1 g1 => ?_)
  obtain ⟨g1, g2, g3⟩ := g1
  subst f1
  subst w1
  subst g3
  rw [Nat.add_zero]
  refine hm_if (fun c0 => ?_) (fun c0 => ?_)
  · have cc := (can_0 c0).mp hc
    obtain ⟨a1, a2⟩ := in_G cc.1.1
    obtain ⟨b1, b2⟩ := in_P cc.2
    exact hm_bd (mh_walks hM.1 a1 (by omega) b1 (by omega)) (fun f2 w2 u2 B1 => hm_some (tr_walk hb hb2 B1 (gb_iite (mb _ _ (by omega) (by omega)) z5) (gb_iite z5 (mb _ _ (by omega) (by omega))) ht))
  refine hm_if (fun c1 => ?_) (fun c1 => ?_)
  · have cc := (can_1 c1).mp hc
    obtain ⟨a1, a2⟩ := in_G cc.1.1
    obtain ⟨b1, b2⟩ := in_P cc.2
    exact hm_bd (mh_walks hM.1 a1 (by omega) b1 (by omega)) (fun f2 w2 u2 B1 => hm_some (tr_walk hb hb2 B1 (gb_iite (mb _ _ (by omega) (by omega)) z5) (gb_iite z5 (mb _ _ (by omega) (by omega))) ht))
  refine hm_if (fun c2 => ?_) (fun c2 => ?_)
  · have cc := (can_2 c2).mp hc
    obtain ⟨a1, a2⟩ := in_G cc.1.1
    obtain ⟨b1, b2⟩ := in_P cc.2
    exact hm_bd (mh_walks hM.1 a1 (by omega) b1 (by omega)) (fun f2 w2 u2 B1 => hm_some (tr_walk hb hb2 B1 (gb_iite (mb _ _ (by omega) (by omega)) z5) (gb_iite z5 (mb _ _ (by omega) (by omega))) ht))
  refine hm_if (fun c3 => ?_) (fun c3 => ?_)
  · have cc := (can_3 c3).mp hc
    obtain ⟨a1, a2⟩ := in_G cc.1.1
    obtain ⟨b1, b2⟩ := in_P cc.2.2
    refine hm_bd (mx_deedOf hM.2.1 e (by omega) (j := 3) (by decide) (by decide)) (fun f1 w1 r1 g1 => ?_)
    obtain ⟨g1, g2, g3⟩ := g1
    subst f1
    subst w1
    subst g3
    refine hm_bd (mh_walks hM.1 a1 (by omega) b1 (by omega)) (fun f2 w2 u2 B1 => ?_)
    have T := tr_walk hb hb2 B1 (gb_iite (mb _ _ (by omega) (by omega)) z5) (gb_iite z5 (mb _ _ (by omega) (by omega))) ht
    have mf : gb_mfr f f2 := ⟨B1.2.1, by rw [B1.1], by rw [B1.1], by rw [B1.1], B1.2.2.1⟩
    refine hm_ck (fun _ _ => hm_lt (fun f3 e3 => ?_))
    have mf3 : gb_mfr f f3 := by
      rw [e3]
      exact mfr_t mf (mfr_u (by decide))
    refine hm_bd (mx_deedOf (PM_k hM mf3).2.1 e (by omega) (j := 3) (by decide) (by decide)) (fun f1 w1 r1 g1 => ?_)
    obtain ⟨g1, g2, g3⟩ := g1
    subst f1
    subst w1
    subst g3
    refine hm_ck (fun _ _ => hm_lt (fun f4 e5 => hm_some (fun p hp => ?_)))
    rw [e5, gb_un (by decide), gb_un (by decide), e3, gb_un (by decide), gb_un (by decide)]
    exact T p hp
  refine hm_if (fun c4 => ?_) (fun c4 => ?_)
  · refine hm_ck (fun _ _ => hm_lt (fun f1 d1 => hm_ck (fun _ _ => hm_lt (fun f2 d2 => hm_some (tr_w hb ht ?_ ?_)))))
    · rw [d2, gb_un (by decide), d1, gb_un (by decide)]
    · rw [d2, gb_un (by decide), d1, gb_un (by decide)]
  refine hm_if (fun c5 => ?_) (fun c5 => ?_)
  · have i1 := rN_d (i := 1) hN hk2 (by decide)
    exact hm_bd (mh_rains_tr hb hb2 i1 n f w 0 0 hM (by decide) (by decide) (fun p hp => ⟨fun z => absurd z (by omega), fun _ => ht p hp⟩)) (fun f2 w2 u2 k2 => hm_some k2)
  refine hm_if (fun c6 => ?_) (fun c6 => ?_)
  · refine hm_lt (fun f2 d2 => hm_some (tr_w hb ht ?_ ?_))
    · rw [d2, gb_un (by decide)]
    · rw [d2, gb_un (by decide)]
  refine hm_if (fun c7 => ?_) (fun c7 => ?_)
  · refine hm_lt (fun f2 d2 => hm_some (tr_w hb ht ?_ ?_))
    · rw [d2, gb_un (by decide)]
    · rw [d2, gb_un (by decide)]
  refine hm_bd (mf_foxed hM.1) (fun f1 w1 r1 k1 => ?_)
  obtain ⟨q1, q2⟩ := k1
  subst f1
  subst w1
  refine hm_ck (fun _ _ => hm_lt (fun f2 d2 => hm_some (tr_w hb ht ?_ ?_)))
  · rw [d2, gb_un (by decide)]
  · rw [d2, gb_un (by decide)]
/-! the run -/
def gb_Mb : Nat → Int
  | 0 => 0
  | k + 1 => gb_nb (gb_Mb k)
theorem Mb_0 : ∀ k, 0 ≤ gb_Mb k := by
  intro k
  induction k with
  | zero => exact Int.le_refl _
  | succ k ih =>
    show 0 ≤ gb_nb (gb_Mb k)
    unfold gb_nb
    omega
theorem Mb_s (k : Nat) : gb_Mb k ≤ gb_Mb (k + 1) := by
  show gb_Mb k ≤ gb_nb (gb_Mb k)
  have := Mb_0 k
  unfold gb_nb
  omega
theorem Mb_m : ∀ (d k : Nat), gb_Mb k ≤ gb_Mb (k + d) := by
  intro d
  induction d with
  | zero => exact fun _ => Int.le_refl _
  | succ d ih => exact fun k => Int.le_trans (ih k) (Mb_s (k + d))
theorem Mb_24 : gb_Mb 24 ≤ 100000 := by decide
theorem Mb_le {k : Nat} (h : k ≤ 24) : gb_Mb k ≤ 100000 := by
  have := Mb_m (24 - k) k
  rw [show k + (24 - k) = 24 by omega] at this
  exact Int.le_trans this Mb_24
theorem tr_24 {k : Nat} {f : gb_F} (h : k ≤ 24) (g : gb_tr (gb_Mb k) f) : gb_tr 100000 f := fun p hp => by
  have := Mb_le h
  exact ⟨gb_iw (g p hp).1 ⟨by omega, by omega⟩, gb_iw (g p hp).2 ⟨by omega, by omega⟩⟩
def gb_RU (R NR : Nat → Int32) (t : Prop) (σ s : gb_S) (f f2 : gb_F) : Prop := gb_PR R t s f2 ∧ gb_pfr σ s ∧ gb_mfr f f2 ∧ (f2 0 23).toInt ≤ gb_nD NR ∧ gb_tr 100000 f2
theorem r_run18 {n m k0 k1 : Nat} {R NR : Nat → Int32} {t : Prop} {v1 v4 v5 : Int32} (h5 : v5.toInt = if (NR 0).toInt < v1.toInt then (NR 0).toInt else v1.toInt) (hs : (t ∧ v4 = -1) ∨ (¬ t ∧ ∀ k : Nat, v4.toInt = k → NR (1 + 4 * k) = 0)) : ∀ (mm : Nat) (σ : gb_S) (f : gb_F) (v6 : Int32) (k : Nat), gb_PC k0 k1 R NR σ → gb_PM m R NR f → gb_PR R t σ f → f 0 24 = v4 → v6.toInt = k → f 0 23 = v6 → k ≤ gb_nD NR → gb_tr (gb_Mb k) f → gb_hc (cs_Play_run_B_N_18 n mm σ k1 v4 v5 v6) (fun s _ => ∀ (mm2 : Nat) (w : Int64), gb_hm (ms_runs_4 n mm2 f w v1) (fun f2 _ _ => gb_RU R NR t σ s f f2)) := by
  intro mm
  induction mm with
  | zero =>
    intros
    exact hc_none
  | succ mm ih =>
    intro σ f v6 k h hM hP hv e hd hk ht
    have hN := hM.2.2
    have nE := (rN_0 hN).1
    have nD := (rN_0 hN).2
    have hR := mbx_rB hM.1
    have dee : ∀ w : Int64, gb_hm (ms_deeds n f w) (fun f2 w2 r => f2 = f ∧ w2 = w ∧ r = NR 0) := fun w => by
      unfold ms_deeds
      refine hm_ck (fun _ _ => hm_lt (fun y ey => hm_some ⟨rfl, rfl, ?_⟩))
      rw [ey]
      exact mx_nnight hM.2.1
    rw [cs_Play_run_B_N_18]
    refine hc_kk (fun _ => hc_if (fun c => hc_some ?_) (fun c => ?_))
    · have c' := gi_le c
      intro mm2 w
      cases mm2 with
      | zero => exact hm_none
      | succ mm2 =>
        rw [ms_runs_4, hd]
        refine hm_if (fun _ => hm_some ⟨hP, pfr_r, mfr_r, by rw [hd]; omega, tr_24 (by omega) ht⟩) (fun d => hm_bd (dee w) (fun f1 w1 r g => ?_))
        obtain ⟨g1, g2, g3⟩ := g
        subst f1
        subst w1
        subst g3
        refine hm_if (fun _ => hm_some ⟨hP, pfr_r, mfr_r, by rw [hd]; omega, tr_24 (by omega) ht⟩) (fun d2 => ?_)
        have := gi_nle d
        have := gi_nle d2
        exfalso
        split at h5 <;> omega
    · have c' := gi_nle c
      have hkc : k < gb_nD NR := by
        split at h5 <;> omega
      have d1 : ¬ v1 ≤ v6 := fun z => by
        have := gi_le z
        split at h5 <;> omega
      have d2 : ¬ NR 0 ≤ v6 := fun z => by
        have := gi_le z
        split at h5 <;> omega
      have refr : ∀ (s : gb_S) (D : Prop) (mm2 : Nat) (w : Int64), (∀ w2 : Int64, gb_can1 R NR f k → gb_hm (gb_bd (ms_does n f w2 v6) (fun f_19 wl_20 _ => gb_lt (gb_u f_19 0 (upd (f_19 0) 23 ((f_19 0 23) + 1))) (fun f_24 => ms_runs_4 n mm2 f_24 wl_20 v1))) (fun f2 _ _ => gb_RU R NR t σ s f f2)) → (¬ gb_can1 R NR f k → gb_RU R NR t σ s f f) → gb_hm (ms_runs_4 n (mm2 + 1) f w v1) (fun f2 _ _ => gb_RU R NR t σ s f f2) := by
        intro s D mm2 w H1 H0
        rw [ms_runs_4, hd, if_neg d1]
        refine hm_bd (dee w) (fun f1 w1 r g => ?_)
        obtain ⟨g1, g2, g3⟩ := g
        subst f1
        subst w1
        subst g3
        rw [if_neg d2, hd]
        refine hm_bd (mh_can hM (fun g hg => (hP.2.1 g hg).1) (fun g p hg hp => (hP.2.2.2.1 g p hg hp).2) e (by omega)) (fun f1 w1 r g => ?_)
        obtain ⟨g1, g2, g3⟩ := g
        subst f1
        subst w1
        refine hm_if (fun z => hm_some (H0 (yn_0 g3 z))) (fun z => ?_)
        rw [hd]
        exact H1 w (yn_1 g3 z)
      refine hc_cd (ch_mayBe h hR hN hP e hkc) (fun s r g => ?_)
      obtain ⟨g1, g2⟩ := g
      subst s
      refine hc_if (fun z => hc_some ?_) (fun z => ?_)
      · have no := yn_0 g2 z
        intro mm2 w
        cases mm2 with
        | zero => exact hm_none
        | succ mm2 => exact refr σ True mm2 w (fun _ q => absurd q no) (fun _ => ⟨hP, pfr_r, mfr_r, by rw [hd]; omega, tr_24 (by omega) ht⟩)
      · have yes := yn_1 g2 z
        have step : ∀ p3 : Int32, (p3 = 0 → v6 = f 0 24 ∧ ¬ t ∧ NR (1 + 4 * k) = 0) → (¬ p3 = 0 → v6 ≠ f 0 24) → gb_hc (gb_cd (cs_Play_doDeed_N n σ k1 v6 p3) (fun s_20 _ => gb_lt (gb_su s_20 109 (upd (s_20.1 109) 11 (v6 + 1))) (fun s_24 => gb_lt (v6 + 1) (fun x_25 => cs_Play_run_B_N_18 n mm s_24 k1 v4 v5 x_25)))) (fun s _ => ∀ (mm2 : Nat) (w : Int64), gb_hm (ms_runs_4 n mm2 f w v1) (fun f2 _ _ => gb_RU R NR t σ s f f2)) := by
          intro p3 q0 q1
          refine hc_cd (hc_and (r_does h hM hP e hkc yes q0 q1) (fun s u es => es)) (fun s u g => ?_)
          obtain ⟨G, -⟩ := g
          refine hc_lt (fun s2 e2 => hc_lt (fun x ex => ?_))
          intro s3 u3 e3 mm2 w
          cases mm2 with
          | zero => exact hm_none
          | succ mm2 =>
            refine refr s3 True mm2 w (fun w2 _ => ?_) (fun q => absurd yes q)
            refine hm_bd (hm_and (G w2) (mh_does_tr hM (fun g hg => (hP.2.1 g hg).2) e hkc yes (Mb_0 k) (Mb_le (by omega)) ht w2)) (fun f2 w3 u2 DT => hm_lt (fun f4 e4 => ?_))
            obtain ⟨D, T⟩ := DT
            have e23 : f2 0 23 = v6 := D.2.2.2.trans hd
            rw [e23] at e4
            have P4 : gb_PR R t s2 f4 := by
              rw [e2, e4]
              exact PR_dn D.1
            have fr : gb_pfr σ s2 := by
              rw [e2]
              exact pfr_t D.2.1 (pfr_u (by decide))
            have mf : gb_mfr f f4 := by
              rw [e4]
              exact mfr_t D.2.2.1 (mfr_0 (by decide))
            have := ih s2 f4 x (k + 1) (PC_k h fr) (PM_k hM mf) P4 (by rw [mf.2.2.2.1]; exact hv) (gi_1 e (by omega) ex) (by rw [e4, gb_us, pk_us, ex]) (by omega) (fun p hp => by rw [e4, gb_un (by decide), gb_un (by decide)]; exact T p hp) s3 u3 e3 mm2 w3
            exact hm_mono this (fun f5 w5 u5 E => ⟨E.1, pfr_t fr E.2.1, mfr_t mf E.2.2.1, E.2.2.2⟩)
        refine hc_if (fun q => step 0 (fun _ => ?_) (fun y => absurd rfl y)) (fun q => step 1 (fun y => absurd y (by decide)) (fun _ y => q (by rw [y, hv])))
        rcases hs with hs | hs
        · exfalso
          rw [q, hs.2] at e
          have : ((-1 : Int32)).toInt = -1 := by decide
          omega
        · exact ⟨by rw [hv]; exact q, hs.1, hs.2 k (by rw [← q]; exact e)⟩
/-! A NIGHT THAT WAS RUN, AND WHAT IS ASKED OF IT -/
theorem o_lt {s m : Nat} (hs : s < 4) (hm : m < 2) : gb_o s m + 1 < 109 := by
  unfold gb_o
  omega
theorem raN_of {f : gb_F} {p1 : Int32} (hM : gb_TM f) (h : gb_i0 p1 (f 1 1)) : gb_raN (gb_Rs 1 f p1) := fun j hj => by
  have i := (hl_0 hM.2 (s := 1) (by decide)).2
  have g := hM.2 (gb_pl 1 p1.toInt.toNat + j)
  rw [(gt_1R (s := 1) (k := p1.toInt.toNat) (by decide) (by have := h.1; have := h.2; omega) (show j < gb_sz 1 from hj)).1] at g
  exact g
theorem cy_border {n : Nat} {σ : gb_S} {f : gb_F} {p1 : Int32} (h : gb_R σ f) (hM : gb_TM f) : gb_hc (cs_Face_borderAt n σ p1) (fun s r => s = σ ∧ ((r = 0 ∧ ¬ gb_i0 p1 (f 1 0)) ∨ (r ≠ 0 ∧ gb_i0 p1 (f 1 0) ∧ gb_cbx r (gb_Rs 0 f p1) σ ∧ gb_rB (gb_Rs 0 f p1) ∧ r + 1 < 109))) := by
  refine hc_mono (hc_and (cx_border h hM) ch_borderAt) (fun s r g => ⟨g.1.1, ?_⟩)
  obtain ⟨⟨-, g1⟩, -, g2⟩ := g
  rcases g1 with z | z
  · exact Or.inl z
  · rcases g2 with y | ⟨m, y1, y2, y3, y4⟩
    · exact absurd y.1 z.1
    · exact Or.inr ⟨z.1, z.2.1, z.2.2.1, z.2.2.2, by rw [y3]; exact o_lt (by decide) y2⟩
theorem cy_night {n : Nat} {σ : gb_S} {f : gb_F} {p1 : Int32} (h : gb_R σ f) (hM : gb_TM f) : gb_hc (cs_Face_nightAt n σ p1) (fun s r => s = σ ∧ ((r = 0 ∧ ¬ gb_i0 p1 (f 1 1)) ∨ (r ≠ 0 ∧ gb_i0 p1 (f 1 1) ∧ gb_RS 1 (σ.1 (r + 1)) (gb_Rs 1 f p1) ∧ gb_raN (gb_Rs 1 f p1) ∧ r + 1 < 109))) := by
  refine hc_mono (hc_and (cx_night h hM) ch_nightAt) (fun s r g => ⟨g.1.1, ?_⟩)
  obtain ⟨⟨-, g1⟩, -, g2⟩ := g
  rcases g1 with z | z
  · exact Or.inl z
  · rcases g2 with y | ⟨m, y1, y2, y3, y4⟩
    · exact absurd y.1 z.1
    · exact Or.inr ⟨z.1, z.2.1, z.2.2.1, raN_of hM z.2.1, by rw [y3]; exact o_lt (by decide) y2⟩
def gb_ran (n : Nat) (R NR : Nat → Int32) (v1 sp : Int32) (f2 : gb_F) : Prop := ∃ (m : Nat) (f1 : gb_F) (w w2 : Int64), gb_PM m R NR f1 ∧ gb_TM f1 ∧ f1 0 24 = sp ∧ gb_KM f1 f2 ∧ gb_TM f2 ∧ ms_runs n f1 w v1 = some (f2, w2, ())
theorem ran_PM {n : Nat} {R NR : Nat → Int32} {v1 sp : Int32} {f2 : gb_F} (h : gb_ran n R NR v1 sp f2) : ∃ m, gb_PM m R NR f2 := by
  obtain ⟨m, f1, w, w2, ⟨⟨a1, a2, a3, a4⟩, ⟨m2, b1, b2, b3⟩, h3⟩, -, -, k, -⟩ := h
  obtain ⟨k1, k2, k3, -⟩ := k
  have e11 : (f2 0 11).toInt = gb_pl 0 m := by rw [k2]; exact a3
  have e12 : (f2 0 12).toInt = gb_pl 1 m2 := by rw [k3]; exact b2
  exact ⟨m, ⟨a1, a2, e11, fun j => by rw [k1]; exact a4 j⟩, ⟨m2, b1, e12, fun j => by rw [k1]; exact b3 j⟩, h3⟩
theorem mh_ran {n m : Nat} {R NR : Nat → Int32} {f : gb_F} {w : Int64} {v1 sp : Int32} (hn : gb_N ≤ n) (hM : gb_PM m R NR f) (hT : gb_TM f) (hN : gb_NN f) (hv : f 0 24 = sp) : gb_hm (ms_runs n f w v1) (fun f2 _ _ => gb_ran n R NR v1 sp f2 ∧ gb_KM f f2 ∧ gb_NN f2) := by
  intro f2 w2 u e
  have x := (hm_of (mt_runs hn hT hN)) f2 w2 u e
  exact ⟨⟨m, f, w, w2, hM, hT, hv, x.1.2, x.1.1, e⟩, x.1.2, gb_NNx x.1 hN⟩
theorem r_run {n k0 k1 : Nat} {R NR : Nat → Int32} {t : Prop} {σ : gb_S} {f2 : gb_F} {p3 v1 sp : Int32} (hR : gb_rB R) (k9 : k0 + 1 < 109) (k9' : k1 + 1 < 109) (hb : gb_cbx k0 R σ) (hS : gb_RS 1 (σ.1 (k1 + 1)) NR) (hl : (if NR 0 < p3 then NR 0 else p3).toInt = if (NR 0).toInt < v1.toInt then (NR 0).toInt else v1.toInt) (hs : (t ∧ sp = -1) ∨ (¬ t ∧ ∀ k : Nat, sp.toInt = k → NR (1 + 4 * k) = 0)) (ran : gb_ran n R NR v1 sp f2) : gb_hc (cs_Play_run_B_N n σ k0 k1 p3 sp) (fun s _ => gb_PC k0 k1 R NR s ∧ gb_PR R t s f2 ∧ (f2 0 23).toInt ≤ gb_nD NR ∧ gb_pfr (gb_sq σ 1 k0) s ∧ gb_tr 100000 f2) := by
  obtain ⟨m, f1, w, w2, hM, hT, hv, -, -, em⟩ := ran
  unfold cs_Play_run_B_N
  refine hc_kk (fun _ => hc_kk (fun _ => hc_cd (ch_begin hR k9 hb) (fun s u A => hc_cd ch_sizeN (fun s2 r g => ?_))))
  obtain ⟨g1, g2⟩ := g
  subst s2
  have e0 : s.1 (k1 + 1) 0 = NR 0 := by
    rw [A.2.1 _ k9']
    exact hS.1
  rw [e0] at g2
  subst g2
  refine hc_lt (fun x ex => ?_)
  intro s3 u3 e3
  have PCs : gb_PC k0 k1 R NR s := by
    refine ⟨by rw [A.1]; show (if 1 = 1 then k0 else σ.2.1 1) = k0; exact if_pos rfl, ?_, ?_, k9, k9'⟩
    · unfold gb_cbx
      rw [A.2.1 _ k9]
      exact hb
    · rw [A.2.1 _ k9']
      exact hS
  have key : gb_hm (ms_runs n f1 w v1) (fun f2 _ _ => gb_RU R NR t s s3 f1 f2) := by
    unfold ms_runs
    refine hm_bd (mh_begins hM.1) (fun f3 w3 u4 B => ?_)
    have P0 : gb_PR R t s f3 := PR_0 hR A B
    have T0 : gb_tr (gb_Mb 0) f3 := fun p hp => by
      rw [(B.2.2.1 p hp).1, (B.2.2.1 p hp).2.1]
      unfold gb_iv
      decide
    have := r_run18 (v1 := v1) (v4 := sp) (v5 := x) (m := m) (by rw [ex]; exact hl) hs n s f3 0 0 PCs (PM_k hM B.1) P0 (by rw [B.1.2.2.2.1]; exact hv) (by decide) B.2.2.2.2 (Nat.zero_le _) T0 s3 u3 e3 n w3
    exact hm_mono this (fun f4 w4 u5 E => ⟨E.1, E.2.1, mfr_t B.1 E.2.2.1, E.2.2.2⟩)
  have K := key f2 w2 () em
  exact ⟨PC_k PCs K.2.1, K.1, K.2.2.2.1, pfr_t ⟨A.1, A.2.1⟩ K.2.1, K.2.2.2.2⟩
/-- played to the end -/
theorem r_out {n k0 k1 : Nat} {R NR : Nat → Int32} {σ : gb_S} {f2 : gb_F} (hR : gb_rB R) (hN : gb_raN NR) (k9 : k0 + 1 < 109) (k9' : k1 + 1 < 109) (hb : gb_cbx k0 R σ) (hS : gb_RS 1 (σ.1 (k1 + 1)) NR) (ran : gb_ran n R NR 24 (-1) f2) : gb_hc (cs_Face_playedOut_B_N n σ k0 k1) (fun s r => r = 1 ∧ gb_PC k0 k1 R NR s ∧ gb_PR R True s f2 ∧ gb_pfr (gb_sq σ 1 k0) s ∧ gb_tr 100000 f2) := by
  unfold cs_Face_playedOut_B_N
  refine hc_kk (fun _ => hc_kk (fun _ => hc_cd ch_sizeN (fun s r g => ?_)))
  obtain ⟨g1, g2⟩ := g
  subst s
  have e0 : σ.1 (k1 + 1) 0 = NR 0 := hS.1
  rw [e0] at g2
  subst g2
  have n1 := (rN_0 hN).1
  have n2 := (rN_0 hN).2
  have c24 : (24 : Int32).toInt = 24 := by decide
  refine hc_cd (r_run (t := True) (v1 := 24) hR k9 k9' hb hS ?_ (Or.inl ⟨trivial, rfl⟩) ran) (fun s u K => hc_some ⟨rfl, K.1, K.2.1, K.2.2.2.1, K.2.2.2.2⟩)
  rw [if_neg (fun z => by have := gi_lt z; omega), c24]
  by_cases c : (NR 0).toInt < 24
  · rw [if_pos c]
  · rw [if_neg c]
    omega
/-- both chosen -/
theorem mh_areTold {n : Nat} {f : gb_F} {w : Int64} {p1 p2 : Int32} (hM : gb_TM f) : gb_hm (ms_areTold n f w p1 p2) (fun f2 _ r => (r = 0 ∧ ¬ (gb_i0 p1 (f 1 0) ∧ gb_i0 p2 (f 1 1))) ∨ (r = 1 ∧ (gb_i0 p1 (f 1 0) ∧ gb_i0 p2 (f 1 1)) ∧ f2 0 24 = -1 ∧ gb_TM f2 ∧ gb_NN f2 ∧ f2 1 = f 1 ∧ ∃ m, gb_PM m (gb_Rs 0 f p1) (gb_Rs 1 f p2) f2)) := by
  refine hm_mono (hm_and ?_ (hm_of (mt_areTold hM))) (fun f2 w2 r g => ?_) (P := fun f2 w2 r => (((r = 0 ∧ ¬ (gb_i0 p1 (f 1 0) ∧ gb_i0 p2 (f 1 1))) ∨ (r = 1 ∧ (gb_i0 p1 (f 1 0) ∧ gb_i0 p2 (f 1 1)) ∧ f2 0 24 = -1 ∧ f2 1 = f 1 ∧ ∃ m, gb_PM m (gb_Rs 0 f p1) (gb_Rs 1 f p2) f2))) ∧ (gb_TM f2 ∧ (gb_iv 0 1 r ∧ (¬ r = 0 → gb_NN f2))))
  · unfold ms_areTold
    refine hm_bd (mx_isBorder hM) (fun f1 w1 r g => ?_)
    obtain ⟨-, e1, hM1, g⟩ := g
    refine hm_if (fun c => hm_some (Or.inl ⟨rfl, fun z => (yn_0 g c) z.1⟩)) (fun c => ?_)
    obtain ⟨ia, m, mb⟩ := yn_1 g c
    refine hm_bd (mh_isOf hM1 (s := 1) (by decide) (by decide)) (fun f3 w3 r3 hg => ?_)
    obtain ⟨q1, q2, hg⟩ := hg
    subst f3
    subst w3
    rw [e1] at hg
    refine hm_if (fun c2 => hm_some (Or.inl ⟨rfl, fun z => ?_⟩)) (fun c2 => ?_)
    · rcases hg with y | ⟨m2, y, -⟩
      · exact in_Nk y.2 z.2
      · rw [c2] at y
        exact absurd y (by decide)
    · rcases hg with y | ⟨m2, z1, z2, z3⟩
      · exact absurd y.1 c2
      · refine hm_bd (hm_of (mt_placeOfE (s := 1) (by decide) (by decide) z2.1 (by omega))) (fun g2 u2 r2 hh => hm_lt (fun y ey => hm_lt (fun y2 ey2 => hm_some (Or.inr ⟨rfl, ⟨ia, in_Lk z2⟩, ?_, ?_, m, ?_, ?_, ?_⟩))))
        · rw [ey2, gb_us, pk_us]
        · obtain ⟨q1, q2, q3⟩ := hh
          rw [ey2, gb_un (by decide), ey, gb_un (by decide), q1, e1]
        · obtain ⟨q1, q2, q3⟩ := hh
          obtain ⟨a1, a2, a3, a4⟩ := mb
          refine ⟨a1, a2, ?_, fun j => ?_⟩
          · unfold gb_mb at a3 ⊢
            rw [ey2, gb_us, pk_un (by decide), ey, gb_us, pk_un (by decide), q1]
            exact a3
          · rw [ey2, gb_un (by decide), ey, gb_un (by decide), q1]
            exact a4 j
        · obtain ⟨q1, q2, q3⟩ := hh
          refine ⟨m2, z3, ?_, fun j => ?_⟩
          · unfold gb_mb
            rw [ey2, gb_us, pk_un (by decide), ey, gb_us, pk_us]
            exact q3
          · rw [ey2, gb_un (by decide), ey, gb_un (by decide), q1, e1, Rs_E z2]
        · exact raN_of hM (in_Lk z2)
  · obtain ⟨g1, g2, g3, g4⟩ := g
    rcases g1 with z | ⟨z1, z2, z3, z4, z5⟩
    · exact Or.inl z
    · exact Or.inr ⟨z1, z2, z3, g2, g4 (by rw [z1]; decide), z4, z5⟩
/-! stop -/
def gb_two (f : gb_F) (p1 p2 : Int32) : Prop := gb_i0 p1 (f 1 0) ∧ gb_i0 p2 (f 1 1)
theorem m_stop {n : Nat} {f : gb_F} {w : Int64} {p1 p2 : Int32} (hn : gb_N ≤ n) (hM : gb_TM f) : gb_hm (ms_stop n f w p1 p2) (fun _ _ q => (¬ gb_two f p1 p2 ∧ q = -1) ∨ (gb_two f p1 p2 ∧ ∃ f2, gb_ran n (gb_Rs 0 f p1) (gb_Rs 1 f p2) 24 (-1) f2 ∧ q = f2 0 23)) := by
  unfold ms_stop
  refine hm_bd (mh_areTold hM) (fun f1 w1 r g => hm_if (fun c => hm_some (Or.inl ⟨yn_0 g c, rfl⟩)) (fun c => ?_))
  obtain ⟨a, b1, b2, b3, b4, m, b5⟩ := yn_1 g c
  exact hm_bd (mh_ran hn b5 b2 b3 b1) (fun f2 w2 u k => hm_some (Or.inr ⟨a, f2, k.1, rfl⟩))
theorem c_stop {n : Nat} {σ : gb_S} {f : gb_F} {p1 p2 q : Int32} (h : gb_R σ f) (hM : gb_TM f) (H : (¬ gb_two f p1 p2 ∧ q = -1) ∨ (gb_two f p1 p2 ∧ ∃ f2, gb_ran n (gb_Rs 0 f p1) (gb_Rs 1 f p2) 24 (-1) f2 ∧ q = f2 0 23)) : gb_hc (cs_Face_stop n σ p1 p2) (fun _ r => r = q) := by
  have no : ¬ gb_two f p1 p2 → (-1 : Int32) = q := fun z => by
    rcases H with y | y
    · exact y.2.symm
    · exact absurd y.1 z
  unfold cs_Face_stop
  refine hc_cd (cy_border h hM) (fun s r g => ?_)
  obtain ⟨g0, g⟩ := g
  subst s
  refine hc_if (fun c => ?_) (fun c => ?_)
  · have nb : ¬ gb_two f p1 p2 := fun z => by
      rcases g with y | y
      · exact y.2 z.1
      · exact y.1 c
    refine hc_cd (cy_night h hM) (fun s r2 g2 => ?_)
    obtain ⟨g0, g2⟩ := g2
    subst s
    refine hc_if (fun c2 => ?_) (fun c2 => hc_kk (fun _ => ?_))
    · unfold cs_Face_playedOut_n_n
      exact hc_cd (hc_some (Q := fun _ r => r = (0 : Int32)) rfl) (fun s r e => hc_if (fun _ => hc_some (no nb)) (fun c => absurd e c))
    · unfold cs_Face_playedOut_n_N
      exact hc_cd (hc_kk (fun _ => hc_some (Q := fun _ r => r = (0 : Int32)) rfl)) (fun s r e => hc_if (fun _ => hc_some (no nb)) (fun c => absurd e c))
  · rcases g with y | ⟨y1, y2, y3, y4, y5⟩
    · exact absurd y.1 c
    refine hc_kk (fun _ => hc_cd (cy_night h hM) (fun s r2 g2 => ?_))
    obtain ⟨g0, g2⟩ := g2
    subst s
    refine hc_if (fun c2 => ?_) (fun c2 => hc_kk (fun _ => ?_))
    · have nb : ¬ gb_two f p1 p2 := fun z => by
        rcases g2 with y | y
        · exact y.2 z.2
        · exact y.1 c2
      unfold cs_Face_playedOut_B_n
      exact hc_cd (hc_kk (fun _ => hc_some (Q := fun _ r => r = (0 : Int32)) rfl)) (fun s r e => hc_if (fun _ => hc_some (no nb)) (fun c => absurd e c))
    · rcases g2 with z | ⟨z1, z2, z3, z4, z5⟩
      · exact absurd z.1 c2
      rcases H with y | ⟨-, f2, ran, eq⟩
      · exact absurd ⟨y2, z2⟩ y.1
      refine hc_cd (r_out y4 z4 y5 z5 y3 z3 ran) (fun s r K => ?_)
      refine hc_if (fun c3 => absurd c3 (by rw [K.1]; decide)) (fun _ => hc_some ?_)
      rw [eq]
      exact K.2.2.1.2.2.2.2.1.2
theorem e_stop {σ σ2 : gb_S} {f f2 : gb_F} {w w2 : Int64} {p1 p2 ra qa : Int32} (_ : gb_TC σ) (hM : gb_TM f) (h : gb_R σ f) (ec : cs_Face_stop gb_N σ p1 p2 = some (σ2, ra)) (em : ms_stop gb_N f w p1 p2 = some (f2, w2, qa)) : ra = qa := c_stop h hM (m_stop (Nat.le_refl _) hM _ _ _ em) _ _ ec
/-! WHAT A PLAYED NIGHT TELLS -/
theorem min_E {a b : Int32} : (if a < b then a else b).toInt = if a.toInt < b.toInt then a.toInt else b.toInt := by
  by_cases c : a < b
  · rw [if_pos c, if_pos (gi_lt c)]
  · rw [if_neg c, if_neg (by have := gi_nlt c; omega)]
theorem r_to0 {n k0 k1 : Nat} {R NR : Nat → Int32} {σ : gb_S} {p3 : Int32} (hR : gb_rB R) (k9 : k0 + 1 < 109) (k9' : k1 + 1 < 109) (hb : gb_cbx k0 R σ) (hS : gb_RS 1 (σ.1 (k1 + 1)) NR) (H : p3.toInt < 0 ∨ ∃ f3, gb_ran n R NR p3 (-1) f3 ∧ f3 0 23 ≠ p3) : gb_hc (cs_Face_playedTo_B_N n σ k0 k1 p3) (fun _ r => r = 0) := by
  unfold cs_Face_playedTo_B_N
  refine hc_kk (fun _ => hc_kk (fun _ => hc_if (fun c => hc_some rfl) (fun c => hc_cd ch_sizeN (fun s r g => ?_))))
  obtain ⟨g1, g2⟩ := g
  subst s
  have e0 : σ.1 (k1 + 1) 0 = NR 0 := hS.1
  rw [e0] at g2
  subst g2
  have c' := gi_nlt c
  have z0 : (0 : Int32).toInt = 0 := by decide
  rcases H with H | ⟨f3, ran, ne⟩
  · exact absurd H (by omega)
  · refine hc_if (fun d => hc_cd (r_run (t := True) (v1 := p3) hR k9 k9' hb hS min_E (Or.inl ⟨trivial, rfl⟩) ran) (fun s u K => hc_if (fun q => ?_) (fun _ => hc_some rfl))) (fun _ => hc_some rfl)
    exact absurd (K.2.1.2.2.2.2.1.2.symm.trans q) ne
theorem r_to1 {n k0 k1 : Nat} {R NR : Nat → Int32} {σ : gb_S} {p3 : Int32} {f2 : gb_F} (hn : gb_N ≤ n) (hT : gb_TC σ) (hR : gb_rB R) (hN : gb_raN NR) (k9 : k0 + 1 < 109) (k9' : k1 + 1 < 109) (hb : gb_cbx k0 R σ) (hS : gb_RS 1 (σ.1 (k1 + 1)) NR) (h0 : 0 ≤ p3.toInt) (ran : gb_ran n R NR p3 (-1) f2) (e : f2 0 23 = p3) : gb_hc (cs_Face_playedTo_B_N n σ k0 k1 p3) (fun s r => r = 1 ∧ gb_PC k0 k1 R NR s ∧ gb_PR R True s f2 ∧ gb_pfr (gb_sq σ 1 k0) s ∧ gb_tr 100000 f2) := by
  unfold cs_Face_playedTo_B_N
  refine hc_kk (fun kb => hc_kk (fun kn => hc_if (fun c => ?_) (fun c => hc_cd ch_sizeN (fun s r g => ?_))))
  · have z0 : (0 : Int32).toInt = 0 := by decide
    have := gi_lt c
    omega
  obtain ⟨g1, g2⟩ := g
  subst s
  have e0 : σ.1 (k1 + 1) 0 = NR 0 := hS.1
  rw [e0] at g2
  subst g2
  have rr : gb_hc (cs_Play_run_B_N n σ k0 k1 p3 (-1)) _ := r_run (t := True) (v1 := p3) hR k9 k9' hb hS min_E (Or.inl ⟨trivial, rfl⟩) ran
  refine hc_if (fun d => hc_cd rr (fun s u K => hc_if (fun q => hc_some ⟨rfl, K.1, K.2.1, K.2.2.2.1, K.2.2.2.2⟩) (fun q => ?_))) (fun d => ?_)
  · exact absurd (K.2.1.2.2.2.2.1.2.trans e) q
  · obtain ⟨s, u, es, -⟩ := ct_Play_run_B_N (p3 := p3) (p4 := -1) hn hT kb kn
    have K := rr s u es
    have k3 := K.2.2.1
    have d' := gi_nle d
    have n1 := (rN_0 hN).1
    rw [e] at k3
    omega
def gb_noS (n : Nat) (f : gb_F) (p1 p2 p3 : Int32) : Prop := ¬ gb_two f p1 p2 ∨ p3.toInt < 0 ∨ ∃ f3, gb_ran n (gb_Rs 0 f p1) (gb_Rs 1 f p2) p3 (-1) f3 ∧ f3 0 23 ≠ p3
def gb_yS (n : Nat) (f : gb_F) (p1 p2 p3 : Int32) (f2 : gb_F) : Prop := gb_two f p1 p2 ∧ 0 ≤ p3.toInt ∧ gb_ran n (gb_Rs 0 f p1) (gb_Rs 1 f p2) p3 (-1) f2 ∧ f2 0 23 = p3
theorem mh_isState {n : Nat} {f : gb_F} {w : Int64} {p1 p2 p3 : Int32} (hn : gb_N ≤ n) (hM : gb_TM f) : gb_hm (ms_isState n f w p1 p2 p3) (fun f2 _ r => (r = 0 ∧ gb_noS n f p1 p2 p3) ∨ (r = 1 ∧ gb_yS n f p1 p2 p3 f2)) := by
  unfold ms_isState
  have z0 : (0 : Int32).toInt = 0 := by decide
  refine hm_bd (mh_areTold hM) (fun f1 w1 r g => hm_if (fun c => hm_some (Or.inl ⟨rfl, Or.inl (yn_0 g c)⟩)) (fun c => ?_))
  obtain ⟨a, b1, b2, b3, b4, m, b5⟩ := yn_1 g c
  refine hm_if (fun d => hm_bd (mh_ran hn b5 b2 b3 b1) (fun f2 w2 u k => hm_if (fun q => hm_some (Or.inr ⟨rfl, a, ?_, k.1, q⟩)) (fun q => hm_some (Or.inl ⟨rfl, Or.inr (Or.inr ⟨f2, k.1, q⟩)⟩)))) (fun d => hm_some (Or.inl ⟨rfl, Or.inr (Or.inl ?_)⟩))
  · have := gi_le d
    omega
  · have := gi_nle d
    omega
/-- the class, when a state is asked for -/
theorem c_to {n k0 : Nat} {σ : gb_S} {f : gb_F} {p1 p2 p3 q : Int32} {V : gb_F → Int32} {k : gb_S → gb_CR Int32} {k2 : gb_S → gb_CR Int32} (hn : gb_N ≤ n) (hT : gb_TC σ) (h : gb_R σ f) (hM : gb_TM f) (i1 : gb_i0 p1 (f 1 0)) (hb : gb_cbx k0 (gb_Rs 0 f p1) σ) (hR : gb_rB (gb_Rs 0 f p1)) (k9 : k0 + 1 < 109) (H : (gb_noS n f p1 p2 p3 ∧ q = -2) ∨ ∃ f2, gb_yS n f p1 p2 p3 f2 ∧ q = V f2) (K : ∀ (s : gb_S) (k1 : Nat) (f2 : gb_F), gb_PC k0 k1 (gb_Rs 0 f p1) (gb_Rs 1 f p2) s → gb_PR (gb_Rs 0 f p1) True s f2 → gb_tr 100000 f2 → gb_hc (k s) (fun _ r => r = V f2)) : gb_hc (gb_cd (cs_Face_nightAt n σ p2) (fun s_12 r_13 => (if r_13 = 0 then gb_cd (cs_Face_playedTo_B_n n s_12 k0 p3) (fun s_17 r_18 => (if r_18 = 0 then some (s_17, (-2)) else k2 s_17)) else gb_kk (gb_kN r_13) (gb_cd (cs_Face_playedTo_B_N n s_12 k0 r_13 p3) (fun s_35 r_36 => (if r_36 = 0 then some (s_35, (-2)) else k s_35)))))) (fun _ r => r = q) := by
  refine hc_cd (cy_night h hM) (fun s r2 g2 => ?_)
  obtain ⟨g0, g2⟩ := g2
  subst s
  refine hc_if (fun c2 => ?_) (fun c2 => hc_kk (fun _ => ?_))
  · have nb : ¬ gb_two f p1 p2 := fun z => by
      rcases g2 with y | y
      · exact y.2 z.2
      · exact y.1 c2
    have eq : (-2 : Int32) = q := by
      rcases H with y | ⟨f2, y, -⟩
      · exact y.2.symm
      · exact absurd y.1 nb
    unfold cs_Face_playedTo_B_n
    exact hc_cd (hc_kk (fun _ => hc_some (Q := fun _ r => r = (0 : Int32)) rfl)) (fun s r e => hc_if (fun _ => hc_some eq) (fun c => absurd e c))
  · rcases g2 with z | ⟨z1, z2, z3, z4, z5⟩
    · exact absurd z.1 c2
    rcases H with ⟨y1, y2⟩ | ⟨f2, y, y2⟩
    · have H' : p3.toInt < 0 ∨ ∃ f3, gb_ran n (gb_Rs 0 f p1) (gb_Rs 1 f p2) p3 (-1) f3 ∧ f3 0 23 ≠ p3 := by
        rcases y1 with y1 | y1
        · exact absurd ⟨i1, z2⟩ y1
        · exact y1
      exact hc_cd (r_to0 hR k9 z5 hb z3 H') (fun s r e => hc_if (fun _ => hc_some y2.symm) (fun c => absurd e c))
    · obtain ⟨ya, yb, yc, yd⟩ := y
      refine hc_cd (r_to1 hn hT hR z4 k9 z5 hb z3 yb yc yd) (fun s r e => hc_if (fun c => absurd c (by rw [e.1]; decide)) (fun _ => ?_))
      rw [y2]
      exact K s r2 f2 e.2.1 e.2.2.1 e.2.2.2.2
/-! goose -/
def gb_qgo (R : Nat → Int32) (f2 : gb_F) (p4 p5 : Int32) : Int32 := if gb_i0 p4 (R 1) then (if p5 = 0 then f2 4 p4.toInt.toNat else if p5 = 1 then f2 5 p4.toInt.toNat else if p5 = 2 then f2 6 p4.toInt.toNat else if p5 = 3 then f2 7 p4.toInt.toNat else -2) else -2
theorem m_goose {n : Nat} {f : gb_F} {w : Int64} {p1 p2 p3 p4 p5 : Int32} (hn : gb_N ≤ n) (hM : gb_TM f) : gb_hm (ms_goose n f w p1 p2 p3 p4 p5) (fun _ _ q => (gb_noS n f p1 p2 p3 ∧ q = -2) ∨ ∃ f2, gb_yS n f p1 p2 p3 f2 ∧ q = gb_qgo (gb_Rs 0 f p1) f2 p4 p5) := by
  unfold ms_goose
  refine hm_bd (mh_isState hn hM) (fun f1 w1 r g => hm_if (fun c => hm_some (Or.inl ⟨yn_0 g c, rfl⟩)) (fun c => ?_))
  have y := yn_1 g c
  obtain ⟨m, pm⟩ := ran_PM y.2.2.1
  refine hm_bd (mbx_hasG pm.1) (fun f2 w2 r2 g2 => ?_)
  obtain ⟨q1, q2, g2⟩ := g2
  subst f2
  subst w2
  refine hm_if (fun d => hm_some (Or.inr ⟨f1, y, ?_⟩)) (fun d => ?_)
  · unfold gb_qgo
    rw [if_neg (yn_0 g2 d)]
  · obtain ⟨d1, d2, d3⟩ := yn_1 g2 d
    rw [gi_tn d2]
    refine hm_if (fun x0 => hm_ck (fun _ _ => hm_lt (fun v ev => hm_some (Or.inr ⟨f1, y, ?_⟩)))) (fun x0 => hm_if (fun x1 => hm_ck (fun _ _ => hm_lt (fun v ev => hm_some (Or.inr ⟨f1, y, ?_⟩)))) (fun x1 => hm_if (fun x2 => hm_ck (fun _ _ => hm_lt (fun v ev => hm_some (Or.inr ⟨f1, y, ?_⟩)))) (fun x2 => hm_if (fun x3 => hm_ck (fun _ _ => hm_lt (fun v ev => hm_some (Or.inr ⟨f1, y, ?_⟩)))) (fun x3 => hm_some (Or.inr ⟨f1, y, ?_⟩)))))
    · unfold gb_qgo
      rw [if_pos d1, if_pos x0, ev]
    · unfold gb_qgo
      rw [if_pos d1, if_neg x0, if_pos x1, ev]
    · unfold gb_qgo
      rw [if_pos d1, if_neg x0, if_neg x1, if_pos x2, ev]
    · unfold gb_qgo
      rw [if_pos d1, if_neg x0, if_neg x1, if_neg x2, if_pos x3, ev]
    · unfold gb_qgo
      rw [if_pos d1, if_neg x0, if_neg x1, if_neg x2, if_neg x3]
theorem no_2 {n : Nat} {f : gb_F} {p1 p2 p3 q : Int32} {V : gb_F → Int32} (H : (gb_noS n f p1 p2 p3 ∧ q = -2) ∨ ∃ f2, gb_yS n f p1 p2 p3 f2 ∧ q = V f2) (nb : ¬ gb_i0 p1 (f 1 0)) : (-2 : Int32) = q := by
  rcases H with y | ⟨f2, y, -⟩
  · exact y.2.symm
  · exact absurd y.1.1 nb
theorem no_3 {n : Nat} {f : gb_F} {p1 p2 p3 q : Int32} {V : gb_F → Int32} (H : (gb_noS n f p1 p2 p3 ∧ q = -2) ∨ ∃ f2, gb_yS n f p1 p2 p3 f2 ∧ q = V f2) (hv : ∀ f2, V f2 = -2) : (-2 : Int32) = q := by
  rcases H with y | ⟨f2, -, y⟩
  · exact y.2.symm
  · rw [y, hv]
theorem c_goose {n : Nat} {σ : gb_S} {f : gb_F} {p1 p2 p3 p4 p5 q : Int32} (hn : gb_N ≤ n) (hT : gb_TC σ) (h : gb_R σ f) (hM : gb_TM f) (H : (gb_noS n f p1 p2 p3 ∧ q = -2) ∨ ∃ f2, gb_yS n f p1 p2 p3 f2 ∧ q = gb_qgo (gb_Rs 0 f p1) f2 p4 p5) : gb_hc (cs_Face_goose n σ p1 p2 p3 p4 p5) (fun _ r => r = q) := by
  unfold cs_Face_goose
  refine hc_cd (cy_border h hM) (fun s r g => ?_)
  obtain ⟨g0, g⟩ := g
  subst s
  refine hc_if (fun c => hc_some (no_2 H (fun z => ?_))) (fun c => ?_)
  · rcases g with y | y
    · exact y.2 z
    · exact y.1 c
  · rcases g with y | ⟨y1, y2, y3, y4, y5⟩
    · exact absurd y.1 c
    refine hc_kk (fun _ => hc_cd (cbx_hasG y3) (fun s r2 g2 => ?_))
    obtain ⟨g0, g2⟩ := g2
    subst s
    refine hc_if (fun d => hc_some (no_3 H (fun f2 => ?_))) (fun d => ?_)
    · unfold gb_qgo
      rw [if_neg (yn_0 g2 d)]
    · obtain ⟨d1, d2, d3⟩ := yn_1 g2 d
      have h8 := (rB_nG y4).2
      refine c_to hn hT h hM y2 y3 y4 y5 H (fun s k1 f2 PC PR TR => ?_)
      rw [gi_tn d2]
      have c1 := PR.1 p4.toInt.toNat (by omega)
      refine hc_if (fun x0 => hc_ck (fun _ _ => hc_lt (fun v ev => hc_some ?_))) (fun x0 => hc_if (fun x1 => hc_ck (fun _ _ => hc_lt (fun v ev => hc_some ?_))) (fun x1 => hc_if (fun x2 => hc_ck (fun _ _ => hc_lt (fun v ev => hc_some ?_))) (fun x2 => hc_if (fun x3 => hc_ck (fun _ _ => hc_lt (fun v ev => hc_some ?_))) (fun x3 => hc_some ?_))))
      · unfold gb_qgo
        rw [if_pos d1, if_pos x0, ev, c1.1]
      · unfold gb_qgo
        rw [if_pos d1, if_neg x0, if_pos x1, ev, c1.2.1]
      · unfold gb_qgo
        rw [if_pos d1, if_neg x0, if_neg x1, if_pos x2, ev, c1.2.2.1 trivial]
      · unfold gb_qgo
        rw [if_pos d1, if_neg x0, if_neg x1, if_neg x2, if_pos x3, ev, c1.2.2.2]
      · unfold gb_qgo
        rw [if_pos d1, if_neg x0, if_neg x1, if_neg x2, if_neg x3]
theorem e_goose {σ σ2 : gb_S} {f f2 : gb_F} {w w2 : Int64} {p1 p2 p3 p4 p5 ra qa : Int32} (hT : gb_TC σ) (hM : gb_TM f) (h : gb_R σ f) (ec : cs_Face_goose gb_N σ p1 p2 p3 p4 p5 = some (σ2, ra)) (em : ms_goose gb_N f w p1 p2 p3 p4 p5 = some (f2, w2, qa)) : ra = qa := c_goose (Nat.le_refl _) hT h hM (m_goose (Nat.le_refl _) hM _ _ _ em) _ _ ec
/-! tallies -/
def gb_tal (f : gb_F) (p : Nat) : Int32 := if f 10 p ≤ f 11 p then 0 else f 10 p - f 11 p
theorem ch_tally {n p : Nat} {σ : gb_S} {f : gb_F} {R : Nat → Int32} {t : Prop} {x : Int32} (hP : gb_PR R t σ f) (hT : gb_tr 100000 f) (e : x.toInt = p) (hp : p < 5) : gb_hc (cs_Play_tally n σ x) (fun s r => s = σ ∧ r = gb_tal f p) := by
  unfold cs_Play_tally
  rw [gi_tn e]
  refine hc_ck (fun _ _ => hc_lt (fun a ea => hc_ck (fun _ _ => hc_lt (fun b eb => hc_lt (fun c ec => hc_some ⟨rfl, ?_⟩)))))
  rw [(hP.2.2.1 p hp).1] at ea
  rw [(hP.2.2.1 p hp).2.1] at eb
  subst ea
  subst eb
  rw [ec]
  unfold gb_tal
  have h1 := (hT p hp).1
  have h2 := (hT p hp).2
  have a1 := h1.1
  have a2 := h1.2
  have b1 := h2.1
  have b2 := h2.2
  have e0 : (f 10 p - f 11 p).toInt = (f 10 p).toInt - (f 11 p).toInt := gb_tsub (by omega) (by omega)
  have z : (0 : Int32).toInt = 0 := by decide
  by_cases q : f 10 p ≤ f 11 p
  · have q' := gi_le q
    rw [if_pos q, if_neg (fun y => by have := gi_lt y; omega)]
  · have q' := gi_nle q
    rw [if_neg q, if_pos (Int32.lt_iff_toInt_lt.mpr (by omega))]
theorem mh_tally {n p : Nat} {f : gb_F} {w : Int64} {x : Int32} (e : x.toInt = p) : gb_hm (ms_tally n f w x) (fun f2 w2 r => f2 = f ∧ w2 = w ∧ r = gb_tal f p) := by
  unfold ms_tally
  rw [gi_tn e]
  refine hm_ck (fun _ _ => hm_lt (fun a ea => hm_ck (fun _ _ => hm_lt (fun b eb => ?_))))
  subst ea
  subst eb
  refine hm_if (fun q => hm_some ⟨rfl, rfl, ?_⟩) (fun q => hm_ck (fun _ _ => hm_lt (fun c ec => hm_ck (fun _ _ => hm_lt (fun d ed => hm_some ⟨rfl, rfl, ?_⟩)))))
  · unfold gb_tal
    rw [if_pos q]
  · unfold gb_tal
    rw [if_neg q, ec, ed]
theorem mh_pay {n m p : Nat} {R : Nat → Int32} {f : gb_F} {w : Int64} {x : Int32} (h : gb_mbx m R f) (e : x.toInt = p) (hp : p ≤ 100) : gb_hm (ms_pay n f w x) (fun f2 w2 r => f2 = f ∧ w2 = w ∧ r = gb_py R p (gb_tal f p)) := by
  unfold ms_pay
  refine hm_bd (mx_ofPath h e hp (j := 1) (by decide) (by decide)) (fun f1 w1 r g => ?_)
  obtain ⟨q1, q2, q3⟩ := g
  subst f1
  subst w1
  refine hm_bd (mh_tally e) (fun f1 w1 r2 g => ?_)
  obtain ⟨q1, q2, q4⟩ := g
  subst f1
  subst w1
  refine hm_bd (mx_padded h e hp) (fun f1 w1 r3 g => hm_some ⟨g.1, g.2.1, ?_⟩)
  rw [g.2.2, q3, q4]
  rfl
/-! path -/
def gb_qpa (R : Nat → Int32) (f2 : gb_F) (p4 p5 : Int32) : Int32 := if gb_i0 p4 (R 0) then (if p5 = 0 then f2 10 p4.toInt.toNat else if p5 = 1 then f2 11 p4.toInt.toNat else if p5 = 2 then gb_tal f2 p4.toInt.toNat else if p5 = 3 then gb_pd R p4.toInt.toNat (gb_tal f2 p4.toInt.toNat) else if p5 = 4 then gb_py R p4.toInt.toNat (gb_tal f2 p4.toInt.toNat) else if p5 = 5 then f2 12 p4.toInt.toNat else -2) else -2
theorem m_path {n : Nat} {f : gb_F} {w : Int64} {p1 p2 p3 p4 p5 : Int32} (hn : gb_N ≤ n) (hM : gb_TM f) : gb_hm (ms_path n f w p1 p2 p3 p4 p5) (fun _ _ q => (gb_noS n f p1 p2 p3 ∧ q = -2) ∨ ∃ f2, gb_yS n f p1 p2 p3 f2 ∧ q = gb_qpa (gb_Rs 0 f p1) f2 p4 p5) := by
  unfold ms_path
  refine hm_bd (mh_isState hn hM) (fun f1 w1 r g => hm_if (fun c => hm_some (Or.inl ⟨yn_0 g c, rfl⟩)) (fun c => ?_))
  have y := yn_1 g c
  obtain ⟨m, pm⟩ := ran_PM y.2.2.1
  have h5 := (rB_nP (mbx_rB pm.1)).2
  refine hm_bd (mbx_has pm.1) (fun f2 w2 r2 g2 => ?_)
  obtain ⟨q1, q2, g2⟩ := g2
  subst f2
  subst w2
  refine hm_if (fun d => hm_some (Or.inr ⟨f1, y, ?_⟩)) (fun d => ?_)
  · unfold gb_qpa
    rw [if_neg (yn_0 g2 d)]
  · obtain ⟨d1, d2, d3⟩ := yn_1 g2 d
    rw [gi_tn d2]
    refine hm_if (fun x0 => hm_ck (fun _ _ => hm_lt (fun v ev => hm_some (Or.inr ⟨f1, y, ?_⟩)))) (fun x0 => hm_if (fun x1 => hm_ck (fun _ _ => hm_lt (fun v ev => hm_some (Or.inr ⟨f1, y, ?_⟩)))) (fun x1 => hm_if (fun x2 => hm_bd (mh_tally d2) (fun f2 w2 v ev => hm_some (Or.inr ⟨f1, y, ?_⟩))) (fun x2 => hm_if (fun x3 => hm_bd (mh_tally d2) (fun f2 w2 v ev => ?_)) (fun x3 => hm_if (fun x4 => hm_bd (mh_pay pm.1 d2 (by omega)) (fun f2 w2 v ev => hm_some (Or.inr ⟨f1, y, ?_⟩))) (fun x4 => hm_if (fun x5 => hm_ck (fun _ _ => hm_lt (fun v ev => hm_some (Or.inr ⟨f1, y, ?_⟩)))) (fun x5 => hm_some (Or.inr ⟨f1, y, ?_⟩)))))))
    · unfold gb_qpa
      rw [if_pos d1, if_pos x0, ev]
    · unfold gb_qpa
      rw [if_pos d1, if_neg x0, if_pos x1, ev]
    · unfold gb_qpa
      rw [if_pos d1, if_neg x0, if_neg x1, if_pos x2, ev.2.2]
    · obtain ⟨z1, z2, z3⟩ := ev
      subst f2
      subst w2
      refine hm_bd (mx_padded pm.1 d2 (by omega)) (fun f2 w2 u eu => hm_some (Or.inr ⟨f1, y, ?_⟩))
      unfold gb_qpa
      rw [if_pos d1, if_neg x0, if_neg x1, if_neg x2, if_pos x3, eu.2.2, z3]
    · unfold gb_qpa
      rw [if_pos d1, if_neg x0, if_neg x1, if_neg x2, if_neg x3, if_pos x4, ev.2.2]
    · unfold gb_qpa
      rw [if_pos d1, if_neg x0, if_neg x1, if_neg x2, if_neg x3, if_neg x4, if_pos x5, ev]
    · unfold gb_qpa
      rw [if_pos d1, if_neg x0, if_neg x1, if_neg x2, if_neg x3, if_neg x4, if_neg x5]
theorem c_path {n : Nat} {σ : gb_S} {f : gb_F} {p1 p2 p3 p4 p5 q : Int32} (hn : gb_N ≤ n) (hT : gb_TC σ) (h : gb_R σ f) (hM : gb_TM f) (H : (gb_noS n f p1 p2 p3 ∧ q = -2) ∨ ∃ f2, gb_yS n f p1 p2 p3 f2 ∧ q = gb_qpa (gb_Rs 0 f p1) f2 p4 p5) : gb_hc (cs_Face_path n σ p1 p2 p3 p4 p5) (fun _ r => r = q) := by
  unfold cs_Face_path
  refine hc_cd (cy_border h hM) (fun s r g => ?_)
  obtain ⟨g0, g⟩ := g
  subst s
  refine hc_if (fun c => hc_some (no_2 H (fun z => ?_))) (fun c => ?_)
  · rcases g with y | y
    · exact y.2 z
    · exact y.1 c
  · rcases g with y | ⟨y1, y2, y3, y4, y5⟩
    · exact absurd y.1 c
    refine hc_kk (fun _ => hc_cd (cbx_has y3) (fun s r2 g2 => ?_))
    obtain ⟨g0, g2⟩ := g2
    subst s
    refine hc_if (fun d => hc_some (no_3 H (fun f2 => ?_))) (fun d => ?_)
    · unfold gb_qpa
      rw [if_neg (yn_0 g2 d)]
    · obtain ⟨d1, d2, d3⟩ := yn_1 g2 d
      have h5 := (rB_nP y4).2
      refine c_to hn hT h hM y2 y3 y4 y5 H (fun s k1 f2 PC PR TR => ?_)
      rw [gi_tn d2]
      have c1 := PR.2.2.1 p4.toInt.toNat (by omega)
      refine hc_if (fun x0 => hc_ck (fun _ _ => hc_lt (fun v ev => hc_some ?_))) (fun x0 => hc_if (fun x1 => hc_ck (fun _ _ => hc_lt (fun v ev => hc_some ?_))) (fun x1 => hc_if (fun x2 => hc_cd (ch_tally PR TR d2 (by omega)) (fun s2 v ev => hc_some ?_)) (fun x2 => hc_if (fun x3 => hc_cd (ch_tally PR TR d2 (by omega)) (fun s2 v ev => ?_)) (fun x3 => hc_if (fun x4 => hc_cd (ch_tally PR TR d2 (by omega)) (fun s2 v ev => ?_)) (fun x4 => hc_if (fun x5 => hc_ck (fun _ _ => hc_lt (fun v ev => hc_some ?_))) (fun x5 => hc_some ?_))))))
      · unfold gb_qpa
        rw [if_pos d1, if_pos x0, ev, c1.1]
      · unfold gb_qpa
        rw [if_pos d1, if_neg x0, if_pos x1, ev, c1.2.1]
      · unfold gb_qpa
        rw [if_pos d1, if_neg x0, if_neg x1, if_pos x2, ev.2]
      · obtain ⟨z1, z2⟩ := ev
        subst s2
        refine hc_cd (ch_padded PC.2.1 y4 d2 d3) (fun s3 u eu => hc_some ?_)
        unfold gb_qpa
        rw [if_pos d1, if_neg x0, if_neg x1, if_neg x2, if_pos x3, eu.2, z2]
      · obtain ⟨z1, z2⟩ := ev
        subst s2
        refine hc_cd (ch_payOf PC.2.1 y4 d2 d3) (fun s3 u eu => hc_some ?_)
        unfold gb_qpa
        rw [if_pos d1, if_neg x0, if_neg x1, if_neg x2, if_neg x3, if_pos x4, eu.2, z2]
      · unfold gb_qpa
        rw [if_pos d1, if_neg x0, if_neg x1, if_neg x2, if_neg x3, if_neg x4, if_pos x5, ev, c1.2.2]
      · unfold gb_qpa
        rw [if_pos d1, if_neg x0, if_neg x1, if_neg x2, if_neg x3, if_neg x4, if_neg x5]
theorem e_path {σ σ2 : gb_S} {f f2 : gb_F} {w w2 : Int64} {p1 p2 p3 p4 p5 ra qa : Int32} (hT : gb_TC σ) (hM : gb_TM f) (h : gb_R σ f) (ec : cs_Face_path gb_N σ p1 p2 p3 p4 p5 = some (σ2, ra)) (em : ms_path gb_N f w p1 p2 p3 p4 p5 = some (f2, w2, qa)) : ra = qa := c_path (Nat.le_refl _) hT h hM (m_path (Nat.le_refl _) hM _ _ _ em) _ _ ec
/-! BITS -/
theorem and_1 (y : Int32) : (y &&& 1 = 1) ↔ y.toBitVec.getLsbD 0 = true := by
  have h : (y &&& 1).toBitVec = (BitVec.ofBool (y.toBitVec.getLsbD 0)).setWidth 32 := by
    rw [Int32.toBitVec_and]
    exact BitVec.and_one_eq_setWidth_ofBool_getLsbD
  cases hb : y.toBitVec.getLsbD 0
  · refine ⟨fun e => ?_, fun e => absurd e (by decide)⟩
    rw [e, hb] at h
    exact absurd h (by decide)
  · refine ⟨fun _ => rfl, fun _ => Int32.toBitVec_inj.mp ?_⟩
    rw [h, hb]
    rfl
theorem sh_n : ∀ g : Fin 8, ((((Int32.ofNat g.val) &&& 31)).toBitVec.smod 32).toNat = g.val := by decide
theorem tb_bit {x v : Int32} {g : Nat} (e : v.toInt = g) (hg : g < 8) : (((x >>> (v &&& 31)) &&& 1) = 1) ↔ gb_tbt x g = true := by
  rw [and_1]
  have ev : v = Int32.ofNat g := gi_nI e (by omega)
  have hs : ((v &&& 31).toBitVec.smod 32).toNat = g := by
    rw [ev]
    exact sh_n ⟨g, hg⟩
  have e2 : (x >>> (v &&& 31)).toBitVec = x.toBitVec.sshiftRight g := by
    show x.toBitVec.sshiftRight ((v &&& 31).toBitVec.smod 32).toNat = _
    rw [hs]
  rw [e2, BitVec.getLsbD_sshiftRight, if_pos (show g + 0 < 32 by omega), Nat.add_zero]
  unfold gb_tbt
  cases x.toBitVec.getLsbD g <;> decide
theorem tb_z (g : Nat) : gb_tbt 0 g = false := by
  unfold gb_tbt
  exact BitVec.getLsbD_zero
/-! who is where -/
def gb_wm (f : gb_F) (v : Int32) : Nat → Int32
  | 0 => 0
  | g + 1 => if f 4 g = v then gb_wm f v g ||| ((1 : Int32) <<< (Int32.ofNat g &&& 31)) else gb_wm f v g
def gb_wsm (R : Nat → Int32) (f : gb_F) (v : Int32) : Nat → Int32
  | 0 => 0
  | g + 1 => if f 4 g = v then gb_wsm R f v g + R (18 + 5 * g + 4) else gb_wsm R f v g
def gb_wn (f : gb_F) : Nat → Int32
  | 0 => 0
  | g + 1 => if ¬ f 8 g = 0 ∧ f 5 g = 0 then gb_wn f g ||| ((1 : Int32) <<< (Int32.ofNat g &&& 31)) else gb_wn f g
theorem wm_b {f : gb_F} {v : Int32} : ∀ k g, k ≤ 8 → g < 8 → (gb_tbt (gb_wm f v k) g = true ↔ (g < k ∧ f 4 g = v)) := by
  intro k
  induction k with
  | zero =>
    intro g _ _
    rw [show gb_wm f v 0 = 0 from rfl, tb_z]
    exact ⟨fun z => absurd z (by decide), fun z => absurd z.1 (by omega)⟩
  | succ k ih =>
    intro g hk hg
    have st : gb_wm f v (k + 1) = if f 4 k = v then gb_wm f v k ||| ((1 : Int32) <<< (Int32.ofNat k &&& 31)) else gb_wm f v k := rfl
    have i := ih g (by omega) hg
    rw [st]
    by_cases c : f 4 k = v
    · rw [if_pos c, tb_or, tb_one (x := Int32.ofNat k) (nI_toInt (by omega)) (by omega) hg, Bool.or_eq_true, i]
      constructor
      · intro z
        rcases z with z | z
        · exact ⟨by omega, z.2⟩
        · have := of_decide_eq_true z
          subst this
          exact ⟨by omega, c⟩
      · intro z
        by_cases d : g = k
        · exact Or.inr (decide_eq_true d)
        · exact Or.inl ⟨by omega, z.2⟩
    · rw [if_neg c, i]
      refine ⟨fun z => ⟨by omega, z.2⟩, fun z => ⟨?_, z.2⟩⟩
      by_cases d : g = k
      · subst d
        exact absurd z.2 c
      · omega
theorem ch_whoIs {n k0 k1 : Nat} {σ : gb_S} {f : gb_F} {R NR : Nat → Int32} {t : Prop} {v : Int32} (h : gb_PC k0 k1 R NR σ) (hR : gb_rB R) (hP : gb_PR R t σ f) : gb_hc (cs_Play_whoIs n σ v) (fun s r => s = σ ∧ r = gb_wm f v (gb_nG R)) := by
  have h8 := (rB_nG hR).2
  have gE := (rB_nG hR).1
  have go : ∀ (mm : Nat) (a x : Int32) (k : Nat), x.toInt = k → k ≤ gb_nG R → a = gb_wm f v k → gb_hc (cs_Play_whoIs_4 n mm σ v a x) (fun s r => s = σ ∧ r = gb_wm f v (gb_nG R)) := by
    intro mm
    induction mm with
    | zero =>
      intros
      exact hc_none
    | succ mm ih =>
      intro a x k e hk ea
      rw [cs_Play_whoIs_4, h.1]
      refine hc_kk (fun _ => hc_cd ch_geese (fun s r g => ?_))
      obtain ⟨g1, g2⟩ := g
      subst s
      have eR : σ.1 (k0 + 1) 1 = R 1 := (h.2.1.2.1 rfl).1
      rw [eR] at g2
      subst g2
      refine hc_if (fun c => hc_some ⟨rfl, ?_⟩) (fun c => ?_)
      · have := gi_le c
        rw [ea, show k = gb_nG R by omega]
      · have c' := gi_nle c
        have st : gb_wm f v (k + 1) = if f 4 k = v then gb_wm f v k ||| ((1 : Int32) <<< (Int32.ofNat k &&& 31)) else gb_wm f v k := rfl
        have ex : x = Int32.ofNat k := gi_nI e (by omega)
        rw [gi_tn e]
        refine hc_ck (fun _ _ => hc_lt (fun y ey => ?_))
        rw [(hP.1 k (by omega)).1] at ey
        refine hc_if (fun d => hc_lt (fun a2 ea2 => hc_lt (fun x2 ex2 => ih a2 x2 (k + 1) (gi_1 e (by omega) ex2) (by omega) ?_))) (fun d => hc_lt (fun x2 ex2 => ih a x2 (k + 1) (gi_1 e (by omega) ex2) (by omega) ?_))
        · rw [st, if_pos (by rw [← ey]; exact d), ea2, ea, ex]
        · rw [st, if_neg (by rw [← ey]; exact d), ea]
  unfold cs_Play_whoIs
  exact go n 0 0 0 (by decide) (Nat.zero_le _) rfl
theorem ch_worthOf {n k0 : Nat} {σ : gb_S} {f : gb_F} {R : Nat → Int32} {v : Int32} (hb : gb_cbx k0 R σ) (hR : gb_rB R) : gb_hc (cs_Border_worthOf_B n σ k0 (gb_wm f v (gb_nG R))) (fun s r => s = σ ∧ r = gb_wsm R f v (gb_nG R)) := by
  have h8 := (rB_nG hR).2
  have gE := (rB_nG hR).1
  have go : ∀ (mm : Nat) (a x : Int32) (k : Nat), x.toInt = k → k ≤ gb_nG R → a = gb_wsm R f v k → gb_hc (cs_Border_worthOf_B_4 n mm σ k0 (gb_wm f v (gb_nG R)) a x) (fun s r => s = σ ∧ r = gb_wsm R f v (gb_nG R)) := by
    intro mm
    induction mm with
    | zero =>
      intros
      exact hc_none
    | succ mm ih =>
      intro a x k e hk ea
      rw [cs_Border_worthOf_B_4]
      refine hc_kk (fun _ => hc_cd ch_geese (fun s r g => ?_))
      obtain ⟨g1, g2⟩ := g
      subst s
      have eR : σ.1 (k0 + 1) 1 = R 1 := (hb.2.1 rfl).1
      rw [eR] at g2
      subst g2
      refine hc_if (fun c => hc_some ⟨rfl, ?_⟩) (fun c => ?_)
      · have := gi_le c
        rw [ea, show k = gb_nG R by omega]
      · have c' := gi_nle c
        have hkc : k < gb_nG R := by omega
        have st : gb_wsm R f v (k + 1) = if f 4 k = v then gb_wsm R f v k + R (18 + 5 * k + 4) else gb_wsm R f v k := rfl
        refine hc_if (fun d => hc_cd (ch_worth hb hR e hkc) (fun s r g => ?_)) (fun d => hc_lt (fun x2 ex2 => ih a x2 (k + 1) (gi_1 e (by omega) ex2) (by omega) ?_))
        · obtain ⟨g1, g2⟩ := g
          subst s
          have y := ((wm_b _ _ h8 (by omega)).mp ((tb_bit e (by omega)).mp d)).2
          refine hc_lt (fun a2 ea2 => hc_lt (fun x2 ex2 => ih a2 x2 (k + 1) (gi_1 e (by omega) ex2) (by omega) ?_))
          rw [st, if_pos y, ea2, ea, g2]
        · have y : ¬ f 4 k = v := fun z => d ((tb_bit e (by omega)).mpr ((wm_b _ _ h8 (by omega)).mpr ⟨hkc, z⟩))
          rw [st, if_neg y, ea]
  unfold cs_Border_worthOf_B
  exact hc_kk (fun _ => go n 0 0 0 (by decide) (Nat.zero_le _) rfl)
theorem ch_worn {n k0 k1 : Nat} {σ : gb_S} {f : gb_F} {R NR : Nat → Int32} {t : Prop} (h : gb_PC k0 k1 R NR σ) (hR : gb_rB R) (hP : gb_PR R t σ f) : gb_hc (cs_Play_worn n σ) (fun s r => s = σ ∧ r = gb_wn f (gb_nG R)) := by
  have h8 := (rB_nG hR).2
  have gE := (rB_nG hR).1
  have go : ∀ (mm : Nat) (a x : Int32) (k : Nat), x.toInt = k → k ≤ gb_nG R → a = gb_wn f k → gb_hc (cs_Play_worn_4 n mm σ a x) (fun s r => s = σ ∧ r = gb_wn f (gb_nG R)) := by
    intro mm
    induction mm with
    | zero =>
      intros
      exact hc_none
    | succ mm ih =>
      intro a x k e hk ea
      rw [cs_Play_worn_4]
      have hpc := h.1
      refine hc_kk (fun _ => ?_)
      rw [hpc]
      refine hc_cd ch_geese (fun s r g => ?_)
      obtain ⟨g1, g2⟩ := g
      subst s
      have eR : σ.1 (k0 + 1) 1 = R 1 := (h.2.1.2.1 rfl).1
      rw [eR] at g2
      subst g2
      refine hc_if (fun c => hc_some ⟨rfl, ?_⟩) (fun c => ?_)
      · have := gi_le c
        rw [ea, show k = gb_nG R by omega]
      · have c' := gi_nle c
        have hkc : k < gb_nG R := by omega
        have st : gb_wn f (k + 1) = if ¬ f 8 k = 0 ∧ f 5 k = 0 then gb_wn f k ||| ((1 : Int32) <<< (Int32.ofNat k &&& 31)) else gb_wn f k := rfl
        have ex : x = Int32.ofNat k := gi_nI e (by omega)
        have p6 := hP.2.2.2.2.2 k hkc
        refine hc_kk (fun _ => ?_)
        rw [hpc]
        refine hc_cd (ch_boots h.2.1 hR e hkc) (fun s r g => ?_)
        obtain ⟨g1, g2⟩ := g
        subst s
        have z0 : (0 : Int32).toInt = 0 := by decide
        have yes : (¬ f 8 k = 0) → gb_hc (cs_Play_worn_38 n (fun σ v1 v2 => cs_Play_worn_4 n mm σ v1 v2) σ a x) (fun s r => s = σ ∧ r = gb_wn f (gb_nG R)) := by
          intro q8
          unfold cs_Play_worn_38 cs_Play_worn_43
          rw [if_neg (by decide), gi_tn e]
          refine hc_ck (fun _ _ => hc_lt (fun y ey => ?_))
          rw [(hP.1 k (by omega)).2.1] at ey
          refine hc_if (fun d => hc_lt (fun a2 ea2 => hc_lt (fun x2 ex2 => ih a2 x2 (k + 1) (gi_1 e (by omega) ex2) (by omega) ?_))) (fun d => hc_lt (fun x2 ex2 => ih a x2 (k + 1) (gi_1 e (by omega) ex2) (by omega) ?_))
          · rw [st, if_pos ⟨q8, by rw [← ey]; exact d⟩, ea2, ea, ex]
          · rw [st, if_neg (fun z => d (by rw [ey]; exact z.2)), ea]
        refine hc_if (fun d => yes (p6.mpr (Or.inl ?_))) (fun d => hc_if (fun d2 => yes (p6.mpr (Or.inr ((tb_bit e (by omega)).mp d2)))) (fun d2 => ?_))
        · have := gi_lt d
          rw [g2] at this
          omega
        · unfold cs_Play_worn_43
          rw [if_pos rfl]
          refine hc_lt (fun x2 ex2 => ih a x2 (k + 1) (gi_1 e (by omega) ex2) (by omega) ?_)
          have n8 : ¬ ¬ f 8 k = 0 := fun z => by
            rcases p6.mp z with y | y
            · have := gi_nlt d
              rw [g2] at this
              omega
            · exact d2 ((tb_bit e (by omega)).mpr y)
          rw [st, if_neg (fun z => n8 z.1), ea]
  unfold cs_Play_worn
  exact go n 0 0 0 (by decide) (Nat.zero_le _) rfl
theorem mh_worn {n m : Nat} {f : gb_F} {w : Int64} {R : Nat → Int32} (h : gb_mbx m R f) : gb_hm (ms_worn n f w) (fun f2 w2 r => f2 = f ∧ w2 = w ∧ r = gb_wn f (gb_nG R)) := by
  have hR := mbx_rB h
  have h8 := (rB_nG hR).2
  have gE := (rB_nG hR).1
  have go : ∀ (mm : Nat) (a x : Int32) (k : Nat), x.toInt = k → k ≤ gb_nG R → a = gb_wn f k → gb_hm (ms_worn_4 n mm f w a x) (fun f2 w2 r => f2 = f ∧ w2 = w ∧ r = gb_wn f (gb_nG R)) := by
    intro mm
    induction mm with
    | zero =>
      intros
      exact hm_none
    | succ mm ih =>
      intro a x k e hk ea
      rw [ms_worn_4]
      refine hm_bd (mx_geese h) (fun f1 w1 r g => ?_)
      obtain ⟨g1, g2, g3⟩ := g
      subst f1
      subst w1
      subst g3
      refine hm_if (fun c => hm_some ⟨rfl, rfl, ?_⟩) (fun c => ?_)
      · have := gi_le c
        rw [ea, show k = gb_nG R by omega]
      · have c' := gi_nle c
        have st : gb_wn f (k + 1) = if ¬ f 8 k = 0 ∧ f 5 k = 0 then gb_wn f k ||| ((1 : Int32) <<< (Int32.ofNat k &&& 31)) else gb_wn f k := rfl
        have ex : x = Int32.ofNat k := gi_nI e (by omega)
        rw [gi_tn e]
        refine hm_ck (fun _ _ => hm_lt (fun y ey => ?_))
        refine hm_if (fun d => hm_lt (fun a2 ea2 => hm_lt (fun x2 ex2 => ih a2 x2 (k + 1) (gi_1 e (by omega) ex2) (by omega) ?_))) (fun d => hm_ck (fun _ _ => hm_lt (fun y2 ey2 => ?_)))
        · rw [st, if_neg (fun z => z.1 (by rw [← ey]; exact d)), ea2, ea, Int32.or_zero]
        · refine hm_if (fun d2 => hm_lt (fun a2 ea2 => hm_lt (fun x2 ex2 => ih a2 x2 (k + 1) (gi_1 e (by omega) ex2) (by omega) ?_))) (fun d2 => hm_lt (fun a2 ea2 => hm_lt (fun x2 ex2 => ih a2 x2 (k + 1) (gi_1 e (by omega) ex2) (by omega) ?_)))
          · rw [st, if_pos ⟨by rw [← ey]; exact d, by rw [← ey2]; exact d2⟩, ea2, ea, ex]
          · rw [st, if_neg (fun z => d2 (by rw [ey2]; exact z.2)), ea2, ea, Int32.or_zero]
  unfold ms_worn
  exact go n 0 0 0 (by decide) (Nat.zero_le _) rfl
theorem mh_state79 {n m : Nat} {f : gb_F} {w : Int64} {R : Nat → Int32} {v4 v : Int32} (h : gb_mbx m R f) (ev : v4 - v4 / 3 * 3 = v) : ∀ (mm : Nat) (a s x : Int32) (k : Nat), x.toInt = k → k ≤ gb_nG R → a = gb_wm f v k → s = gb_wsm R f v k → gb_hm (ms_state_79 n mm f w v4 a s x) (fun _ _ r => r = if (3 : Int32) ≤ v4 then gb_wsm R f v (gb_nG R) else gb_wm f v (gb_nG R)) := by
  have hR := mbx_rB h
  have h8 := (rB_nG hR).2
  have gE := (rB_nG hR).1
  intro mm
  induction mm with
  | zero =>
    intros
    exact hm_none
  | succ mm ih =>
    intro a s x k e hk ea es
    rw [ms_state_79]
    refine hm_bd (mx_geese h) (fun f1 w1 r g => ?_)
    obtain ⟨g1, g2, g3⟩ := g
    subst f1
    subst w1
    subst g3
    refine hm_if (fun c => hm_if (fun d => hm_some ?_) (fun d => hm_some ?_)) (fun c => ?_)
    · have := gi_le c
      rw [if_pos d, es, show k = gb_nG R by omega]
    · have := gi_le c
      rw [if_neg d, ea, show k = gb_nG R by omega]
    · have c' := gi_nle c
      have st : gb_wm f v (k + 1) = if f 4 k = v then gb_wm f v k ||| ((1 : Int32) <<< (Int32.ofNat k &&& 31)) else gb_wm f v k := rfl
      have ss : gb_wsm R f v (k + 1) = if f 4 k = v then gb_wsm R f v k + R (18 + 5 * k + 4) else gb_wsm R f v k := rfl
      have ex : x = Int32.ofNat k := gi_nI e (by omega)
      rw [gi_tn e]
      have rest : ∀ t0 : Int32, (a ||| t0) = gb_wm f v (k + 1) → gb_hm (ms_state_112 n (fun f w v4 v5 v6 v7 => ms_state_79 n mm f w v4 v5 v6 v7) f w v4 s x t0 a) (fun _ _ r => r = if (3 : Int32) ≤ v4 then gb_wsm R f v (gb_nG R) else gb_wm f v (gb_nG R)) := by
        intro t0 et
        unfold ms_state_112
        rw [gi_tn e]
        refine hm_lt (fun a2 ea2 => hm_ck (fun _ _ => hm_lt (fun y ey => hm_lt (fun u eu => ?_))))
        rw [ev] at eu
        refine hm_if (fun d => hm_bd (mx_ofGoose h e (by omega) (j := 4) (by decide) (by decide)) (fun f1 w1 r g => ?_)) (fun d => hm_lt (fun s2 es2 => hm_lt (fun x2 ex2 => ih a2 s2 x2 (k + 1) (gi_1 e (by omega) ex2) (by omega) (by rw [ea2, et]) ?_)))
        · obtain ⟨g1, g2, g3⟩ := g
          subst f1
          subst w1
          refine hm_lt (fun s2 es2 => hm_lt (fun x2 ex2 => ih a2 s2 x2 (k + 1) (gi_1 e (by omega) ex2) (by omega) (by rw [ea2, et]) ?_))
          rw [ss, if_pos (by rw [← ey, ← eu]; exact d), es2, es, g3]
        · rw [ss, if_neg (by rw [← ey, ← eu]; exact d), es2, es, Int32.add_zero]
      refine hm_ck (fun _ _ => hm_lt (fun y ey => hm_lt (fun u eu => ?_)))
      rw [ev] at eu
      refine hm_if (fun d => rest _ ?_) (fun d => rest _ ?_)
      · rw [st, if_pos (by rw [← ey, ← eu]; exact d), ea, ex]
      · rw [st, if_neg (by rw [← ey, ← eu]; exact d), ea, Int32.or_zero]
/-! pays by what is told -/
def gb_pt (R : Nat → Int32) (f : gb_F) (x : Int32) (p : Nat) : Int32 := if gb_tbt x p = true then gb_py R p (gb_tal f p) else R (3 + 3 * p + 1) * gb_tal f p
def gb_pb (R : Nat → Int32) (f : gb_F) (x : Int32) : Nat → Int32
  | 0 => 0
  | p + 1 => gb_pb R f x p + gb_pt R f x p
theorem ch_rP {n : Nat} {σ : gb_S} {k0 k1 p : Nat} {R NR : Nat → Int32} {x : Int32} (h : gb_PC k0 k1 R NR σ) (hR : gb_rB R) (e : x.toInt = p) (hp : p < gb_nP R) : gb_hc (cs_Border_rate_B n σ (σ.2.1 1) x) (fun s r => s = σ ∧ r = R (3 + 3 * p + 1)) := by
  rw [h.1]
  exact ch_rate h.2.1 hR e hp
theorem ch_pdP {n : Nat} {σ : gb_S} {k0 k1 p : Nat} {R NR : Nat → Int32} {x y : Int32} (h : gb_PC k0 k1 R NR σ) (hR : gb_rB R) (e : x.toInt = p) (hp : p < gb_nP R) : gb_hc (cs_Border_padded_B n σ (σ.2.1 1) x y) (fun s r => s = σ ∧ r = gb_pd R p y) := by
  rw [h.1]
  exact ch_padded h.2.1 hR e hp
theorem ch_payTold {n k0 k1 p : Nat} {σ : gb_S} {f : gb_F} {R NR : Nat → Int32} {t : Prop} {x v : Int32} (h : gb_PC k0 k1 R NR σ) (hR : gb_rB R) (hP : gb_PR R t σ f) (hT : gb_tr 100000 f) (e : v.toInt = p) (hp : p < gb_nP R) : gb_hc (cs_Play_payTold n σ x v) (fun s r => s = σ ∧ r = gb_pt R f x p) := by
  have h5 := (rB_nP hR).2
  unfold cs_Play_payTold cs_Play_payTold_14
  refine hc_if (fun c => hc_kk (fun _ => hc_cd (ch_rP h hR e hp) (fun s r g => ?_))) (fun c => hc_kk (fun _ => hc_cd (ch_rP h hR e hp) (fun s r g => ?_)))
  · obtain ⟨g1, g2⟩ := g
    subst s
    rw [if_neg (by decide)]
    refine hc_kk (fun _ => hc_cd (ch_tally hP hT e (by omega)) (fun s r2 g => ?_))
    obtain ⟨g1, g3⟩ := g
    subst s
    refine hc_cd (ch_pdP h hR e hp) (fun s r3 g => hc_some ⟨g.1, ?_⟩)
    unfold gb_pt
    rw [if_pos ((tb_bit e (by omega)).mp c), g.2, g2, g3]
    rfl
  · obtain ⟨g1, g2⟩ := g
    subst s
    rw [if_pos rfl]
    refine hc_cd (ch_tally hP hT e (by omega)) (fun s r2 g => hc_some ⟨g.1, ?_⟩)
    unfold gb_pt
    rw [if_neg (fun z => c ((tb_bit e (by omega)).mpr z)), g.2, g2]
theorem ch_payBy {n k0 k1 : Nat} {σ : gb_S} {f : gb_F} {R NR : Nat → Int32} {t : Prop} {x : Int32} (h : gb_PC k0 k1 R NR σ) (hR : gb_rB R) (hP : gb_PR R t σ f) (hT : gb_tr 100000 f) : gb_hc (cs_Play_payBy n σ x) (fun s r => s = σ ∧ r = gb_pb R f x (gb_nP R)) := by
  have h5 := (rB_nP hR).2
  have pE := (rB_nP hR).1
  have go : ∀ (mm : Nat) (a v : Int32) (k : Nat), v.toInt = k → k ≤ gb_nP R → a = gb_pb R f x k → gb_hc (cs_Play_payBy_4 n mm σ x a v) (fun s r => s = σ ∧ r = gb_pb R f x (gb_nP R)) := by
    intro mm
    induction mm with
    | zero =>
      intros
      exact hc_none
    | succ mm ih =>
      intro a v k e hk ea
      rw [cs_Play_payBy_4, h.1]
      refine hc_kk (fun _ => hc_cd ch_paths (fun s r g => ?_))
      obtain ⟨g1, g2⟩ := g
      subst s
      have eR : σ.1 (k0 + 1) 0 = R 0 := h.2.1.1
      rw [eR] at g2
      subst g2
      refine hc_if (fun c => hc_some ⟨rfl, ?_⟩) (fun c => ?_)
      · have := gi_le c
        rw [ea, show k = gb_nP R by omega]
      · have c' := gi_nle c
        refine hc_cd (ch_payTold h hR hP hT e (by omega)) (fun s r g => ?_)
        obtain ⟨g1, g2⟩ := g
        subst s
        refine hc_lt (fun a2 ea2 => hc_lt (fun x2 ex2 => ih a2 x2 (k + 1) (gi_1 e (by omega) ex2) (by omega) ?_))
        rw [ea2, ea, g2]
        rfl
  unfold cs_Play_payBy
  exact go n 0 0 0 (by decide) (Nat.zero_le _) rfl
theorem tb_all : ∀ n : Fin 6, ∀ g : Fin 5, g.val < n.val → gb_tbt (((1 : Int32) <<< (Int32.ofNat n.val &&& 31)) - 1) g.val = true := by decide
def gb_ap (R : Nat → Int32) (f : gb_F) : Nat → Int32
  | 0 => 0
  | p + 1 => gb_ap R f p + gb_py R p (gb_tal f p)
theorem ap_E {R : Nat → Int32} {f : gb_F} {x : Int32} {N : Nat} (h : ∀ g, g < N → gb_tbt x g = true) : ∀ k, k ≤ N → gb_pb R f x k = gb_ap R f k := by
  intro k
  induction k with
  | zero =>
    intro _
    rfl
  | succ k ih =>
    intro hk
    show gb_pb R f x k + gb_pt R f x k = gb_ap R f k + gb_py R k (gb_tal f k)
    rw [ih (by omega)]
    unfold gb_pt
    rw [if_pos (h k (by omega))]
theorem ch_allPay {n k0 k1 : Nat} {σ : gb_S} {f : gb_F} {R NR : Nat → Int32} {t : Prop} (h : gb_PC k0 k1 R NR σ) (hR : gb_rB R) (hP : gb_PR R t σ f) (hT : gb_tr 100000 f) : gb_hc (cs_Play_allPay n σ) (fun s r => s = σ ∧ r = gb_ap R f (gb_nP R)) := by
  have h5 := (rB_nP hR).2
  have pE := (rB_nP hR).1
  unfold cs_Play_allPay
  rw [h.1]
  refine hc_kk (fun _ => hc_cd ch_paths (fun s r g => ?_))
  obtain ⟨g1, g2⟩ := g
  subst s
  have eR : σ.1 (k0 + 1) 0 = R 0 := h.2.1.1
  rw [eR] at g2
  have ex : r = Int32.ofNat (gb_nP R) := gi_nI (by rw [g2]; exact pE) (by omega)
  refine hc_cd (ch_payBy h hR hP hT) (fun s r2 g => hc_some ⟨g.1, ?_⟩)
  rw [g.2]
  exact ap_E (N := gb_nP R) (fun g hg => by rw [ex]; exact tb_all ⟨gb_nP R, by omega⟩ ⟨g, by omega⟩ hg) _ (Nat.le_refl _)
theorem mh_allPay {n m : Nat} {f : gb_F} {w : Int64} {R : Nat → Int32} (h : gb_mbx m R f) : gb_hm (ms_allPay n f w) (fun f2 w2 r => f2 = f ∧ w2 = w ∧ r = gb_ap R f (gb_nP R)) := by
  have hR := mbx_rB h
  have h5 := (rB_nP hR).2
  have pE := (rB_nP hR).1
  have go : ∀ (mm : Nat) (a x : Int32) (k : Nat), x.toInt = k → k ≤ gb_nP R → a = gb_ap R f k → gb_hm (ms_allPay_4 n mm f w a x) (fun f2 w2 r => f2 = f ∧ w2 = w ∧ r = gb_ap R f (gb_nP R)) := by
    intro mm
    induction mm with
    | zero =>
      intros
      exact hm_none
    | succ mm ih =>
      intro a x k e hk ea
      rw [ms_allPay_4]
      refine hm_bd (mx_paths h) (fun f1 w1 r g => ?_)
      obtain ⟨g1, g2, g3⟩ := g
      subst f1
      subst w1
      subst g3
      refine hm_if (fun c => hm_some ⟨rfl, rfl, ?_⟩) (fun c => ?_)
      · have := gi_le c
        rw [ea, show k = gb_nP R by omega]
      · have c' := gi_nle c
        refine hm_bd (mh_pay h e (by omega)) (fun f1 w1 r g => ?_)
        obtain ⟨g1, g2, g3⟩ := g
        subst f1
        subst w1
        refine hm_lt (fun a2 ea2 => hm_lt (fun x2 ex2 => ih a2 x2 (k + 1) (gi_1 e (by omega) ex2) (by omega) ?_))
        rw [ea2, ea, g3]
        rfl
  unfold ms_allPay
  exact go n 0 0 0 (by decide) (Nat.zero_le _) rfl
/-! state -/
def gb_qst (R : Nat → Int32) (f2 : gb_F) (p4 : Int32) : Int32 := if p4 = 6 then gb_wn f2 (gb_nG R) else if p4 = 7 then gb_ap R f2 (gb_nP R) else if p4 = 8 then (if f2 0 22 = 0 then 0 else 1) else if 0 ≤ p4.toInt ∧ p4.toInt ≤ 5 then (if 3 ≤ p4.toInt then gb_wsm R f2 (p4 - 3) (gb_nG R) else gb_wm f2 p4 (gb_nG R)) else -2
theorem m_state {n : Nat} {f : gb_F} {w : Int64} {p1 p2 p3 p4 : Int32} (hn : gb_N ≤ n) (hM : gb_TM f) : gb_hm (ms_state n f w p1 p2 p3 p4) (fun _ _ q => (gb_noS n f p1 p2 p3 ∧ q = -2) ∨ ∃ f2, gb_yS n f p1 p2 p3 f2 ∧ q = gb_qst (gb_Rs 0 f p1) f2 p4) := by
  unfold ms_state
  refine hm_bd (mh_isState hn hM) (fun f1 w1 r g => hm_if (fun c => hm_some (Or.inl ⟨yn_0 g c, rfl⟩)) (fun c => ?_))
  have y := yn_1 g c
  obtain ⟨m, pm⟩ := ran_PM y.2.2.1
  have c0 : (0 : Int32).toInt = 0 := by decide
  have c5 : (5 : Int32).toInt = 5 := by decide
  have c3 : (3 : Int32).toInt = 3 := by decide
  refine hm_if (fun x6 => hm_bd (mh_worn pm.1) (fun f2 w2 v ev => hm_some (Or.inr ⟨f1, y, ?_⟩))) (fun x6 => hm_if (fun x7 => hm_bd (mh_allPay pm.1) (fun f2 w2 v ev => hm_some (Or.inr ⟨f1, y, ?_⟩))) (fun x7 => hm_if (fun x8 => hm_if (fun z => hm_some (Or.inr ⟨f1, y, ?_⟩)) (fun z => hm_some (Or.inr ⟨f1, y, ?_⟩))) (fun x8 => hm_bd mh_isIn (fun f2 w2 v ev => ?_))))
  · unfold gb_qst
    rw [if_pos x6, ev.2.2]
  · unfold gb_qst
    rw [if_neg x6, if_pos x7, ev.2.2]
  · unfold gb_qst
    rw [if_neg x6, if_neg x7, if_pos x8, if_pos z]
  · unfold gb_qst
    rw [if_neg x6, if_neg x7, if_pos x8, if_neg z]
  · obtain ⟨z1, z2, z3⟩ := ev
    subst f2
    subst w2
    rw [c0, c5] at z3
    refine hm_if (fun z => hm_some (Or.inr ⟨f1, y, ?_⟩)) (fun z => ?_)
    · unfold gb_qst
      rw [if_neg x6, if_neg x7, if_neg x8, if_neg (fun q => ?_)]
      rcases z3 with z3 | z3
      · rw [z] at z3
        exact absurd z3.1 (by decide)
      · omega
    · have zz : 0 ≤ p4.toInt ∧ p4.toInt ≤ 5 := by
        rcases z3 with z3 | z3
        · exact z3.2
        · exact absurd z3.1 z
      have md : p4 - p4 / 3 * 3 = if 3 ≤ p4.toInt then p4 - 3 else p4 := by
        have cs : p4.toInt = 0 ∨ p4.toInt = 1 ∨ p4.toInt = 2 ∨ p4.toInt = 3 ∨ p4.toInt = 4 ∨ p4.toInt = 5 := by omega
        rcases cs with q | q | q | q | q | q
        · rw [show p4 = 0 from gi_eq q (by decide)]
          decide
        · rw [show p4 = 1 from gi_eq q (by decide)]
          decide
        · rw [show p4 = 2 from gi_eq q (by decide)]
          decide
        · rw [show p4 = 3 from gi_eq q (by decide)]
          decide
        · rw [show p4 = 4 from gi_eq q (by decide)]
          decide
        · rw [show p4 = 5 from gi_eq q (by decide)]
          decide
      refine hm_mono (mh_state79 pm.1 md n 0 0 0 0 (by decide) (Nat.zero_le _) rfl rfl) (fun f2 w2 r3 er => Or.inr ⟨f1, y, ?_⟩)
      rw [er]
      unfold gb_qst
      rw [if_neg x6, if_neg x7, if_neg x8, if_pos zz]
      by_cases q : 3 ≤ p4.toInt
      · rw [if_pos q, if_pos (Int32.le_iff_toInt_le.mpr (by omega)), if_pos q]
      · rw [if_neg q, if_neg (fun u => q (by have := gi_le u; omega)), if_neg q]
theorem c_state {n : Nat} {σ : gb_S} {f : gb_F} {p1 p2 p3 p4 q : Int32} (hn : gb_N ≤ n) (hT : gb_TC σ) (h : gb_R σ f) (hM : gb_TM f) (H : (gb_noS n f p1 p2 p3 ∧ q = -2) ∨ ∃ f2, gb_yS n f p1 p2 p3 f2 ∧ q = gb_qst (gb_Rs 0 f p1) f2 p4) : gb_hc (cs_Face_state n σ p1 p2 p3 p4) (fun _ r => r = q) := by
  unfold cs_Face_state
  refine hc_cd (cy_border h hM) (fun s r g => ?_)
  obtain ⟨g0, g⟩ := g
  subst s
  refine hc_if (fun c => hc_some (no_2 H (fun z => ?_))) (fun c => ?_)
  · rcases g with y | y
    · exact y.2 z
    · exact y.1 c
  · rcases g with y | ⟨y1, y2, y3, y4, y5⟩
    · exact absurd y.1 c
    refine hc_kk (fun _ => c_to hn hT h hM y2 y3 y4 y5 H (fun s k1 f2 PC PR TR => ?_))
    have qv : ∀ (a : Int32) (z : Int), a.toInt = z → p4 = a → p4.toInt = z := fun a z e1 e2 => by rw [e2]; exact e1
    have low : ∀ (a : Int32), p4 = a → ¬ a = 6 → ¬ a = 7 → ¬ a = 8 → 0 ≤ a.toInt → a.toInt < 3 → gb_qst (gb_Rs 0 f p1) f2 p4 = gb_wm f2 p4 (gb_nG (gb_Rs 0 f p1)) := by
      intro a ea n6 n7 n8 u1 u2
      unfold gb_qst
      rw [if_neg (by rw [ea]; exact n6), if_neg (by rw [ea]; exact n7), if_neg (by rw [ea]; exact n8), if_pos (by rw [ea]; omega), if_neg (by rw [ea]; omega)]
    have high : ∀ (a : Int32), p4 = a → ¬ a = 6 → ¬ a = 7 → ¬ a = 8 → 3 ≤ a.toInt → a.toInt ≤ 5 → gb_qst (gb_Rs 0 f p1) f2 p4 = gb_wsm (gb_Rs 0 f p1) f2 (p4 - 3) (gb_nG (gb_Rs 0 f p1)) := by
      intro a ea n6 n7 n8 u1 u2
      unfold gb_qst
      rw [if_neg (by rw [ea]; exact n6), if_neg (by rw [ea]; exact n7), if_neg (by rw [ea]; exact n8), if_pos (by rw [ea]; omega), if_pos (by rw [ea]; omega)]
    have who : ∀ v : Int32, gb_hc (cs_Play_whoIs n s v) (fun s2 r => s2 = s ∧ r = gb_wm f2 v (gb_nG (gb_Rs 0 f p1))) := fun v => ch_whoIs PC y4 PR
    have wor : gb_hc (gb_cd (cs_Play_whoIs n s (p4 - 3)) (fun s_93 r_94 => gb_cd (cs_Border_worthOf_B n s_93 r r_94) (fun s_97 r_98 => some (s_97, r_98)))) (fun _ r => r = gb_wsm (gb_Rs 0 f p1) f2 (p4 - 3) (gb_nG (gb_Rs 0 f p1))) := by
      refine hc_cd (who (p4 - 3)) (fun s2 r2 e => ?_)
      obtain ⟨z1, z2⟩ := e
      subst s2
      subst z2
      exact hc_cd (ch_worthOf PC.2.1 y4) (fun s3 r3 e3 => hc_some e3.2)
    refine hc_if (fun x => hc_cd (who p4) (fun s2 r2 e => hc_some ?_)) (fun x0 => hc_if (fun x => hc_cd (who p4) (fun s2 r2 e => hc_some ?_)) (fun x1 => hc_if (fun x => hc_cd (who p4) (fun s2 r2 e => hc_some ?_)) (fun x2 => hc_if (fun x => hc_mono wor (fun _ _ e => ?_)) (fun x3 => hc_if (fun x => hc_mono wor (fun _ _ e => ?_)) (fun x4 => hc_if (fun x => hc_mono wor (fun _ _ e => ?_)) (fun x5 => hc_if (fun x => hc_cd (ch_worn PC y4 PR) (fun s2 r2 e => hc_some ?_)) (fun x6 => hc_if (fun x => hc_cd (ch_allPay PC y4 PR TR) (fun s2 r2 e => hc_some ?_)) (fun x7 => hc_if (fun x => hc_if (fun z => hc_some ?_) (fun z => hc_some ?_)) (fun x8 => hc_some ?_)))))))))
    · rw [e.2, low 0 x (by decide) (by decide) (by decide) (by decide) (by decide)]
    · rw [e.2, low 1 x (by decide) (by decide) (by decide) (by decide) (by decide)]
    · rw [e.2, low 2 x (by decide) (by decide) (by decide) (by decide) (by decide)]
    · rw [e, high 3 x (by decide) (by decide) (by decide) (by decide) (by decide)]
    · rw [e, high 4 x (by decide) (by decide) (by decide) (by decide) (by decide)]
    · rw [e, high 5 x (by decide) (by decide) (by decide) (by decide) (by decide)]
    · unfold gb_qst
      rw [e.2, if_pos x]
    · unfold gb_qst
      rw [e.2, if_neg x6, if_pos x]
    · unfold gb_qst
      rw [if_neg x6, if_neg x7, if_pos x, if_pos (by rw [← PR.2.2.2.2.1.1]; exact z)]
    · unfold gb_qst
      rw [if_neg x6, if_neg x7, if_pos x, if_neg (by rw [← PR.2.2.2.2.1.1]; exact z)]
    · unfold gb_qst
      rw [if_neg x6, if_neg x7, if_neg x8, if_neg (fun z => ?_)]
      have cs : p4.toInt = 0 ∨ p4.toInt = 1 ∨ p4.toInt = 2 ∨ p4.toInt = 3 ∨ p4.toInt = 4 ∨ p4.toInt = 5 := by omega
      rcases cs with u | u | u | u | u | u
      · exact x0 (gi_eq u (by decide))
      · exact x1 (gi_eq u (by decide))
      · exact x2 (gi_eq u (by decide))
      · exact x3 (gi_eq u (by decide))
      · exact x4 (gi_eq u (by decide))
      · exact x5 (gi_eq u (by decide))
theorem e_state {σ σ2 : gb_S} {f f2 : gb_F} {w w2 : Int64} {p1 p2 p3 p4 ra qa : Int32} (hT : gb_TC σ) (hM : gb_TM f) (h : gb_R σ f) (ec : cs_Face_state gb_N σ p1 p2 p3 p4 = some (σ2, ra)) (em : ms_state gb_N f w p1 p2 p3 p4 = some (f2, w2, qa)) : ra = qa := c_state (Nat.le_refl _) hT h hM (m_state (Nat.le_refl _) hM _ _ _ em) _ _ ec
/-! HONEST, TAKE, REST -/
theorem c_out {n k0 : Nat} {σ : gb_S} {f : gb_F} {p1 p2 q no : Int32} {V : gb_F → Int32} {k : gb_S → gb_CR Int32} {k2 : gb_S → gb_CR Int32} (h : gb_R σ f) (hM : gb_TM f) (i1 : gb_i0 p1 (f 1 0)) (hb : gb_cbx k0 (gb_Rs 0 f p1) σ) (hR : gb_rB (gb_Rs 0 f p1)) (k9 : k0 + 1 < 109) (H0 : ¬ gb_two f p1 p2 → q = no) (H1 : gb_two f p1 p2 → ∃ f2, gb_ran n (gb_Rs 0 f p1) (gb_Rs 1 f p2) 24 (-1) f2 ∧ q = V f2) (K : ∀ (s : gb_S) (k1 : Nat) (f2 : gb_F), gb_PC k0 k1 (gb_Rs 0 f p1) (gb_Rs 1 f p2) s → gb_PR (gb_Rs 0 f p1) True s f2 → gb_tr 100000 f2 → gb_hc (k s) (fun _ r => r = V f2)) : gb_hc (gb_cd (cs_Face_nightAt n σ p2) (fun s_12 r_13 => (if r_13 = 0 then gb_cd (cs_Face_playedOut_B_n n s_12 k0) (fun s_17 r_18 => (if r_18 = 0 then some (s_17, no) else k2 s_17)) else gb_kk (gb_kN r_13) (gb_cd (cs_Face_playedOut_B_N n s_12 k0 r_13) (fun s_35 r_36 => (if r_36 = 0 then some (s_35, no) else k s_35)))))) (fun _ r => r = q) := by
  refine hc_cd (cy_night h hM) (fun s r2 g2 => ?_)
  obtain ⟨g0, g2⟩ := g2
  subst s
  refine hc_if (fun c2 => ?_) (fun c2 => hc_kk (fun _ => ?_))
  · have nb : ¬ gb_two f p1 p2 := fun z => by
      rcases g2 with y | y
      · exact y.2 z.2
      · exact y.1 c2
    unfold cs_Face_playedOut_B_n
    exact hc_cd (hc_kk (fun _ => hc_some (Q := fun _ r => r = (0 : Int32)) rfl)) (fun s r e => hc_if (fun _ => hc_some (H0 nb).symm) (fun c => absurd e c))
  · rcases g2 with z | ⟨z1, z2, z3, z4, z5⟩
    · exact absurd z.1 c2
    obtain ⟨f2, ran, eq⟩ := H1 ⟨i1, z2⟩
    refine hc_cd (r_out hR z4 k9 z5 hb z3 ran) (fun s r e => hc_if (fun c => absurd c (by rw [e.1]; decide)) (fun _ => ?_))
    rw [eq]
    exact K s r2 f2 e.2.1 e.2.2.1 e.2.2.2.2
def gb_qho (R : Nat → Int32) (f2 : gb_F) (p3 : Int32) : Int32 := gb_py R p3.toInt.toNat (gb_tal f2 p3.toInt.toNat) - R (3 + 3 * p3.toInt.toNat + 1) * gb_tal f2 p3.toInt.toNat
def gb_H (n : Nat) (f : gb_F) (p1 p2 q no : Int32) (C : Prop) (V : gb_F → Int32) : Prop := (¬ (gb_two f p1 p2 ∧ C) ∧ q = no) ∨ ((gb_two f p1 p2 ∧ C) ∧ ∃ f2, gb_ran n (gb_Rs 0 f p1) (gb_Rs 1 f p2) 24 (-1) f2 ∧ q = V f2)
theorem H_n {n : Nat} {f : gb_F} {p1 p2 q no : Int32} {C : Prop} {V : gb_F → Int32} (H : gb_H n f p1 p2 q no C V) (z : ¬ (gb_two f p1 p2 ∧ C)) : no = q := by
  rcases H with y | y
  · exact y.2.symm
  · exact absurd y.1 z
theorem H_y {n : Nat} {f : gb_F} {p1 p2 q no : Int32} {C : Prop} {V : gb_F → Int32} (H : gb_H n f p1 p2 q no C V) (z : gb_two f p1 p2 ∧ C) : ∃ f2, gb_ran n (gb_Rs 0 f p1) (gb_Rs 1 f p2) 24 (-1) f2 ∧ q = V f2 := by
  rcases H with y | y
  · exact absurd z y.1
  · exact y.2
theorem m_honest {n : Nat} {f : gb_F} {w : Int64} {p1 p2 p3 : Int32} (hn : gb_N ≤ n) (hM : gb_TM f) : gb_hm (ms_honest n f w p1 p2 p3) (fun _ _ q => gb_H n f p1 p2 q (-1) (gb_i0 p3 (gb_Rs 0 f p1 0)) (fun f2 => gb_qho (gb_Rs 0 f p1) f2 p3)) := by
  unfold ms_honest
  refine hm_bd (mh_areTold hM) (fun f1 w1 r g => hm_if (fun c => hm_some (Or.inl ⟨fun z => (yn_0 g c) z.1, rfl⟩)) (fun c => ?_))
  obtain ⟨a, b1, b2, b3, b4, m, b5⟩ := yn_1 g c
  have h5 := (rB_nP (mbx_rB b5.1)).2
  refine hm_bd (mbx_has b5.1) (fun f2 w2 r2 g2 => ?_)
  obtain ⟨q1, q2, g2⟩ := g2
  subst f2
  subst w2
  refine hm_if (fun d => hm_some (Or.inl ⟨fun z => (yn_0 g2 d) z.2, rfl⟩)) (fun d => ?_)
  obtain ⟨d1, d2, d3⟩ := yn_1 g2 d
  refine hm_bd (mh_ran hn b5 b2 b3 b1) (fun f2 w2 u k => ?_)
  obtain ⟨m2, pm⟩ := ran_PM k.1
  refine hm_bd (mh_pay pm.1 d2 (by omega)) (fun f3 w3 v3 e3 => ?_)
  obtain ⟨q1, q2, e3⟩ := e3
  subst f3
  subst w3
  refine hm_bd (mx_ofPath pm.1 d2 (by omega) (j := 1) (by decide) (by decide)) (fun f3 w3 v4 e4 => ?_)
  obtain ⟨q1, q2, e4⟩ := e4
  subst f3
  subst w3
  refine hm_bd (mh_tally d2) (fun f3 w3 v5 e5 => hm_some (Or.inr ⟨⟨a, d1⟩, f2, k.1, ?_⟩))
  rw [e3, e4, e5.2.2]
  rfl
theorem c_honest {n : Nat} {σ : gb_S} {f : gb_F} {p1 p2 p3 q : Int32} (h : gb_R σ f) (hM : gb_TM f) (H : gb_H n f p1 p2 q (-1) (gb_i0 p3 (gb_Rs 0 f p1 0)) (fun f2 => gb_qho (gb_Rs 0 f p1) f2 p3)) : gb_hc (cs_Face_honest n σ p1 p2 p3) (fun _ r => r = q) := by
  unfold cs_Face_honest
  refine hc_cd (cy_border h hM) (fun s r g => ?_)
  obtain ⟨g0, g⟩ := g
  subst s
  refine hc_if (fun c => hc_some (H_n H (fun z => ?_))) (fun c => ?_)
  · rcases g with y | y
    · exact y.2 z.1.1
    · exact y.1 c
  · rcases g with y | ⟨y1, y2, y3, y4, y5⟩
    · exact absurd y.1 c
    have h5 := (rB_nP y4).2
    refine hc_kk (fun _ => hc_cd (cbx_has y3) (fun s r2 g2 => ?_))
    obtain ⟨g0, g2⟩ := g2
    subst s
    refine hc_if (fun d => hc_some (H_n H (fun z => (yn_0 g2 d) z.2))) (fun d => ?_)
    obtain ⟨d1, d2, d3⟩ := yn_1 g2 d
    refine c_out h hM y2 y3 y4 y5 (fun z => (H_n H (fun u => z u.1)).symm) (fun z => H_y H ⟨z, d1⟩) (fun s k1 f2 PC PR TR => ?_)
    refine hc_cd (ch_tally PR TR d2 (by omega)) (fun s2 v e => ?_)
    obtain ⟨q1, e⟩ := e
    subst s2
    refine hc_cd (ch_payOf PC.2.1 y4 d2 d3) (fun s2 v2 e2 => ?_)
    obtain ⟨q1, e2⟩ := e2
    subst s2
    refine hc_cd (ch_rate PC.2.1 y4 d2 d3) (fun s2 v3 e3 => hc_some ?_)
    rw [e2, e3.2, e]
    rfl
theorem e_honest {σ σ2 : gb_S} {f f2 : gb_F} {w w2 : Int64} {p1 p2 p3 ra qa : Int32} (_ : gb_TC σ) (hM : gb_TM f) (h : gb_R σ f) (ec : cs_Face_honest gb_N σ p1 p2 p3 = some (σ2, ra)) (em : ms_honest gb_N f w p1 p2 p3 = some (f2, w2, qa)) : ra = qa := c_honest h hM (m_honest (Nat.le_refl _) hM _ _ _ em) _ _ ec
/-! take -/
def gb_tke (R : Nat → Int32) (f : gb_F) (x : Int32) (p : Nat) : Int32 := if gb_tbt x p = true then (if R 2 = -1 then gb_pt R f x p else if gb_pb R f x (gb_nP R) ≤ R 2 then gb_pt R f x p else 0) else gb_pt R f x p
theorem ch_capP {n : Nat} {σ : gb_S} {k0 k1 : Nat} {R NR : Nat → Int32} (h : gb_PC k0 k1 R NR σ) : gb_hc (cs_Border_cap_B n σ (σ.2.1 1)) (fun s r => s = σ ∧ r = R 2) := by
  rw [h.1]
  refine hc_mono ch_cap (fun s r g => ⟨g.1, ?_⟩)
  rw [g.2]
  exact (h.2.1.2.1 rfl).2.1
theorem ch_taken {n k0 k1 p : Nat} {σ : gb_S} {f : gb_F} {R NR : Nat → Int32} {t : Prop} {x v : Int32} (h : gb_PC k0 k1 R NR σ) (hR : gb_rB R) (hP : gb_PR R t σ f) (hT : gb_tr 100000 f) (e : v.toInt = p) (hp : p < gb_nP R) : gb_hc (cs_Play_taken n σ x v) (fun s r => s = σ ∧ r = gb_tke R f x p) := by
  have h5 := (rB_nP hR).2
  have z00 : (0 : Int32) = 0 := rfl
  unfold cs_Play_taken cs_Play_taken_14
  refine hc_if (fun c => ?_) (fun c => ?_)
  · have b := (tb_bit e (by omega)).mp c
    rw [if_neg (by decide)]
    refine hc_kk (fun _ => hc_cd (ch_capP h) (fun s r g => ?_))
    obtain ⟨g1, g2⟩ := g
    subst s
    subst g2
    refine hc_if (fun d => ?_) (fun d => ?_)
    · rw [if_pos z00]
      refine hc_cd (ch_payTold h hR hP hT e hp) (fun s r g => hc_some ⟨g.1, ?_⟩)
      unfold gb_tke
      rw [g.2, if_pos b, if_pos d]
    · refine hc_cd (ch_payBy h hR hP hT) (fun s r g => ?_)
      obtain ⟨g1, g2⟩ := g
      subst s
      subst g2
      refine hc_kk (fun _ => hc_cd (ch_capP h) (fun s r g => ?_))
      obtain ⟨g1, g2⟩ := g
      subst s
      subst g2
      refine hc_if (fun d2 => ?_) (fun d2 => ?_)
      · rw [if_pos z00]
        refine hc_cd (ch_payTold h hR hP hT e hp) (fun s r g => hc_some ⟨g.1, ?_⟩)
        unfold gb_tke
        rw [g.2, if_pos b, if_neg d, if_pos d2]
      · rw [if_neg (by decide)]
        refine hc_some ⟨rfl, ?_⟩
        unfold gb_tke
        rw [if_pos b, if_neg d, if_neg d2]
  · rw [if_pos z00, if_pos z00]
    refine hc_cd (ch_payTold h hR hP hT e hp) (fun s r g => hc_some ⟨g.1, ?_⟩)
    unfold gb_tke
    rw [g.2, if_neg (fun z => c ((tb_bit e (by omega)).mpr z))]
theorem mh_takeOf {n m p : Nat} {f : gb_F} {w : Int64} {R : Nat → Int32} {x v : Int32} (h : gb_mbx m R f) (e : v.toInt = p) (hp : p < gb_nP R) : gb_hm (ms_takeOf n f w x v) (fun f2 w2 r => f2 = f ∧ w2 = w ∧ r = gb_tke R f x p) := by
  have hR := mbx_rB h
  have h5 := (rB_nP hR).2
  have pE := (rB_nP hR).1
  have l97 : ∀ t0 : Int32, (t0 = 0 ↔ ¬ gb_tbt x p = true) → gb_hm (ms_takeOf_97 n f w v t0) (fun f2 w2 r => f2 = f ∧ w2 = w ∧ r = gb_pt R f x p) := by
    intro t0 ht
    unfold ms_takeOf_97
    refine hm_if (fun c => hm_bd (mx_ofPath h e (by omega) (j := 1) (by decide) (by decide)) (fun f1 w1 r g => ?_)) (fun c => hm_bd (mh_pay h e (by omega)) (fun f1 w1 r g => hm_some ⟨g.1, g.2.1, ?_⟩))
    · obtain ⟨g1, g2, g3⟩ := g
      subst f1
      subst w1
      refine hm_bd (mh_tally e) (fun f1 w1 r2 g => hm_some ⟨g.1, g.2.1, ?_⟩)
      unfold gb_pt
      rw [if_neg (ht.mp c), g3, g.2.2]
    · unfold gb_pt
      rw [if_pos (Classical.byContradiction (fun z => c (ht.mpr z))), g.2.2]
  have l70 : ∀ t0 : Int32, (t0 = 0 ↔ ¬ gb_tbt x p = true) → gb_hm (ms_takeOf_70 n f w v (gb_pb R f x (gb_nP R)) t0) (fun f2 w2 r => f2 = f ∧ w2 = w ∧ r = gb_tke R f x p) := by
    intro t0 ht
    unfold ms_takeOf_70
    refine hm_bd (mx_of h (j := 2) (by decide) (by decide)) (fun f1 w1 r g => ?_)
    obtain ⟨g1, g2, g3⟩ := g
    subst f1
    subst w1
    subst g3
    refine hm_if (fun c => hm_mono (l97 t0 ht) (fun f2 w2 r g => ⟨g.1, g.2.1, ?_⟩)) (fun c => hm_bd (mx_of h (j := 2) (by decide) (by decide)) (fun f1 w1 r g => ?_))
    · unfold gb_tke
      rw [g.2.2]
      by_cases b : gb_tbt x p = true
      · rw [if_pos b, if_pos c]
      · rw [if_neg b]
    · obtain ⟨g1, g2, g3⟩ := g
      subst f1
      subst w1
      subst g3
      refine hm_if (fun d => hm_mono (l97 t0 ht) (fun f2 w2 r g => ⟨g.1, g.2.1, ?_⟩)) (fun d => hm_if (fun q => hm_mono (l97 t0 ht) (fun f2 w2 r g => ⟨g.1, g.2.1, ?_⟩)) (fun q => hm_some ⟨rfl, rfl, ?_⟩))
      · unfold gb_tke
        rw [g.2.2]
        by_cases b : gb_tbt x p = true
        · rw [if_pos b, if_neg c, if_pos d]
        · rw [if_neg b]
      · unfold gb_tke
        rw [g.2.2, if_neg (ht.mp q)]
      · unfold gb_tke
        rw [if_pos (Classical.byContradiction (fun z => q (ht.mpr z))), if_neg c, if_neg d]
  have go : ∀ (mm : Nat) (a y : Int32) (k : Nat), y.toInt = k → k ≤ gb_nP R → a = gb_pb R f x k → gb_hm (ms_takeOf_5 n mm f w x v a y) (fun f2 w2 r => f2 = f ∧ w2 = w ∧ r = gb_tke R f x p) := by
    intro mm
    induction mm with
    | zero =>
      intros
      exact hm_none
    | succ mm ih =>
      intro a y k ey hk ea
      rw [ms_takeOf_5]
      refine hm_bd (mx_paths h) (fun f1 w1 r g => ?_)
      obtain ⟨g1, g2, g3⟩ := g
      subst f1
      subst w1
      subst g3
      refine hm_if (fun c => ?_) (fun c => ?_)
      · have := gi_le c
        rw [ea, show k = gb_nP R by omega]
        exact hm_if (fun d => l70 1 ⟨fun z => absurd z (by decide), fun z => absurd ((tb_bit e (by omega)).mp d) z⟩) (fun d => l70 0 ⟨fun _ z => d ((tb_bit e (by omega)).mpr z), fun _ => rfl⟩)
      · have c' := gi_nle c
        have st : gb_pb R f x (k + 1) = gb_pb R f x k + gb_pt R f x k := rfl
        refine hm_if (fun d => hm_bd (mh_pay h ey (by omega)) (fun f1 w1 r g => ?_)) (fun d => hm_bd (mx_ofPath h ey (by omega) (j := 1) (by decide) (by decide)) (fun f1 w1 r g => ?_))
        · obtain ⟨g1, g2, g3⟩ := g
          subst f1
          subst w1
          refine hm_lt (fun a2 ea2 => hm_lt (fun x2 ex2 => ih a2 x2 (k + 1) (gi_1 ey (by omega) ex2) (by omega) ?_))
          rw [st, ea2, ea, g3]
          unfold gb_pt
          rw [if_pos ((tb_bit ey (by omega)).mp d)]
        · obtain ⟨g1, g2, g3⟩ := g
          subst f1
          subst w1
          refine hm_bd (mh_tally ey) (fun f1 w1 r2 g => ?_)
          obtain ⟨g1, g2, g4⟩ := g
          subst f1
          subst w1
          refine hm_lt (fun a2 ea2 => hm_lt (fun x2 ex2 => ih a2 x2 (k + 1) (gi_1 ey (by omega) ex2) (by omega) ?_))
          rw [st, ea2, ea, g3, g4]
          unfold gb_pt
          rw [if_neg (fun z => d ((tb_bit ey (by omega)).mpr z))]
  unfold ms_takeOf
  exact go n 0 0 0 (by decide) (Nat.zero_le _) rfl
theorem sh_p : ∀ k : Fin 6, (((1 : Int32) <<< (Int32.ofNat k.val &&& 31)).toInt = 2 ^ k.val) ∧ (((1 : Int32) <<< (Int32.ofNat k.val &&& 31)) - 1).toInt = 2 ^ k.val - 1 := by decide
theorem sh_q {x : Int32} {k : Nat} (e : x.toInt = k) (hk : k ≤ 5) : ((1 : Int32) <<< (x &&& 31)).toInt = 2 ^ k ∧ (((1 : Int32) <<< (x &&& 31)) - 1).toInt = 2 ^ k - 1 := by
  have ex : x = Int32.ofNat k := gi_nI e (by omega)
  rw [ex]
  exact sh_p ⟨k, by omega⟩
theorem m_take {n : Nat} {f : gb_F} {w : Int64} {p1 p2 p3 p4 : Int32} (hn : gb_N ≤ n) (hM : gb_TM f) : gb_hm (ms_take n f w p1 p2 p3 p4) (fun _ _ q => gb_H n f p1 p2 q (-1) (gb_i0 p4 (gb_Rs 0 f p1 0) ∧ 0 ≤ p3.toInt ∧ p3.toInt < 2 ^ gb_nP (gb_Rs 0 f p1)) (fun f2 => gb_tke (gb_Rs 0 f p1) f2 p3 p4.toInt.toNat)) := by
  have c0 : (0 : Int32).toInt = 0 := by decide
  unfold ms_take
  refine hm_bd (mh_areTold hM) (fun f1 w1 r g => hm_if (fun c => hm_some (Or.inl ⟨fun z => (yn_0 g c) z.1, rfl⟩)) (fun c => ?_))
  obtain ⟨a, b1, b2, b3, b4, m, b5⟩ := yn_1 g c
  have hR := mbx_rB b5.1
  have h5 := (rB_nP hR).2
  have pE := (rB_nP hR).1
  refine hm_bd (mbx_has b5.1) (fun f2 w2 r2 g2 => ?_)
  obtain ⟨q1, q2, g2⟩ := g2
  subst f2
  subst w2
  refine hm_if (fun d => hm_some (Or.inl ⟨fun z => (yn_0 g2 d) z.2.1, rfl⟩)) (fun d => ?_)
  obtain ⟨d1, d2, d3⟩ := yn_1 g2 d
  refine hm_bd (mx_paths b5.1) (fun f2 w2 r3 g3 => ?_)
  obtain ⟨q1, q2, q3⟩ := g3
  subst f2
  subst w2
  subst q3
  have sq := sh_q pE h5
  refine hm_bd mh_isIn (fun f2 w2 r4 g4 => ?_)
  obtain ⟨q1, q2, g4⟩ := g4
  subst f2
  subst w2
  rw [c0, sq.2] at g4
  refine hm_if (fun z => hm_some (Or.inl ⟨fun u => ?_, rfl⟩)) (fun z => ?_)
  · rcases g4 with y | y
    · rw [z] at y
      exact absurd y.1 (by decide)
    · have := u.2.2
      omega
  · have rg : 0 ≤ p3.toInt ∧ p3.toInt < 2 ^ gb_nP (gb_Rs 0 f p1) := by
      rcases g4 with y | y
      · have := y.2
        exact ⟨by omega, by omega⟩
      · exact absurd y.1 z
    refine hm_bd (mh_ran hn b5 b2 b3 b1) (fun f2 w2 u k => ?_)
    obtain ⟨m2, pm⟩ := ran_PM k.1
    exact hm_bd (mh_takeOf pm.1 d2 d3) (fun f3 w3 v3 e3 => hm_some (Or.inr ⟨⟨a, d1, rg⟩, f2, k.1, e3.2.2⟩))
theorem c_take {n : Nat} {σ : gb_S} {f : gb_F} {p1 p2 p3 p4 q : Int32} (h : gb_R σ f) (hM : gb_TM f) (H : gb_H n f p1 p2 q (-1) (gb_i0 p4 (gb_Rs 0 f p1 0) ∧ 0 ≤ p3.toInt ∧ p3.toInt < 2 ^ gb_nP (gb_Rs 0 f p1)) (fun f2 => gb_tke (gb_Rs 0 f p1) f2 p3 p4.toInt.toNat)) : gb_hc (cs_Face_take n σ p1 p2 p3 p4) (fun _ r => r = q) := by
  have c0 : (0 : Int32).toInt = 0 := by decide
  unfold cs_Face_take
  refine hc_cd (cy_border h hM) (fun s r g => ?_)
  obtain ⟨g0, g⟩ := g
  subst s
  refine hc_if (fun c => hc_some (H_n H (fun z => ?_))) (fun c => ?_)
  · rcases g with y | y
    · exact y.2 z.1.1
    · exact y.1 c
  · rcases g with y | ⟨y1, y2, y3, y4, y5⟩
    · exact absurd y.1 c
    have h5 := (rB_nP y4).2
    have pE := (rB_nP y4).1
    refine hc_kk (fun _ => hc_cd (cbx_has y3) (fun s r2 g2 => ?_))
    obtain ⟨g0, g2⟩ := g2
    subst s
    refine hc_if (fun d => hc_some (H_n H (fun z => (yn_0 g2 d) z.2.1))) (fun d => ?_)
    obtain ⟨d1, d2, d3⟩ := yn_1 g2 d
    refine hc_if (fun e => hc_some (H_n H (fun z => ?_))) (fun e => hc_cd ch_paths (fun s r3 g3 => ?_))
    · have := gi_lt e
      have := z.2.2.1
      omega
    · obtain ⟨g0, g3⟩ := g3
      subst s
      have eR : σ.1 (r + 1) 0 = gb_Rs 0 f p1 0 := y3.1
      rw [eR] at g3
      have sq := (sh_q (x := r3) (by rw [g3]; exact pE) h5).1
      refine hc_if (fun e2 => ?_) (fun e2 => hc_some (H_n H (fun z => ?_)))
      · have e' := gi_nlt e
        have e2' := gi_lt e2
        rw [sq] at e2'
        refine c_out h hM y2 y3 y4 y5 (fun z => (H_n H (fun u => z u.1)).symm) (fun z => H_y H ⟨z, d1, by omega, e2'⟩) (fun s k1 f2 PC PR TR => ?_)
        exact hc_cd (ch_taken PC y4 PR TR d2 d3) (fun s2 v e => hc_some e.2)
      · have e2' := gi_nlt e2
        rw [sq] at e2'
        have := z.2.2.2
        omega
theorem e_take {σ σ2 : gb_S} {f f2 : gb_F} {w w2 : Int64} {p1 p2 p3 p4 ra qa : Int32} (_ : gb_TC σ) (hM : gb_TM f) (h : gb_R σ f) (ec : cs_Face_take gb_N σ p1 p2 p3 p4 = some (σ2, ra)) (em : ms_take gb_N f w p1 p2 p3 p4 = some (f2, w2, qa)) : ra = qa := c_take h hM (m_take (Nat.le_refl _) hM _ _ _ em) _ _ ec
/-! rest -/
def gb_ar (R : Nat → Int32) (f : gb_F) (x : Int32) : Nat → Prop
  | 0 => True
  | p + 1 => gb_ar R f x p ∧ gb_tke R f (x ^^^ ((1 : Int32) <<< (Int32.ofNat p &&& 31))) p ≤ gb_tke R f x p
theorem ar_m {R : Nat → Int32} {f : gb_F} {x : Int32} : ∀ (d k : Nat), gb_ar R f x (k + d) → gb_ar R f x k := by
  intro d
  induction d with
  | zero => exact fun _ h => h
  | succ d ih => exact fun k h => ih k h.1
theorem ch_atRest {n k0 k1 : Nat} {σ : gb_S} {f : gb_F} {R NR : Nat → Int32} {t : Prop} {x : Int32} (h : gb_PC k0 k1 R NR σ) (hR : gb_rB R) (hP : gb_PR R t σ f) (hT : gb_tr 100000 f) : gb_hc (cs_Play_isAtRest n σ x) (fun s r => s = σ ∧ ((r = 0 ∧ ¬ gb_ar R f x (gb_nP R)) ∨ (r = 1 ∧ gb_ar R f x (gb_nP R)))) := by
  have h5 := (rB_nP hR).2
  have pE := (rB_nP hR).1
  have go : ∀ (mm : Nat) (v : Int32) (k : Nat), v.toInt = k → k ≤ gb_nP R → gb_ar R f x k → gb_hc (cs_Play_isAtRest_2 n mm σ x v) (fun s r => s = σ ∧ ((r = 0 ∧ ¬ gb_ar R f x (gb_nP R)) ∨ (r = 1 ∧ gb_ar R f x (gb_nP R)))) := by
    intro mm
    induction mm with
    | zero =>
      intros
      exact hc_none
    | succ mm ih =>
      intro v k e hk ha
      rw [cs_Play_isAtRest_2, h.1]
      refine hc_kk (fun _ => hc_cd ch_paths (fun s r g => ?_))
      obtain ⟨g1, g2⟩ := g
      subst s
      have eR : σ.1 (k0 + 1) 0 = R 0 := h.2.1.1
      rw [eR] at g2
      subst g2
      refine hc_if (fun c => hc_some ⟨rfl, Or.inr ⟨rfl, ?_⟩⟩) (fun c => ?_)
      · have := gi_le c
        rw [show gb_nP R = k by omega]
        exact ha
      · have c' := gi_nle c
        have hkc : k < gb_nP R := by omega
        have ev : v = Int32.ofNat k := gi_nI e (by omega)
        refine hc_cd (ch_taken h hR hP hT e hkc) (fun s r g => ?_)
        obtain ⟨g1, g2⟩ := g
        subst s
        refine hc_cd (ch_taken h hR hP hT e hkc) (fun s r2 g => ?_)
        obtain ⟨g1, g3⟩ := g
        subst s
        rw [ev] at g2
        refine hc_if (fun d => hc_lt (fun v2 ev2 => ih v2 (k + 1) (gi_1 e (by omega) ev2) (by omega) ⟨ha, by rw [← g2, ← g3]; exact d⟩)) (fun d => hc_some ⟨rfl, Or.inl ⟨rfl, fun z => d ?_⟩⟩)
        have := ar_m (gb_nP R - (k + 1)) (k + 1) (by rw [show k + 1 + (gb_nP R - (k + 1)) = gb_nP R by omega]; exact z)
        rw [g2, g3]
        exact this.2
  unfold cs_Play_isAtRest
  exact go n 0 0 (by decide) (Nat.zero_le _) trivial
theorem mh_isRest {n m : Nat} {f : gb_F} {w : Int64} {R : Nat → Int32} {x : Int32} (h : gb_mbx m R f) : gb_hm (ms_isRest n f w x) (fun f2 w2 r => f2 = f ∧ w2 = w ∧ ((r = 0 ∧ ¬ gb_ar R f x (gb_nP R)) ∨ (r = 1 ∧ gb_ar R f x (gb_nP R)))) := by
  have hR := mbx_rB h
  have h5 := (rB_nP hR).2
  have pE := (rB_nP hR).1
  have go : ∀ (mm : Nat) (a v : Int32) (k : Nat), v.toInt = k → k ≤ gb_nP R → ((a = 0 ∧ ¬ gb_ar R f x k) ∨ (a = 1 ∧ gb_ar R f x k)) → gb_hm (ms_isRest_4 n mm f w x a v) (fun f2 w2 r => f2 = f ∧ w2 = w ∧ ((r = 0 ∧ ¬ gb_ar R f x (gb_nP R)) ∨ (r = 1 ∧ gb_ar R f x (gb_nP R)))) := by
    intro mm
    induction mm with
    | zero =>
      intros
      exact hm_none
    | succ mm ih =>
      intro a v k e hk ha
      rw [ms_isRest_4]
      refine hm_bd (mx_paths h) (fun f1 w1 r g => ?_)
      obtain ⟨g1, g2, g3⟩ := g
      subst f1
      subst w1
      subst g3
      refine hm_if (fun c => hm_cb (fun _ => hm_some ⟨rfl, rfl, ?_⟩)) (fun c => ?_)
      · have := gi_le c
        rw [show gb_nP R = k by omega]
        exact ha
      · have c' := gi_nle c
        have hkc : k < gb_nP R := by omega
        have ev : v = Int32.ofNat k := gi_nI e (by omega)
        refine hm_if (fun d => hm_lt (fun v2 ev2 => ih 0 v2 (k + 1) (gi_1 e (by omega) ev2) (by omega) (Or.inl ⟨rfl, fun z => (yn_0 ha d) z.1⟩))) (fun d => ?_)
        have yes := yn_1 ha d
        refine hm_bd (mh_takeOf h e hkc) (fun f1 w1 r g => ?_)
        obtain ⟨g1, g2, g3⟩ := g
        subst f1
        subst w1
        refine hm_bd (mh_takeOf h e hkc) (fun f1 w1 r2 g => ?_)
        obtain ⟨g1, g2, g4⟩ := g
        subst f1
        subst w1
        have g3' : r = gb_tke R f (x ^^^ ((1 : Int32) <<< (Int32.ofNat k &&& 31))) k := by
          rw [g3, ev]
        refine hm_if (fun q => hm_lt (fun v2 ev2 => ih 0 v2 (k + 1) (gi_1 e (by omega) ev2) (by omega) (Or.inl ⟨rfl, fun z => ?_⟩))) (fun q => hm_lt (fun v2 ev2 => ih 1 v2 (k + 1) (gi_1 e (by omega) ev2) (by omega) (Or.inr ⟨rfl, yes, ?_⟩)))
        · have z2 := gi_le z.2
          have q' := gi_lt q
          rw [← g3', ← g4] at z2
          omega
        · rw [← g3', ← g4]
          exact Int32.le_iff_toInt_le.mpr (gi_nlt q)
  unfold ms_isRest
  exact go n 1 0 0 (by decide) (Nat.zero_le _) (Or.inr ⟨rfl, trivial⟩)
def gb_arb (R : Nat → Int32) (f : gb_F) (x : Int32) : Nat → Bool
  | 0 => true
  | p + 1 => gb_arb R f x p && decide (gb_tke R f (x ^^^ ((1 : Int32) <<< (Int32.ofNat p &&& 31))) p ≤ gb_tke R f x p)
theorem arb_E {R : Nat → Int32} {f : gb_F} {x : Int32} : ∀ k, gb_arb R f x k = true ↔ gb_ar R f x k := by
  intro k
  induction k with
  | zero => exact ⟨fun _ => trivial, fun _ => rfl⟩
  | succ k ih =>
    show (gb_arb R f x k && decide (gb_tke R f (x ^^^ ((1 : Int32) <<< (Int32.ofNat k &&& 31))) k ≤ gb_tke R f x k)) = true ↔ (gb_ar R f x k ∧ gb_tke R f (x ^^^ ((1 : Int32) <<< (Int32.ofNat k &&& 31))) k ≤ gb_tke R f x k)
    rw [Bool.and_eq_true, ih, decide_eq_true_iff]
/-- the rests from k on, and the one that is asked for -/
def gb_rsf (R : Nat → Int32) (f : gb_F) (v3 : Int32) : Nat → Int32 → Nat → Int32
  | 0, a, _ => if v3 = -1 then a else -2
  | d + 1, a, k => if gb_arb R f (Int32.ofNat k) (gb_nP R) = true then (if a = v3 then Int32.ofNat k else gb_rsf R f v3 d (a + 1) (k + 1)) else gb_rsf R f v3 d a (k + 1)
theorem rs_y {R : Nat → Int32} {f : gb_F} {v3 a : Int32} {d k : Nat} (h : gb_ar R f (Int32.ofNat k) (gb_nP R)) : gb_rsf R f v3 (d + 1) a k = if a = v3 then Int32.ofNat k else gb_rsf R f v3 d (a + 1) (k + 1) := by
  rw [gb_rsf, if_pos ((arb_E _).mpr h)]
theorem rs_n {R : Nat → Int32} {f : gb_F} {v3 a : Int32} {d k : Nat} (h : ¬ gb_ar R f (Int32.ofNat k) (gb_nP R)) : gb_rsf R f v3 (d + 1) a k = gb_rsf R f v3 d a (k + 1) := by
  rw [gb_rsf, if_neg (fun z => h ((arb_E _).mp z))]
theorem ch_rest49 {n k0 k1 : Nat} {σ : gb_S} {f : gb_F} {R NR : Nat → Int32} {t : Prop} {v3 v5 : Int32} {M : Nat} (h : gb_PC k0 k1 R NR σ) (hR : gb_rB R) (hP : gb_PR R t σ f) (hT : gb_tr 100000 f) (e5 : v5.toInt = M) (hM : M ≤ 1000) : ∀ (mm : Nat) (a x : Int32) (k d : Nat), x.toInt = k → k + d = M → gb_hc (cs_Face_rest_49 n mm σ v3 v5 a x) (fun _ r => r = gb_rsf R f v3 d a k) := by
  intro mm
  induction mm with
  | zero =>
    intros
    exact hc_none
  | succ mm ih =>
    intro a x k d e hk
    rw [cs_Face_rest_49]
    have ex : x = Int32.ofNat k := gi_nI e (by omega)
    refine hc_if (fun c => ?_) (fun c => ?_)
    · have := gi_le c
      have d0 : d = 0 := by omega
      subst d0
      exact hc_if (fun q => hc_some (by rw [gb_rsf, if_pos q])) (fun q => hc_some (by rw [gb_rsf, if_neg q]))
    · have c' := gi_nle c
      obtain ⟨d2, rfl⟩ : ∃ d2, d = d2 + 1 := ⟨d - 1, by omega⟩
      refine hc_cd (ch_atRest h hR hP hT) (fun s r g => ?_)
      obtain ⟨g1, g2⟩ := g
      subst s
      refine hc_if (fun q => hc_lt (fun x2 ex2 => ?_)) (fun q => ?_)
      · have no := yn_0 g2 q
        rw [ex] at no
        rw [rs_n no]
        exact ih a x2 (k + 1) d2 (gi_1 e (by omega) ex2) (by omega)
      · have yes := yn_1 g2 q
        rw [ex] at yes
        rw [rs_y yes]
        refine hc_if (fun z => hc_some ?_) (fun z => hc_lt (fun a2 ea2 => hc_lt (fun x2 ex2 => ?_)))
        · rw [if_pos z, ex]
        · rw [if_neg z, ← ea2]
          exact ih a2 x2 (k + 1) d2 (gi_1 e (by omega) ex2) (by omega)
theorem mh_rest29 {n m : Nat} {f : gb_F} {w : Int64} {R : Nat → Int32} {v3 : Int32} (h : gb_mbx m R f) : ∀ (mm : Nat) (a x : Int32) (k d : Nat), x.toInt = k → k + d = 2 ^ gb_nP R → gb_hm (ms_rest_29 n mm f w v3 a x) (fun _ _ r => r = gb_rsf R f v3 d a k) := by
  have hR := mbx_rB h
  have h5 := (rB_nP hR).2
  have pE := (rB_nP hR).1
  have sq := (sh_q pE h5).1
  have M32 : 2 ^ gb_nP R ≤ 32 := by
    have := Nat.pow_le_pow_right (show 0 < 2 by decide) h5
    omega
  have cast : ((2 : Int) ^ gb_nP R) = ((2 ^ gb_nP R : Nat) : Int) := by
    rw [Int.natCast_pow]
    rfl
  rw [cast] at sq
  intro mm
  induction mm with
  | zero =>
    intros
    exact hm_none
  | succ mm ih =>
    intro a x k d e hk
    rw [ms_rest_29]
    have ex : x = Int32.ofNat k := gi_nI e (by omega)
    refine hm_bd (mx_paths h) (fun f1 w1 r g => ?_)
    obtain ⟨g1, g2, g3⟩ := g
    subst f1
    subst w1
    subst g3
    refine hm_if (fun c => ?_) (fun c => ?_)
    · have := gi_le c
      have d0 : d = 0 := by omega
      subst d0
      exact hm_if (fun q => hm_some (by rw [gb_rsf, if_pos q])) (fun q => hm_some (by rw [gb_rsf, if_neg q]))
    · have c' := gi_nle c
      obtain ⟨d2, rfl⟩ : ∃ d2, d = d2 + 1 := ⟨d - 1, by omega⟩
      refine hm_bd (mh_isRest h) (fun f1 w1 r g => ?_)
      obtain ⟨g1, g2, g3⟩ := g
      subst f1
      subst w1
      refine hm_if (fun q => hm_lt (fun x2 ex2 => ?_)) (fun q => ?_)
      · have no := yn_0 g3 q
        rw [ex] at no
        rw [rs_n no]
        exact ih a x2 (k + 1) d2 (gi_1 e (by omega) ex2) (by omega)
      · have yes := yn_1 g3 q
        rw [ex] at yes
        rw [rs_y yes]
        refine hm_if (fun z => hm_some ?_) (fun z => hm_lt (fun a2 ea2 => hm_lt (fun x2 ex2 => ?_)))
        · rw [if_pos z, ex]
        · rw [if_neg z, ← ea2]
          exact ih a2 x2 (k + 1) d2 (gi_1 e (by omega) ex2) (by omega)
theorem m_rest {n : Nat} {f : gb_F} {w : Int64} {p1 p2 p3 : Int32} (hn : gb_N ≤ n) (hM : gb_TM f) : gb_hm (ms_rest n f w p1 p2 p3) (fun _ _ q => gb_H n f p1 p2 q (-2) (-1 ≤ p3.toInt) (fun f2 => gb_rsf (gb_Rs 0 f p1) f2 p3 (2 ^ gb_nP (gb_Rs 0 f p1)) 0 0)) := by
  have c1 : (-1 : Int32).toInt = -1 := by decide
  unfold ms_rest
  refine hm_bd (mh_areTold hM) (fun f1 w1 r g => hm_if (fun c => hm_some (Or.inl ⟨fun z => (yn_0 g c) z.1, rfl⟩)) (fun c => ?_))
  obtain ⟨a, b1, b2, b3, b4, m, b5⟩ := yn_1 g c
  refine hm_if (fun d => hm_bd (mh_ran hn b5 b2 b3 b1) (fun f2 w2 u k => ?_)) (fun d => hm_some (Or.inl ⟨fun z => ?_, rfl⟩))
  · obtain ⟨m2, pm⟩ := ran_PM k.1
    have d' := gi_le d
    refine hm_mono (mh_rest29 pm.1 n 0 0 0 (2 ^ gb_nP (gb_Rs 0 f p1)) (by decide) (Nat.zero_add _)) (fun f3 w3 r3 e3 => Or.inr ⟨⟨a, by omega⟩, f2, k.1, e3⟩)
  · have d' := gi_nle d
    have := z.2
    omega
theorem c_rest {n : Nat} {σ : gb_S} {f : gb_F} {p1 p2 p3 q : Int32} (h : gb_R σ f) (hM : gb_TM f) (H : gb_H n f p1 p2 q (-2) (-1 ≤ p3.toInt) (fun f2 => gb_rsf (gb_Rs 0 f p1) f2 p3 (2 ^ gb_nP (gb_Rs 0 f p1)) 0 0)) : gb_hc (cs_Face_rest n σ p1 p2 p3) (fun _ r => r = q) := by
  have c1 : (-1 : Int32).toInt = -1 := by decide
  unfold cs_Face_rest
  refine hc_cd (cy_border h hM) (fun s r g => ?_)
  obtain ⟨g0, g⟩ := g
  subst s
  refine hc_if (fun c => ?_) (fun c => ?_)
  · have nb : ¬ (gb_two f p1 p2 ∧ -1 ≤ p3.toInt) := fun z => by
      rcases g with y | y
      · exact y.2 z.1.1
      · exact y.1 c
    exact hc_if (fun _ => hc_some (H_n H nb)) (fun _ => hc_some (H_n H nb))
  · rcases g with y | ⟨y1, y2, y3, y4, y5⟩
    · exact absurd y.1 c
    have h5 := (rB_nP y4).2
    have pE := (rB_nP y4).1
    refine hc_kk (fun _ => hc_if (fun d => hc_some (H_n H (fun z => ?_))) (fun d => ?_))
    · have d' := gi_lt d
      have := z.2
      omega
    · have d' := gi_nlt d
      refine c_out h hM y2 y3 y4 y5 (fun z => (H_n H (fun u => z u.1)).symm) (fun z => H_y H ⟨z, by omega⟩) (fun s k1 f2 PC PR TR => ?_)
      refine hc_cd ch_paths (fun s2 r2 g2 => ?_)
      obtain ⟨q1, q2⟩ := g2
      subst s2
      have eR : s.1 (r + 1) 0 = gb_Rs 0 f p1 0 := PC.2.1.1
      rw [eR] at q2
      have sq := (sh_q (x := r2) (by rw [q2]; exact pE) h5).1
      have cast : ((2 : Int) ^ gb_nP (gb_Rs 0 f p1)) = ((2 ^ gb_nP (gb_Rs 0 f p1) : Nat) : Int) := by
        rw [Int.natCast_pow]
        rfl
      rw [cast] at sq
      have M32 : 2 ^ gb_nP (gb_Rs 0 f p1) ≤ 32 := by
        have := Nat.pow_le_pow_right (show 0 < 2 by decide) h5
        omega
      refine hc_lt (fun v5 e5 => ?_)
      exact ch_rest49 PC y4 PR TR (by rw [e5]; exact sq) (by omega) n 0 0 0 (2 ^ gb_nP (gb_Rs 0 f p1)) (by decide) (Nat.zero_add _)
theorem e_rest {σ σ2 : gb_S} {f f2 : gb_F} {w w2 : Int64} {p1 p2 p3 ra qa : Int32} (_ : gb_TC σ) (hM : gb_TM f) (h : gb_R σ f) (ec : cs_Face_rest gb_N σ p1 p2 p3 = some (σ2, ra)) (em : ms_rest gb_N f w p1 p2 p3 = some (f2, w2, qa)) : ra = qa := c_rest h hM (m_rest (Nat.le_refl _) hM _ _ _ em) _ _ ec
/-! WHERE EVERYONE IS DOES NOT HANG ON WHAT IS SPARED -/
def gb_n4 (R NR : Nat → Int32) (f : gb_F) (k : Nat) : Nat → Int32 := if NR (1 + 4 * k) = 0 then upd (f 4) (NR (1 + 4 * k + 1)).toInt.toNat 1 else if NR (1 + 4 * k) = 1 then upd (f 4) (NR (1 + 4 * k + 1)).toInt.toNat 1 else if NR (1 + 4 * k) = 2 then upd (f 4) (NR (1 + 4 * k + 1)).toInt.toNat 0 else if NR (1 + 4 * k) = 3 then upd (upd (f 4) (NR (1 + 4 * k + 1)).toInt.toNat 1) (NR (1 + 4 * k + 2)).toInt.toNat 1 else if NR (1 + 4 * k) = 8 then upd (f 4) (gb_fox f (NR (1 + 4 * k + 1)).toInt.toNat (gb_nG R)).1.toNat 2 else f 4
def gb_n9 (R NR : Nat → Int32) (f : gb_F) (x : Int32) (k : Nat) : Nat → Int32 := if NR (1 + 4 * k) = 0 then upd (f 9) (5 * (NR (1 + 4 * k + 1)).toInt.toNat + (NR (1 + 4 * k + 2)).toInt.toNat) x else if NR (1 + 4 * k) = 1 then upd (f 9) (5 * (NR (1 + 4 * k + 1)).toInt.toNat + (NR (1 + 4 * k + 2)).toInt.toNat) x else if NR (1 + 4 * k) = 2 then upd (f 9) (5 * (NR (1 + 4 * k + 1)).toInt.toNat + (NR (1 + 4 * k + 2)).toInt.toNat) x else if NR (1 + 4 * k) = 3 then upd (f 9) (5 * (NR (1 + 4 * k + 1)).toInt.toNat + (NR (1 + 4 * k + 3)).toInt.toNat) x else f 9
theorem n4_0 {R NR : Nat → Int32} {f : gb_F} {k : Nat} (h : NR (1 + 4 * k) = 0) : gb_n4 R NR f k = upd (f 4) (NR (1 + 4 * k + 1)).toInt.toNat 1 := by
  unfold gb_n4
  rw [if_pos h]
theorem n9_0 {R NR : Nat → Int32} {f : gb_F} {x : Int32} {k : Nat} (h : NR (1 + 4 * k) = 0) : gb_n9 R NR f x k = upd (f 9) (5 * (NR (1 + 4 * k + 1)).toInt.toNat + (NR (1 + 4 * k + 2)).toInt.toNat) x := by
  unfold gb_n9
  rw [if_pos h]
theorem n4_1 {R NR : Nat → Int32} {f : gb_F} {k : Nat} (h : NR (1 + 4 * k) = 1) : gb_n4 R NR f k = upd (f 4) (NR (1 + 4 * k + 1)).toInt.toNat 1 := by
  unfold gb_n4
  rw [if_neg (by rw [h]; decide), if_pos h]
theorem n9_1 {R NR : Nat → Int32} {f : gb_F} {x : Int32} {k : Nat} (h : NR (1 + 4 * k) = 1) : gb_n9 R NR f x k = upd (f 9) (5 * (NR (1 + 4 * k + 1)).toInt.toNat + (NR (1 + 4 * k + 2)).toInt.toNat) x := by
  unfold gb_n9
  rw [if_neg (by rw [h]; decide), if_pos h]
theorem n4_2 {R NR : Nat → Int32} {f : gb_F} {k : Nat} (h : NR (1 + 4 * k) = 2) : gb_n4 R NR f k = upd (f 4) (NR (1 + 4 * k + 1)).toInt.toNat 0 := by
  unfold gb_n4
  rw [if_neg (by rw [h]; decide), if_neg (by rw [h]; decide), if_pos h]
theorem n9_2 {R NR : Nat → Int32} {f : gb_F} {x : Int32} {k : Nat} (h : NR (1 + 4 * k) = 2) : gb_n9 R NR f x k = upd (f 9) (5 * (NR (1 + 4 * k + 1)).toInt.toNat + (NR (1 + 4 * k + 2)).toInt.toNat) x := by
  unfold gb_n9
  rw [if_neg (by rw [h]; decide), if_neg (by rw [h]; decide), if_pos h]
theorem n4_3 {R NR : Nat → Int32} {f : gb_F} {k : Nat} (h : NR (1 + 4 * k) = 3) : gb_n4 R NR f k = upd (upd (f 4) (NR (1 + 4 * k + 1)).toInt.toNat 1) (NR (1 + 4 * k + 2)).toInt.toNat 1 := by
  unfold gb_n4
  rw [if_neg (by rw [h]; decide), if_neg (by rw [h]; decide), if_neg (by rw [h]; decide), if_pos h]
theorem n9_3 {R NR : Nat → Int32} {f : gb_F} {x : Int32} {k : Nat} (h : NR (1 + 4 * k) = 3) : gb_n9 R NR f x k = upd (f 9) (5 * (NR (1 + 4 * k + 1)).toInt.toNat + (NR (1 + 4 * k + 3)).toInt.toNat) x := by
  unfold gb_n9
  rw [if_neg (by rw [h]; decide), if_neg (by rw [h]; decide), if_neg (by rw [h]; decide), if_pos h]
theorem n4_4 {R NR : Nat → Int32} {f : gb_F} {k : Nat} (h : NR (1 + 4 * k) = 4) : gb_n4 R NR f k = f 4 := by
  unfold gb_n4
  rw [if_neg (by rw [h]; decide), if_neg (by rw [h]; decide), if_neg (by rw [h]; decide), if_neg (by rw [h]; decide), if_neg (by rw [h]; decide)]
theorem n9_4 {R NR : Nat → Int32} {f : gb_F} {x : Int32} {k : Nat} (h : NR (1 + 4 * k) = 4) : gb_n9 R NR f x k = f 9 := by
  unfold gb_n9
  rw [if_neg (by rw [h]; decide), if_neg (by rw [h]; decide), if_neg (by rw [h]; decide), if_neg (by rw [h]; decide)]
theorem n4_5 {R NR : Nat → Int32} {f : gb_F} {k : Nat} (h : NR (1 + 4 * k) = 5) : gb_n4 R NR f k = f 4 := by
  unfold gb_n4
  rw [if_neg (by rw [h]; decide), if_neg (by rw [h]; decide), if_neg (by rw [h]; decide), if_neg (by rw [h]; decide), if_neg (by rw [h]; decide)]
theorem n9_5 {R NR : Nat → Int32} {f : gb_F} {x : Int32} {k : Nat} (h : NR (1 + 4 * k) = 5) : gb_n9 R NR f x k = f 9 := by
  unfold gb_n9
  rw [if_neg (by rw [h]; decide), if_neg (by rw [h]; decide), if_neg (by rw [h]; decide), if_neg (by rw [h]; decide)]
theorem n4_6 {R NR : Nat → Int32} {f : gb_F} {k : Nat} (h : NR (1 + 4 * k) = 6) : gb_n4 R NR f k = f 4 := by
  unfold gb_n4
  rw [if_neg (by rw [h]; decide), if_neg (by rw [h]; decide), if_neg (by rw [h]; decide), if_neg (by rw [h]; decide), if_neg (by rw [h]; decide)]
theorem n9_6 {R NR : Nat → Int32} {f : gb_F} {x : Int32} {k : Nat} (h : NR (1 + 4 * k) = 6) : gb_n9 R NR f x k = f 9 := by
  unfold gb_n9
  rw [if_neg (by rw [h]; decide), if_neg (by rw [h]; decide), if_neg (by rw [h]; decide), if_neg (by rw [h]; decide)]
theorem n4_7 {R NR : Nat → Int32} {f : gb_F} {k : Nat} (h : NR (1 + 4 * k) = 7) : gb_n4 R NR f k = f 4 := by
  unfold gb_n4
  rw [if_neg (by rw [h]; decide), if_neg (by rw [h]; decide), if_neg (by rw [h]; decide), if_neg (by rw [h]; decide), if_neg (by rw [h]; decide)]
theorem n9_7 {R NR : Nat → Int32} {f : gb_F} {x : Int32} {k : Nat} (h : NR (1 + 4 * k) = 7) : gb_n9 R NR f x k = f 9 := by
  unfold gb_n9
  rw [if_neg (by rw [h]; decide), if_neg (by rw [h]; decide), if_neg (by rw [h]; decide), if_neg (by rw [h]; decide)]
theorem n4_8 {R NR : Nat → Int32} {f : gb_F} {k : Nat} (h : NR (1 + 4 * k) = 8) : gb_n4 R NR f k = upd (f 4) (gb_fox f (NR (1 + 4 * k + 1)).toInt.toNat (gb_nG R)).1.toNat 2 := by
  unfold gb_n4
  rw [if_neg (by rw [h]; decide), if_neg (by rw [h]; decide), if_neg (by rw [h]; decide), if_neg (by rw [h]; decide), if_pos h]
theorem n9_8 {R NR : Nat → Int32} {f : gb_F} {x : Int32} {k : Nat} (h : NR (1 + 4 * k) = 8) : gb_n9 R NR f x k = f 9 := by
  unfold gb_n9
  rw [if_neg (by rw [h]; decide), if_neg (by rw [h]; decide), if_neg (by rw [h]; decide), if_neg (by rw [h]; decide)]
def gb_e49 (f g : gb_F) : Prop := (∀ x, x < 8 → f 4 x = g 4 x) ∧ ∀ x p, x < 8 → p < 5 → f 9 (5 * x + p) = g 9 (5 * x + p)
theorem fox_e {f g : gb_F} {p : Nat} (h : gb_e49 f g) (hp : p < 5) : ∀ k, k ≤ 8 → gb_fox f p k = gb_fox g p k := by
  intro k
  induction k with
  | zero =>
    intro _
    rfl
  | succ k ih =>
    intro hk
    have e1 := h.1 k (by omega)
    have e2 := h.2 k p (by omega) hp
    show (if f 4 k = 2 ∨ f 9 (5 * k + p) = -1 then gb_fox f p k else if (gb_fox f p k).1 = -1 ∨ (gb_fox f p k).2 < (f 9 (5 * k + p)).toInt then ((k : Int), (f 9 (5 * k + p)).toInt) else gb_fox f p k) = (if g 4 k = 2 ∨ g 9 (5 * k + p) = -1 then gb_fox g p k else if (gb_fox g p k).1 = -1 ∨ (gb_fox g p k).2 < (g 9 (5 * k + p)).toInt then ((k : Int), (g 9 (5 * k + p)).toInt) else gb_fox g p k)
    rw [e1, e2, ih (by omega)]
theorem at_e {R : Nat → Int32} {f g : gb_F} {x v : Int32} (h : gb_e49 f g) (hR : gb_rB R) : gb_at2 R f x v ↔ gb_at2 R g x v := by
  have h8 := (rB_nG hR).2
  constructor
  · intro z
    have := in_G z.1
    exact ⟨z.1, by rw [← h.1 _ (by omega)]; exact z.2⟩
  · intro z
    have := in_G z.1
    exact ⟨z.1, by rw [h.1 _ (by omega)]; exact z.2⟩
theorem can_e {R NR : Nat → Int32} {f g : gb_F} {k : Nat} (h : gb_e49 f g) (hR : gb_rB R) : gb_can1 R NR f k ↔ gb_can1 R NR g k := by
  have h5 := (rB_nP hR).2
  have h8 := (rB_nG hR).2
  by_cases c0 : NR (1 + 4 * k) = 0
  · rw [can_0 c0, can_0 c0, at_e h hR]
  by_cases c1 : NR (1 + 4 * k) = 1
  · rw [can_1 c1, can_1 c1, at_e h hR]
  by_cases c2 : NR (1 + 4 * k) = 2
  · rw [can_2 c2, can_2 c2, at_e h hR]
  by_cases c3 : NR (1 + 4 * k) = 3
  · rw [can_3 c3, can_3 c3, at_e h hR, at_e (x := (NR (1 + 4 * k + 2))) h hR]
  by_cases c4 : NR (1 + 4 * k) = 4
  · rw [can_4 c4, can_4 c4, at_e h hR, at_e (v := 1) h hR]
  by_cases c5 : NR (1 + 4 * k) = 5
  · rw [can_5 c5, can_5 c5]
  by_cases c6 : NR (1 + 4 * k) = 6
  · rw [can_6 c6, can_6 c6]
  by_cases c7 : NR (1 + 4 * k) = 7
  · rw [can_7 c7, can_7 c7]
  by_cases c8 : NR (1 + 4 * k) = 8
  · rw [can_8 c8, can_8 c8]
    constructor
    · intro z
      have := in_P z.1
      exact ⟨z.1, by rw [← fox_e h (by omega) _ h8]; exact z.2⟩
    · intro z
      have := in_P z.1
      exact ⟨z.1, by rw [fox_e h (by omega) _ h8]; exact z.2⟩
  exact ⟨fun _ => can_9 c0 c1 c2 c3 c4 c5 c6 c7 c8, fun _ => can_9 c0 c1 c2 c3 c4 c5 c6 c7 c8⟩
theorem upd_8 {F G : Nat → Int32} {j : Nat} {v : Int32} (h : ∀ x, x < 8 → F x = G x) : ∀ x, x < 8 → upd F j v x = upd G j v x := fun x hx => upd_E rfl (h x hx)
theorem upd_9 {F G : Nat → Int32} {j : Nat} {v : Int32} (h : ∀ x p, x < 8 → p < 5 → F (5 * x + p) = G (5 * x + p)) : ∀ x p, x < 8 → p < 5 → upd F j v (5 * x + p) = upd G j v (5 * x + p) := fun x p hx hp => upd_E rfl (h x p hx hp)
theorem e49_s {R NR : Nat → Int32} {f g f2 g2 : gb_F} {x : Int32} {k : Nat} (h : gb_e49 f g) (hR : gb_rB R) (hc : gb_can1 R NR f k) (a4 : f2 4 = gb_n4 R NR f k) (a9 : f2 9 = gb_n9 R NR f x k) (b4 : g2 4 = gb_n4 R NR g k) (b9 : g2 9 = gb_n9 R NR g x k) : gb_e49 f2 g2 := by
  have h5 := (rB_nP hR).2
  have h8 := (rB_nG hR).2
  unfold gb_e49
  rw [a4, a9, b4, b9]
  by_cases c0 : NR (1 + 4 * k) = 0
  · rw [n4_0 c0, n4_0 c0, n9_0 c0, n9_0 c0]
    exact ⟨upd_8 h.1, upd_9 h.2⟩
  by_cases c1 : NR (1 + 4 * k) = 1
  · rw [n4_1 c1, n4_1 c1, n9_1 c1, n9_1 c1]
    exact ⟨upd_8 h.1, upd_9 h.2⟩
  by_cases c2 : NR (1 + 4 * k) = 2
  · rw [n4_2 c2, n4_2 c2, n9_2 c2, n9_2 c2]
    exact ⟨upd_8 h.1, upd_9 h.2⟩
  by_cases c3 : NR (1 + 4 * k) = 3
  · rw [n4_3 c3, n4_3 c3, n9_3 c3, n9_3 c3]
    exact ⟨upd_8 (upd_8 h.1), upd_9 h.2⟩
  by_cases c4 : NR (1 + 4 * k) = 4
  · rw [n4_4 c4, n4_4 c4, n9_4 c4, n9_4 c4]
    exact h
  by_cases c5 : NR (1 + 4 * k) = 5
  · rw [n4_5 c5, n4_5 c5, n9_5 c5, n9_5 c5]
    exact h
  by_cases c6 : NR (1 + 4 * k) = 6
  · rw [n4_6 c6, n4_6 c6, n9_6 c6, n9_6 c6]
    exact h
  by_cases c7 : NR (1 + 4 * k) = 7
  · rw [n4_7 c7, n4_7 c7, n9_7 c7, n9_7 c7]
    exact h
  by_cases c8 : NR (1 + 4 * k) = 8
  · rw [n4_8 c8, n4_8 c8, n9_8 c8, n9_8 c8]
    have cc := (can_8 c8).mp hc
    have := in_P cc.1
    rw [fox_e h (by omega) _ h8]
    exact ⟨upd_8 h.1, h.2⟩
  have n4 : ∀ z : gb_F, gb_n4 R NR z k = z 4 := fun z => by unfold gb_n4; rw [if_neg c0, if_neg c1, if_neg c2, if_neg c3, if_neg c8]
  have n9 : ∀ z : gb_F, gb_n9 R NR z x k = z 9 := fun z => by unfold gb_n9; rw [if_neg c0, if_neg c1, if_neg c2, if_neg c3]
  rw [n4, n4, n9, n9]
  exact h
theorem mh_rains49 {n m : Nat} {R NR : Nat → Int32} {v1 : Int32} : ∀ (mm : Nat) (f : gb_F) (w : Int64) (x : Int32), gb_PM m R NR f → gb_hm (ms_rains_2 n mm f w v1 x) (fun f2 _ _ => f2 4 = f 4 ∧ f2 9 = f 9 ∧ gb_mfr f f2 ∧ f2 0 23 = f 0 23) := by
  intro mm
  induction mm with
  | zero =>
    intros
    exact hm_none
  | succ mm ih =>
    intro f w x hM
    rw [ms_rains_2]
    refine hm_bd (mx_paths hM.1) (fun f1 w1 r g => ?_)
    obtain ⟨g1, g2, g3⟩ := g
    subst f1
    subst w1
    refine hm_if (fun c => hm_some ⟨rfl, rfl, mfr_r, rfl⟩) (fun c => ?_)
    refine hm_ck (fun _ _ => hm_lt (fun z1 d1 => hm_lt (fun z2 d2 => hm_ck (fun _ _ => hm_lt (fun z3 d3 => hm_lt (fun z4 d4 => hm_ck (fun _ _ => hm_lt (fun z5 d5 => hm_ck (fun _ _ => hm_lt (fun s6 d6 => hm_ck (fun _ _ => hm_lt (fun z7 d7 => hm_ck (fun _ _ => hm_lt (fun s8 d8 => hm_ck (fun _ _ => hm_lt (fun z9 d9 => hm_ck (fun _ _ => hm_lt (fun s11 d11 => hm_lt (fun x3 dx3 => ?_)))))))))))))))))))
    have a : ∀ i, i ≠ 10 → i ≠ 11 → i ≠ 12 → s11 i = f i := fun i h1 h2 h3 => by rw [d11, gb_un h3, d8, gb_un h2, d6, gb_un h1]
    have mf : gb_mfr f s11 := by
      rw [d11, d8, d6]
      exact mfr_t (mfr_t (mfr_u (by decide)) (mfr_u (by decide))) (mfr_u (by decide))
    refine hm_mono (ih s11 w x3 (PM_k hM mf)) (fun f2 w2 u2 k2 => ⟨?_, ?_, mfr_t mf k2.2.2.1, ?_⟩)
    · rw [k2.1, a 4 (by decide) (by decide) (by decide)]
    · rw [k2.2.1, a 9 (by decide) (by decide) (by decide)]
    · rw [k2.2.2.2, a 0 (by decide) (by decide) (by decide)]
theorem mh_does49 {n m k : Nat} {R NR : Nat → Int32} {f : gb_F} {x : Int32} (hM : gb_PM m R NR f) (h9 : ∀ g p, g < 8 → p < 5 → gb_iv (-1) 23 (f 9 (5 * g + p))) (e : x.toInt = k) (hk : k < gb_nD NR) (hc : gb_can1 R NR f k) (w : Int64) : gb_hm (ms_does n f w x) (fun f2 _ _ => f2 4 = gb_n4 R NR f k ∧ f2 9 = gb_n9 R NR f x k ∧ gb_mfr f f2 ∧ f2 0 23 = f 0 23) := by
  have hR := mbx_rB hM.1
  have hN := hM.2.2
  have hk2 : k < 24 := by
    have := (rN_0 hN).2
    omega
  have hp5 := (rB_nP hR).2
  have hg8 := (rB_nG hR).2
  unfold ms_does
  refine hm_bd (mx_deedOf hM.2.1 e (by omega) (j := 1) (by decide) (by decide)) (fun f1 w1 r1 g1 => ?_)
  obtain ⟨g1, g2, g3⟩ := g1
  subst f1
  subst w1
  subst g3
  refine hm_bd (mx_deedOf hM.2.1 e (by omega) (j := 2) (by decide) (by decide)) (fun f1 w1 r1 g1 => ?_)
  obtain ⟨g1, g2, g3⟩ := g1
  subst f1
  subst w1
  subst g3
  refine hm_bd (mx_deedOf hM.2.1 e (by omega) (j := 0) (by decide) (by decide)) (fun f1 w1 r1 g1 => ?_)
  obtain ⟨g1, g2, g3⟩ := g1
  subst f1
  subst w1
  subst g3
  rw [Nat.add_zero]
  refine hm_if (fun c0 => ?_) (fun c0 => ?_)
  · have cc := (can_0 c0).mp hc
    obtain ⟨a1, a2⟩ := in_G cc.1.1
    obtain ⟨b1, b2⟩ := in_P cc.2
    refine hm_bd (mh_walks hM.1 a1 (by omega) b1 (by omega)) (fun f2 w2 u2 B1 => hm_some ⟨?_, ?_, ⟨B1.2.1, by rw [B1.1], by rw [B1.1], by rw [B1.1], B1.2.2.1⟩, by rw [B1.1]⟩)
    · rw [n4_0 c0]
      exact B1.2.2.2.1
    · rw [n9_0 c0]
      exact B1.2.2.2.2.2.2.2.1
  refine hm_if (fun c1 => ?_) (fun c1 => ?_)
  · have cc := (can_1 c1).mp hc
    obtain ⟨a1, a2⟩ := in_G cc.1.1
    obtain ⟨b1, b2⟩ := in_P cc.2
    refine hm_bd (mh_walks hM.1 a1 (by omega) b1 (by omega)) (fun f2 w2 u2 B1 => hm_some ⟨?_, ?_, ⟨B1.2.1, by rw [B1.1], by rw [B1.1], by rw [B1.1], B1.2.2.1⟩, by rw [B1.1]⟩)
    · rw [n4_1 c1]
      exact B1.2.2.2.1
    · rw [n9_1 c1]
      exact B1.2.2.2.2.2.2.2.1
  refine hm_if (fun c2 => ?_) (fun c2 => ?_)
  · have cc := (can_2 c2).mp hc
    obtain ⟨a1, a2⟩ := in_G cc.1.1
    obtain ⟨b1, b2⟩ := in_P cc.2
    refine hm_bd (mh_walks hM.1 a1 (by omega) b1 (by omega)) (fun f2 w2 u2 B1 => hm_some ⟨?_, ?_, ⟨B1.2.1, by rw [B1.1], by rw [B1.1], by rw [B1.1], B1.2.2.1⟩, by rw [B1.1]⟩)
    · rw [n4_2 c2]
      exact B1.2.2.2.1
    · rw [n9_2 c2]
      exact B1.2.2.2.2.2.2.2.1
  refine hm_if (fun c3 => ?_) (fun c3 => ?_)
  · have cc := (can_3 c3).mp hc
    obtain ⟨a1, a2⟩ := in_G cc.1.1
    obtain ⟨d1, d2⟩ := in_G cc.2.1.1
    obtain ⟨b1, b2⟩ := in_P cc.2.2
    refine hm_bd (mx_deedOf hM.2.1 e (by omega) (j := 3) (by decide) (by decide)) (fun f1 w1 r1 g1 => ?_)
    obtain ⟨g1, g2, g3⟩ := g1
    subst f1
    subst w1
    subst g3
    refine hm_bd (mh_walks hM.1 a1 (by omega) b1 (by omega)) (fun f2 w2 u2 B1 => ?_)
    have mf : gb_mfr f f2 := ⟨B1.2.1, by rw [B1.1], by rw [B1.1], by rw [B1.1], B1.2.2.1⟩
    rw [gi_tn d1]
    refine hm_ck (fun _ _ => hm_lt (fun f3 e3 => ?_))
    have mf3 : gb_mfr f f3 := by
      rw [e3]
      exact mfr_t mf (mfr_u (by decide))
    refine hm_bd (mx_deedOf (PM_k hM mf3).2.1 e (by omega) (j := 3) (by decide) (by decide)) (fun f1 w1 r1 g1 => ?_)
    obtain ⟨g1, g2, g3⟩ := g1
    subst f1
    subst w1
    subst g3
    refine hm_ck (fun _ _ => hm_lt (fun f4 e5 => hm_some ⟨?_, ?_, ?_, ?_⟩))
    · rw [n4_3 c3, e5, gb_un (by decide), e3, gb_us, B1.2.2.2.1]
    · rw [n9_3 c3, e5, gb_un (by decide), e3, gb_un (by decide)]
      exact B1.2.2.2.2.2.2.2.1
    · rw [e5]
      exact mfr_t mf3 (mfr_u (by decide))
    · rw [e5, gb_un (by decide), e3, gb_un (by decide), B1.1]
  refine hm_if (fun c4 => ?_) (fun c4 => ?_)
  · refine hm_ck (fun _ _ => hm_lt (fun f1 d1 => hm_ck (fun _ _ => hm_lt (fun f2 d2 => hm_some ⟨?_, ?_, ?_, ?_⟩))))
    · rw [n4_4 c4, d2, gb_un (by decide), d1, gb_un (by decide)]
    · rw [n9_4 c4, d2, gb_un (by decide), d1, gb_un (by decide)]
    · rw [d2, d1]
      exact mfr_t (mfr_u (by decide)) (mfr_u (by decide))
    · rw [d2, gb_un (by decide), d1, gb_un (by decide)]
  refine hm_if (fun c5 => ?_) (fun c5 => ?_)
  · refine hm_bd (mh_rains49 n f w 0 hM) (fun f2 w2 u2 k2 => hm_some ⟨?_, ?_, k2.2.2.1, k2.2.2.2⟩)
    · rw [n4_5 c5]
      exact k2.1
    · rw [n9_5 c5]
      exact k2.2.1
  refine hm_if (fun c6 => ?_) (fun c6 => ?_)
  · refine hm_lt (fun f2 d2 => hm_some ⟨?_, ?_, ?_, ?_⟩)
    · rw [n4_6 c6, d2, gb_un (by decide)]
    · rw [n9_6 c6, d2, gb_un (by decide)]
    · rw [d2]
      exact mfr_0 (by decide)
    · rw [d2, gb_us, pk_un (by decide)]
  refine hm_if (fun c7 => ?_) (fun c7 => ?_)
  · refine hm_lt (fun f2 d2 => hm_some ⟨?_, ?_, ?_, ?_⟩)
    · rw [n4_7 c7, d2, gb_un (by decide)]
    · rw [n9_7 c7, d2, gb_un (by decide)]
    · rw [d2]
      exact mfr_0 (by decide)
    · rw [d2, gb_us, pk_un (by decide)]
  have k8 : NR (1 + 4 * k) = 8 := by
    have i0 := rN_d (i := 0) hN hk2 (by decide)
    rw [if_pos rfl, Nat.add_zero] at i0
    have i1 := i0.1
    have i2 := i0.2
    have nk : ∀ (v : Int32) (z : Int), v.toInt = z → ¬ NR (1 + 4 * k) = v → (NR (1 + 4 * k)).toInt ≠ z := fun v z ez q y => q (gi_eq y ez)
    have n0 := nk 0 0 (by decide) c0
    have n1 := nk 1 1 (by decide) c1
    have n2 := nk 2 2 (by decide) c2
    have n3 := nk 3 3 (by decide) c3
    have n4 := nk 4 4 (by decide) c4
    have n5 := nk 5 5 (by decide) c5
    have n6 := nk 6 6 (by decide) c6
    have n7 := nk 7 7 (by decide) c7
    change (0 : Int) ≤ (NR (1 + 4 * k)).toInt at i1
    change (NR (1 + 4 * k)).toInt ≤ 8 at i2
    exact gi_eq (k := 8) (by omega) (by decide)
  have cc := (can_8 k8).mp hc
  obtain ⟨a1, a2⟩ := in_P cc.1
  have fb := fox_b f (NR (1 + 4 * k + 1)).toInt.toNat (fun g hg => h9 g _ hg (by omega)) (gb_nG R) (by omega)
  rcases fb with fb | fb
  · exact absurd fb.1 cc.2
  refine hm_bd (mh_foxed hM.1 (fun g hg => h9 g _ hg (by omega)) a1 (by omega)) (fun f1 w1 r1 k1 => ?_)
  obtain ⟨q1, q2, q3⟩ := k1
  subst f1
  subst w1
  have er1 : r1.toInt = ((gb_fox f (NR (1 + 4 * k + 1)).toInt.toNat (gb_nG R)).1.toNat : Int) := by
    rw [q3]
    omega
  rw [gi_tn er1]
  refine hm_ck (fun _ _ => hm_lt (fun f2 d2 => hm_some ⟨?_, ?_, ?_, ?_⟩))
  · rw [n4_8 k8, d2, gb_us]
  · rw [n9_8 k8, d2, gb_un (by decide)]
  · rw [d2]
    exact mfr_u (by decide)
  · rw [d2, gb_un (by decide)]
/-! THE COUNT OF A RUN, AND WHO -/
def gb_r49 (f : gb_F) : Prop := (∀ x, x < 8 → gb_iv 0 2 (f 4 x)) ∧ ∀ x p, x < 8 → p < 5 → gb_iv (-1) 23 (f 9 (5 * x + p))
theorem upd_i {F : Nat → Int32} {j x : Nat} {v : Int32} {a b : Int} (h : gb_iv a b (F x)) (g : gb_iv a b v) : gb_iv a b (upd F j v x) := by
  by_cases c : x = j
  · subst c
    rw [pk_us]
    exact g
  · rw [pk_un c]
    exact h
theorem r49_e {f g : gb_F} (h : gb_r49 f) (e : gb_e49 f g) : gb_r49 g := ⟨fun x hx => by rw [← e.1 x hx]; exact h.1 x hx, fun x p hx hp => by rw [← e.2 x p hx hp]; exact h.2 x p hx hp⟩
theorem r49_s {R NR : Nat → Int32} {f f2 : gb_F} {x : Int32} {k : Nat} (h : gb_r49 f) (hx : gb_iv (-1) 23 x) (a4 : f2 4 = gb_n4 R NR f k) (a9 : f2 9 = gb_n9 R NR f x k) : gb_r49 f2 := by
  have i0 : gb_iv 0 2 (0 : Int32) := by unfold gb_iv; decide
  have i1 : gb_iv 0 2 (1 : Int32) := by unfold gb_iv; decide
  have i2 : gb_iv 0 2 (2 : Int32) := by unfold gb_iv; decide
  unfold gb_r49
  rw [a4, a9]
  by_cases c0 : NR (1 + 4 * k) = 0
  · rw [n4_0 c0, n9_0 c0]
    exact ⟨fun y hy => upd_i (h.1 y hy) i1, fun y p hy hp => upd_i (h.2 y p hy hp) hx⟩
  by_cases c1 : NR (1 + 4 * k) = 1
  · rw [n4_1 c1, n9_1 c1]
    exact ⟨fun y hy => upd_i (h.1 y hy) i1, fun y p hy hp => upd_i (h.2 y p hy hp) hx⟩
  by_cases c2 : NR (1 + 4 * k) = 2
  · rw [n4_2 c2, n9_2 c2]
    exact ⟨fun y hy => upd_i (h.1 y hy) i0, fun y p hy hp => upd_i (h.2 y p hy hp) hx⟩
  by_cases c3 : NR (1 + 4 * k) = 3
  · rw [n4_3 c3, n9_3 c3]
    exact ⟨fun y hy => upd_i (upd_i (h.1 y hy) i1) i1, fun y p hy hp => upd_i (h.2 y p hy hp) hx⟩
  by_cases c4 : NR (1 + 4 * k) = 4
  · rw [n4_4 c4, n9_4 c4]
    exact h
  by_cases c5 : NR (1 + 4 * k) = 5
  · rw [n4_5 c5, n9_5 c5]
    exact h
  by_cases c6 : NR (1 + 4 * k) = 6
  · rw [n4_6 c6, n9_6 c6]
    exact h
  by_cases c7 : NR (1 + 4 * k) = 7
  · rw [n4_7 c7, n9_7 c7]
    exact h
  by_cases c8 : NR (1 + 4 * k) = 8
  · rw [n4_8 c8, n9_8 c8]
    exact ⟨fun y hy => upd_i (h.1 y hy) i2, h.2⟩
  have n4 : gb_n4 R NR f k = f 4 := by unfold gb_n4; rw [if_neg c0, if_neg c1, if_neg c2, if_neg c3, if_neg c8]
  have n9 : gb_n9 R NR f x k = f 9 := by unfold gb_n9; rw [if_neg c0, if_neg c1, if_neg c2, if_neg c3]
  rw [n4, n9]
  exact h
theorem mh_cnt {n m m2 : Nat} {R NR : Nat → Int32} {v1 : Int32} : ∀ (mm : Nat) (f : gb_F) (w : Int64) (k : Nat), gb_PM m R NR f → gb_r49 f → (f 0 23).toInt = k → k ≤ gb_nD NR → gb_hm (ms_runs_4 n mm f w v1) (fun fA _ _ => (k : Int) ≤ (fA 0 23).toInt ∧ (fA 0 23).toInt ≤ gb_nD NR ∧ ∀ (mm2 : Nat) (g : gb_F) (w2 : Int64), gb_PM m2 R NR g → gb_e49 f g → f 0 23 = g 0 23 → gb_hm (ms_runs_4 n mm2 g w2 (fA 0 23)) (fun fB _ _ => fB 0 23 = fA 0 23)) := by
  intro mm
  induction mm with
  | zero =>
    intros
    exact hm_none
  | succ mm ih =>
    intro f w k hM h4 e hk
    have hN := hM.2.2
    have nE := (rN_0 hN).1
    have nD := (rN_0 hN).2
    have hR := mbx_rB hM.1
    have stop : (k : Int) ≤ (f 0 23).toInt ∧ (f 0 23).toInt ≤ gb_nD NR ∧ ∀ (mm2 : Nat) (g : gb_F) (w2 : Int64), gb_PM m2 R NR g → gb_e49 f g → f 0 23 = g 0 23 → gb_hm (ms_runs_4 n mm2 g w2 (f 0 23)) (fun fB _ _ => fB 0 23 = f 0 23) := by
      refine ⟨by omega, by omega, fun mm2 g w2 _ _ ee => ?_⟩
      cases mm2 with
      | zero => exact hm_none
      | succ mm2 =>
        rw [ms_runs_4, ← ee, if_pos (Int32.le_iff_toInt_le.mpr (Int.le_refl _))]
        exact hm_some ee.symm
    have dee : ∀ (q : Nat) (z : gb_F) (u : Int64), gb_PM q R NR z → gb_hm (ms_deeds n z u) (fun f2 w2 r => f2 = z ∧ w2 = u ∧ r = NR 0) := fun q z u hz => by
      unfold ms_deeds
      refine hm_ck (fun _ _ => hm_lt (fun y ey => hm_some ⟨rfl, rfl, ?_⟩))
      rw [ey]
      exact mx_nnight hz.2.1
    rw [ms_runs_4]
    refine hm_if (fun _ => hm_some stop) (fun c1 => hm_bd (dee m f w hM) (fun f1 w1 r g => ?_))
    obtain ⟨g1, g2, g3⟩ := g
    subst f1
    subst w1
    subst g3
    refine hm_if (fun _ => hm_some stop) (fun c2 => ?_)
    have c2' := gi_nle c2
    refine hm_bd (mh_can hM h4.1 h4.2 e (by omega)) (fun f1 w1 r g => ?_)
    obtain ⟨g1, g2, g3⟩ := g
    subst f1
    subst w1
    refine hm_if (fun _ => hm_some stop) (fun c3 => ?_)
    have yes := yn_1 g3 c3
    have hx : gb_iv (-1) 23 (f 0 23) := ⟨by omega, by omega⟩
    refine hm_bd (mh_does49 hM h4.2 e (by omega) yes w) (fun f2 w2 u2 D => hm_lt (fun f4 e4 => ?_))
    obtain ⟨d4, d9, dm, d23⟩ := D
    have mf : gb_mfr f f4 := by
      rw [e4]
      exact mfr_t dm (mfr_0 (by decide))
    have k1 : (f4 0 23).toInt = ((k + 1 : Nat) : Int) := by
      rw [e4, gb_us, pk_us, d23]
      exact gi_1 e (by omega) rfl
    have r4 : gb_r49 f4 := by
      have := r49_s h4 hx d4 d9
      rw [e4]
      unfold gb_r49
      rw [gb_un (by decide), gb_un (by decide)]
      exact this
    refine hm_mono (ih f4 w2 (k + 1) (PM_k hM mf) r4 k1 (by omega)) (fun fA wA uA G => ⟨by have := G.1; omega, G.2.1, fun mm2 g w3 hg ee e23 => ?_⟩)
    obtain ⟨GA, -, GB⟩ := G
    cases mm2 with
    | zero => exact hm_none
    | succ mm2 =>
      have eg : (g 0 23).toInt = k := by rw [← e23]; exact e
      rw [ms_runs_4, ← e23, if_neg (fun z => by have := gi_le z; omega)]
      refine hm_bd (dee m2 g w3 hg) (fun f1 w1 r q => ?_)
      obtain ⟨q1, q2, q3⟩ := q
      subst f1
      subst w1
      subst q3
      rw [if_neg c2, ← e23]
      have rg := r49_e h4 ee
      refine hm_bd (mh_can hg rg.1 rg.2 e (by omega)) (fun f1 w1 r q => ?_)
      obtain ⟨q1, q2, q3⟩ := q
      subst f1
      subst w1
      have yes2 := (can_e ee hR).mp yes
      refine hm_if (fun z => absurd yes2 (yn_0 q3 z)) (fun z => ?_)
      rw [← e23]
      refine hm_bd (mh_does49 hg rg.2 e (by omega) yes2 w3) (fun g2 w4 u4 D2 => hm_lt (fun g4 e5 => ?_))
      obtain ⟨b4, b9, bm, b23⟩ := D2
      have es := e49_s ee hR yes d4 d9 b4 b9
      refine GB mm2 g4 w4 ?_ ?_ ?_
      · refine PM_k hg ?_
        rw [e5]
        exact mfr_t bm (mfr_0 (by decide))
      · unfold gb_e49
        rw [e4, e5, gb_un (by decide), gb_un (by decide), gb_un (by decide), gb_un (by decide)]
        exact es
      · rw [e4, e5, gb_us, gb_us, pk_us, pk_us, d23, b23, e23]
theorem ran_cnt {n : Nat} {R NR : Nat → Int32} {v1 s1 s2 : Int32} {fA fB : gb_F} (hA : gb_ran n R NR v1 s1 fA) (hB : gb_ran n R NR (fA 0 23) s2 fB) : fB 0 23 = fA 0 23 := by
  obtain ⟨m, f1, w, w2, hM, -, -, -, -, eA⟩ := hA
  obtain ⟨m2, g1, w3, w4, hM2, -, -, -, -, eB⟩ := hB
  have key : gb_hm (ms_runs n f1 w v1) (fun fA _ _ => gb_hm (ms_runs n g1 w3 (fA 0 23)) (fun fB _ _ => fB 0 23 = fA 0 23)) := by
    unfold ms_runs
    refine hm_bd (mh_begins hM.1) (fun f2 w5 u5 P => ?_)
    have r0 : gb_r49 f2 := ⟨fun x hx => by rw [(P.2.1 x hx).1]; unfold gb_iv; decide, fun x p hx hp => by rw [(P.2.1 x hx).2.2.2.2.2 p hp]; unfold gb_iv; decide⟩
    refine hm_mono (mh_cnt (m2 := m2) n f2 w5 0 (PM_k hM P.1) r0 (by rw [P.2.2.2.2]; decide) (Nat.zero_le _)) (fun fA wA uA G => ?_)
    refine hm_bd (mh_begins hM2.1) (fun g2 w6 u6 Q => ?_)
    refine G.2.2 n g2 w6 (PM_k hM2 Q.1) ⟨fun x hx => ?_, fun x p hx hp => ?_⟩ ?_
    · rw [(P.2.1 x hx).1, (Q.2.1 x hx).1]
    · rw [(P.2.1 x hx).2.2.2.2.2 p hp, (Q.2.1 x hx).2.2.2.2.2 p hp]
    · rw [P.2.2.2.2, Q.2.2.2.2]
  exact key fA w2 () eA fB w4 () eB
theorem ran_le {n : Nat} {R NR : Nat → Int32} {v1 s1 : Int32} {fA : gb_F} (hA : gb_ran n R NR v1 s1 fA) : (fA 0 23).toInt ≤ gb_nD NR := by
  obtain ⟨m, f1, w, w2, hM, -, -, -, -, eA⟩ := hA
  have key : gb_hm (ms_runs n f1 w v1) (fun fA _ _ => (fA 0 23).toInt ≤ gb_nD NR) := by
    unfold ms_runs
    refine hm_bd (mh_begins hM.1) (fun f2 w5 u5 P => ?_)
    have r0 : gb_r49 f2 := ⟨fun x hx => by rw [(P.2.1 x hx).1]; unfold gb_iv; decide, fun x p hx hp => by rw [(P.2.1 x hx).2.2.2.2.2 p hp]; unfold gb_iv; decide⟩
    exact hm_mono (mh_cnt (m2 := m) n f2 w5 0 (PM_k hM P.1) r0 (by rw [P.2.2.2.2]; decide) (Nat.zero_le _)) (fun fA wA uA G => G.2.1)
  exact key fA w2 () eA
/-! who -/
theorem m_who34 {n k0 k1 m : Nat} {R NR : Nat → Int32} {v3 v4 : Int32} {p : Nat} {fA : gb_F} (hn : gb_N ≤ n) (hA : gb_ran n R NR 24 (-1) fA) (hN : gb_raN NR) (hD : (fA 0 23).toInt ≤ gb_nD NR) (h3 : v3.toInt = p) (hp : p < gb_nP R) (k9 : k0 + 1 < 109) (k9' : k1 + 1 < 109) : ∀ (mm2 : Nat) (f : gb_F) (w : Int64) (v6 : Int32) (k : Nat), gb_PM m R NR f → gb_TM f → gb_NN f → v6.toInt = k → gb_hm (ms_who_34 n mm2 f w v3 v4 (fA 0 23) v6) (fun _ _ q => ∀ (mm : Nat) (σ : gb_S), gb_cbx k0 R σ → gb_RS 1 (σ.1 (k1 + 1)) NR → gb_hc (cs_Face_who_58 n mm σ v3 v4 k0 k1 (fA 0 23) v6) (fun _ r => r = q)) := by
  intro mm2
  induction mm2 with
  | zero =>
    intros
    exact hm_none
  | succ mm2 ih =>
    intro f w v6 k hM hT hNN e
    have hR := mbx_rB hM.1
    have h5 := (rB_nP hR).2
    have nE := (rN_0 hN).1
    have nD := (rN_0 hN).2
    rw [ms_who_34]
    refine hm_if (fun c => hm_some (fun mm σ hb hS => ?_)) (fun c => ?_)
    · cases mm with
      | zero => exact hc_none
      | succ mm =>
        rw [cs_Face_who_58]
        refine hc_kk (fun _ => hc_kk (fun _ => ?_))
        rw [if_pos c]
        exact hc_some rfl
    · have c' := gi_nle c
      have hk : k < gb_nD NR := by omega
      have rdk : ∀ σ : gb_S, gb_RS 1 (σ.1 (k1 + 1)) NR → ∀ (j : Nat) (y : Int32), y.toInt = j → j < 4 → gb_hc (cs_Lines_cell_N n σ k1 v6 y) (fun s r => s = σ ∧ r = NR (1 + 4 * k + j)) := fun σ hS j y ey hj => by
        refine hc_mono (ch_cellN e (by omega) ey (by omega)) (fun s r g => ⟨g.1, ?_⟩)
        rw [g.2, show 1 + 4 * k + j = 1 + (4 * k + j) by omega]
        exact hS.2.2.1 (Or.inl rfl) _ (by have e : gb_wid 1 = 4 := rfl; rw [e]; unfold gb_nD at hk; omega)
      have kd : ∀ σ : gb_S, gb_RS 1 (σ.1 (k1 + 1)) NR → gb_hc (cs_Lines_kind_N n σ k1 v6) (fun s r => s = σ ∧ r = NR (1 + 4 * k)) := fun σ hS => by
        unfold cs_Lines_kind_N
        exact hc_kk (fun _ => hc_cd (rdk σ hS 0 0 (by decide) (by decide)) (fun s r g => hc_some g))
      refine hm_bd (mx_deedOf hM.2.1 e (by omega) (j := 0) (by decide) (by decide)) (fun f1 w1 r1 g1 => ?_)
      obtain ⟨g1, g2, g3⟩ := g1
      subst f1
      subst w1
      subst g3
      rw [Nat.add_zero]
      have e1 : ∀ x2 : Int32, x2 = v6 + 1 → x2.toInt = ((k + 1 : Nat) : Int) := fun x2 ex2 => gi_1 e (by omega) ex2
      refine hm_if (fun d0 => hm_bd (mx_deedOf hM.2.1 e (by omega) (j := 2) (by decide) (by decide)) (fun f1 w1 r1 g1 => ?_)) (fun d0 => hm_lt (fun x2 ex2 => ?_))
      · obtain ⟨g1, g2, g3⟩ := g1
        subst f1
        subst w1
        subst g3
        refine hm_if (fun d2 => hm_lt (fun f3 e3 => ?_)) (fun d2 => hm_lt (fun x2 ex2 => ?_))
        · have mf : f3 1 = f 1 ∧ f3 0 11 = f 0 11 ∧ f3 0 12 = f 0 12 := by
            rw [e3]
            exact ⟨gb_un (by decide), by rw [gb_us, pk_un (by decide)], by rw [gb_us, pk_un (by decide)]⟩
          have hM3 : gb_PM m R NR f3 := by
            obtain ⟨⟨a1, a2, a3, a4⟩, ⟨m2, b1, b2, b3⟩, h3⟩ := hM
            have e11 : (f3 0 11).toInt = gb_pl 0 m := by rw [mf.2.1]; exact a3
            have e12 : (f3 0 12).toInt = gb_pl 1 m2 := by rw [mf.2.2]; exact b2
            exact ⟨⟨a1, a2, e11, fun j => by rw [mf.1]; exact a4 j⟩, ⟨m2, b1, e12, fun j => by rw [mf.1]; exact b3 j⟩, h3⟩
          have hT3 : gb_TM f3 := by
            rw [e3]
            exact (gb_XKf (gb_XKr hT) (j := 24) (by decide)).1
          have hN3 : gb_NN f3 := by
            unfold gb_NN
            rw [mf.2.2]
            exact hNN
          refine hm_bd (mh_ran (sp := v6) hn hM3 hT3 hN3 (by rw [e3, gb_us, pk_us])) (fun f4 w4 u4 G => ?_)
          obtain ⟨rn, km, nn⟩ := G
          have cnt := ran_cnt hA rn
          have hM4 : gb_PM m R NR f4 := by
            obtain ⟨⟨a1, a2, a3, a4⟩, ⟨m2, b1, b2, b3⟩, h3⟩ := hM3
            have e11 : (f4 0 11).toInt = gb_pl 0 m := by rw [km.2.1]; exact a3
            have e12 : (f4 0 12).toInt = gb_pl 1 m2 := by rw [km.2.2.1]; exact b2
            exact ⟨⟨a1, a2, e11, fun j => by rw [km.1]; exact a4 j⟩, ⟨m2, b1, e12, fun j => by rw [km.1]; exact b3 j⟩, h3⟩
          have hT4 : gb_TM f4 := by
            obtain ⟨_, _, _, _, _, _, _, _, t, _⟩ := rn
            exact t
          have step : ∀ (q : Int32) (mm : Nat) (σ : gb_S), gb_cbx k0 R σ → gb_RS 1 (σ.1 (k1 + 1)) NR → (∀ (s : gb_S) (mm' : Nat), gb_cbx k0 R s → gb_RS 1 (s.1 (k1 + 1)) NR → gb_hc (if gb_tal f4 p = v4 then some (s, v6) else gb_lt (v6 + 1) (fun x_54 => cs_Face_who_58 n mm' s v3 v4 k0 k1 (fA 0 23) x_54)) (fun _ r => r = q)) → gb_hc (cs_Face_who_58 n mm σ v3 v4 k0 k1 (fA 0 23) v6) (fun _ r => r = q) := by
            intro q mm σ hb hS H
            cases mm with
            | zero => exact hc_none
            | succ mm =>
              rw [cs_Face_who_58]
              refine hc_kk (fun _ => hc_kk (fun _ => ?_))
              rw [if_neg c]
              refine hc_cd (kd σ hS) (fun s r g => ?_)
              obtain ⟨g1, g2⟩ := g
              subst s
              rw [if_pos (by rw [g2]; exact d0)]
              refine hc_cd (rdk σ hS 2 2 (by decide) (by decide)) (fun s r g => ?_)
              obtain ⟨g1, g3⟩ := g
              subst s
              rw [if_pos (by rw [g3]; exact d2)]
              refine hc_cd (r_run (t := False) (v1 := fA 0 23) hR k9 k9' hb hS min_E (Or.inr ⟨id, fun k' ek => ?_⟩) rn) (fun s u K => ?_)
              · rw [show k' = k by omega]
                exact d0
              · obtain ⟨K1, K2, K3, K4, K5⟩ := K
                refine hc_cd (ch_tally K2 K5 h3 (by omega)) (fun s2 r2 g => ?_)
                obtain ⟨g1, g4⟩ := g
                subst s2
                rw [g4]
                exact H s mm K1.2.1 K1.2.2.1
          rw [if_pos cnt]
          refine hm_bd (mh_tally h3) (fun f5 w5 r5 g5 => ?_)
          obtain ⟨q1, q2, q3⟩ := g5
          subst f5
          subst w5
          refine hm_if (fun z => hm_some (fun mm σ hb hS => step _ mm σ hb hS (fun s mm' _ _ => ?_))) (fun z => hm_lt (fun x2 ex2 => hm_mono (ih f4 w4 x2 (k + 1) hM4 hT4 nn (e1 x2 ex2)) (fun _ _ q G mm σ hb hS => step q mm σ hb hS (fun s mm' hb' hS' => ?_))))
          · rw [if_pos (by rw [← q3]; exact z)]
            exact hc_some rfl
          · rw [if_neg (by rw [← q3]; exact z)]
            refine hc_lt (fun y ey => ?_)
            rw [ey, ← ex2]
            exact G mm' s hb' hS'
        · refine hm_mono (ih f w x2 (k + 1) hM hT hNN (e1 x2 ex2)) (fun _ _ q G mm σ hb hS => ?_)
          cases mm with
          | zero => exact hc_none
          | succ mm =>
            rw [cs_Face_who_58]
            refine hc_kk (fun _ => hc_kk (fun _ => ?_))
            rw [if_neg c]
            refine hc_cd (kd σ hS) (fun s r g => ?_)
            obtain ⟨g1, g2⟩ := g
            subst s
            rw [if_pos (by rw [g2]; exact d0)]
            refine hc_cd (rdk σ hS 2 2 (by decide) (by decide)) (fun s r g => ?_)
            obtain ⟨g1, g3⟩ := g
            subst s
            rw [if_neg (by rw [g3]; exact d2)]
            refine hc_lt (fun y ey => ?_)
            rw [ey, ← ex2]
            exact G mm σ hb hS
      · refine hm_mono (ih f w x2 (k + 1) hM hT hNN (e1 x2 ex2)) (fun _ _ q G mm σ hb hS => ?_)
        cases mm with
        | zero => exact hc_none
        | succ mm =>
          rw [cs_Face_who_58]
          refine hc_kk (fun _ => hc_kk (fun _ => ?_))
          rw [if_neg c]
          refine hc_cd (kd σ hS) (fun s r g => ?_)
          obtain ⟨g1, g2⟩ := g
          subst s
          rw [if_neg (by rw [g2]; exact d0)]
          refine hc_lt (fun y ey => ?_)
          rw [ey, ← ex2]
          exact G mm σ hb hS
def gb_W (n : Nat) (f : gb_F) (p1 p2 p3 p4 q : Int32) : Prop := (¬ (gb_two f p1 p2 ∧ gb_i0 p3 (gb_Rs 0 f p1 0)) ∧ q = -1) ∨ ((gb_two f p1 p2 ∧ gb_i0 p3 (gb_Rs 0 f p1 0)) ∧ ∃ fA, gb_ran n (gb_Rs 0 f p1) (gb_Rs 1 f p2) 24 (-1) fA ∧ ∀ (k0 k1 mm : Nat) (σ : gb_S), k0 + 1 < 109 → k1 + 1 < 109 → gb_cbx k0 (gb_Rs 0 f p1) σ → gb_RS 1 (σ.1 (k1 + 1)) (gb_Rs 1 f p2) → gb_hc (cs_Face_who_58 n mm σ p3 p4 k0 k1 (fA 0 23) 0) (fun _ r => r = q))
theorem m_who {n : Nat} {f : gb_F} {w : Int64} {p1 p2 p3 p4 : Int32} (hn : gb_N ≤ n) (hM : gb_TM f) : gb_hm (ms_who n f w p1 p2 p3 p4) (fun _ _ q => gb_W n f p1 p2 p3 p4 q) := by
  unfold ms_who
  refine hm_bd (mh_areTold hM) (fun f1 w1 r g => hm_if (fun c => hm_some (Or.inl ⟨fun z => (yn_0 g c) z.1, rfl⟩)) (fun c => ?_))
  obtain ⟨a, b1, b2, b3, b4, m, b5⟩ := yn_1 g c
  refine hm_bd (mbx_has b5.1) (fun f2 w2 r2 g2 => ?_)
  obtain ⟨q1, q2, g2⟩ := g2
  subst f2
  subst w2
  refine hm_if (fun d => hm_some (Or.inl ⟨fun z => (yn_0 g2 d) z.2, rfl⟩)) (fun d => ?_)
  obtain ⟨d1, d2, d3⟩ := yn_1 g2 d
  refine hm_bd (mh_ran hn b5 b2 b3 b1) (fun fA w2 u k => hm_lt (fun v5 e5 => ?_))
  obtain ⟨rn, km, nn⟩ := k
  obtain ⟨m2, pm⟩ := ran_PM rn
  have tA : gb_TM fA := by
    obtain ⟨_, _, _, _, _, _, _, _, t, _⟩ := rn
    exact t
  rw [e5]
  have all : ∀ k0 k1 : Nat, k0 + 1 < 109 → k1 + 1 < 109 → gb_hm (ms_who_34 n n fA w2 p3 p4 (fA 0 23) 0) _ := fun k0 k1 h0 h1 => m_who34 (k0 := k0) (k1 := k1) hn rn b5.2.2 (ran_le rn) d2 d3 h0 h1 n fA w2 0 0 pm tA nn (by decide)
  intro f9 w9 q9 e9
  exact Or.inr ⟨⟨a, d1⟩, fA, rn, fun k0 k1 mm σ h0 h1 hb hS => all k0 k1 h0 h1 f9 w9 q9 e9 mm σ hb hS⟩
theorem c_who {n : Nat} {σ : gb_S} {f : gb_F} {p1 p2 p3 p4 q : Int32} (h : gb_R σ f) (hM : gb_TM f) (H : gb_W n f p1 p2 p3 p4 q) : gb_hc (cs_Face_who n σ p1 p2 p3 p4) (fun _ r => r = q) := by
  have no : ¬ (gb_two f p1 p2 ∧ gb_i0 p3 (gb_Rs 0 f p1 0)) → (-1 : Int32) = q := fun z => by
    rcases H with y | y
    · exact y.2.symm
    · exact absurd y.1 z
  unfold cs_Face_who
  refine hc_cd (cy_border h hM) (fun s r g => ?_)
  obtain ⟨g0, g⟩ := g
  subst s
  refine hc_if (fun c => ?_) (fun c => ?_)
  · have nb : ¬ (gb_two f p1 p2 ∧ gb_i0 p3 (gb_Rs 0 f p1 0)) := fun z => by
      rcases g with y | y
      · exact y.2 z.1.1
      · exact y.1 c
    refine hc_cd (cy_night h hM) (fun s r2 g2 => ?_)
    exact hc_if (fun _ => hc_some (no nb)) (fun _ => hc_kk (fun _ => hc_some (no nb)))
  · rcases g with y | ⟨y1, y2, y3, y4, y5⟩
    · exact absurd y.1 c
    refine hc_kk (fun _ => hc_cd (cy_night h hM) (fun s r2 g2 => ?_))
    obtain ⟨g0, g2⟩ := g2
    subst s
    refine hc_if (fun c2 => hc_some (no (fun z => ?_))) (fun c2 => hc_kk (fun _ => ?_))
    · rcases g2 with y | y
      · exact y.2 z.1.2
      · exact y.1 c2
    · rcases g2 with z | ⟨z1, z2, z3, z4, z5⟩
      · exact absurd z.1 c2
      refine hc_cd (cbx_has y3) (fun s r3 g3 => ?_)
      obtain ⟨g0, g3⟩ := g3
      subst s
      refine hc_if (fun d => hc_some (no (fun z => (yn_0 g3 d) z.2))) (fun d => ?_)
      obtain ⟨d1, d2, d3⟩ := yn_1 g3 d
      rcases H with u | ⟨-, fA, rn, K⟩
      · exact absurd ⟨⟨y2, z2⟩, d1⟩ u.1
      refine hc_cd (r_out y4 z4 y5 z5 y3 z3 rn) (fun s r4 e => hc_if (fun c => absurd c (by rw [e.1]; decide)) (fun _ => hc_lt (fun v ev => ?_)))
      rw [e.2.2.1.2.2.2.2.1.2] at ev
      rw [ev]
      exact K r r2 n s y5 z5 e.2.1.2.1 e.2.1.2.2.1
theorem e_who {σ σ2 : gb_S} {f f2 : gb_F} {w w2 : Int64} {p1 p2 p3 p4 ra qa : Int32} (_ : gb_TC σ) (hM : gb_TM f) (h : gb_R σ f) (ec : cs_Face_who gb_N σ p1 p2 p3 p4 = some (σ2, ra)) (em : ms_who gb_N f w p1 p2 p3 p4 = some (f2, w2, qa)) : ra = qa := c_who h hM (m_who (Nat.le_refl _) hM _ _ _ em) _ _ ec
/-! LAME -/
theorem mk_1 {toe mi bo fr : Int32} : gb_mk toe mi bo 1 fr = 2 * gb_mk toe mi bo 0 fr := by
  unfold gb_mk
  rw [if_pos rfl, if_neg (show ¬ (0 : Int32) = 1 by decide)]
theorem mk_p {toe mi bo fr : Int32} (h1 : gb_iv 0 8 toe) (h2 : gb_iv 0 20 mi) (h3 : gb_iv 0 60 bo) : gb_iv 0 208 (gb_mk toe mi bo 0 fr) := by
  have it : gb_iv 0 20 (if bo < mi then bo else mi) := by
    by_cases c : bo < mi
    · rw [if_pos c]
      have := gi_lt c
      exact ⟨h3.1, by have := h2.2; omega⟩
    · rw [if_neg c]
      exact h2
  have im : (if bo < mi then bo else mi).toInt ≤ mi.toInt := by
    by_cases c : bo < mi
    · rw [if_pos c]
      have := gi_lt c
      omega
    · rw [if_neg c]
      exact Int.le_refl _
  unfold gb_mk
  rw [if_neg (show ¬ (0 : Int32) = 1 by decide)]
  generalize (if bo < mi then bo else mi) = tt at it im ⊢
  have i1 : gb_iv 0 40 (if fr = 0 then 2 * tt else 0) := gb_iite (gb_imul (a := 2) (b := 2) (by unfold gb_iv; decide) it (by decide)) (by unfold gb_iv; decide)
  have i2 : gb_iv 0 20 (mi - tt) := by
    have q1 := it.1
    have q2 := it.2
    have q3 := h2.1
    have q4 := h2.2
    unfold gb_iv
    rw [gb_tsub (by omega) (by omega)]
    omega
  have i3 : gb_iv 0 160 (toe * (mi - tt)) := gb_imul h1 i2 (by decide)
  exact gb_iadd i1 i3 (by decide)
theorem toe_8 {R : Nat → Int32} {g : Nat} (hR : gb_rB R) (hg : g < 8) : gb_iv 0 8 (gb_toe R g) := by
  have t0 := rB_to (i := 0) hR hg (by decide)
  have t1 := rB_to (i := 1) hR hg (by decide)
  rw [Nat.add_zero] at t0
  exact gb_iadd t0 t1 (by decide)
def gb_fb (R : Nat → Int32) (g p : Nat) : Int32 := gb_mk (gb_toe R g) (R (3 + 3 * p)) (R (18 + 5 * g + 2)) 0 0
theorem fb_i {R : Nat → Int32} {g p : Nat} (hR : gb_rB R) (hg : g < 8) (hp : p < 5) : gb_iv 0 208 (gb_fb R g p) := mk_p (toe_8 hR hg) (rB_mi hR hp) (rB_bo hR hg)
theorem fm_E {R : Nat → Int32} {g p : Nat} (hR : gb_rB R) (hg : g < 8) : gb_fm R g p = if R (18 + 5 * g + 3) = 1 then 2 * gb_fb R g p else gb_fb R g p := by
  unfold gb_fm gb_fb
  rcases gb_01 (rB_li hR hg) with e | e
  · rw [e, if_neg (by decide)]
  · rw [e, if_pos rfl, mk_1]
theorem fm_i {R : Nat → Int32} {g p : Nat} (hR : gb_rB R) (hg : g < 8) (hp : p < 5) : gb_iv 0 416 (gb_fm R g p) := by
  rw [fm_E hR hg]
  exact gb_iite (gb_imul (a := 2) (b := 2) (by unfold gb_iv; decide) (fb_i hR hg hp) (by decide)) (gb_iw (fb_i hR hg hp) (by decide))
theorem half_E {x : Int32} (h : gb_iv 0 208 x) : 2 * x / 2 = x := by
  have h1 := h.1
  have h2 := h.2
  have c2 : (2 : Int32).toInt = 2 := by decide
  have m : (2 * x).toInt = 2 * x.toInt := by rw [gb_tmul (by rw [c2]; omega) (by rw [c2]; omega), c2]
  apply gb_ieq
  rw [gb_tdiv (gb_it _) (gb_ic c2) (by decide), m, c2, Int.tdiv_eq_ediv_of_nonneg (by omega)]
  omega
def gb_ls1 (R : Nat → Int32) (p : Nat) : Nat → Int32
  | 0 => 0
  | g + 1 => gb_ls1 R p g + gb_fm R g p
def gb_ls0 (R : Nat → Int32) (p : Nat) : Nat → Int32
  | 0 => 0
  | g + 1 => gb_ls0 R p g + gb_fb R g p
def gb_lm (R : Nat → Int32) (p : Nat) : Int32 := gb_py R p (gb_ls1 R p (gb_nG R)) - gb_py R p (gb_ls0 R p (gb_nG R))
theorem ch_lame64 {n k0 p : Nat} {σ : gb_S} {R : Nat → Int32} {v2 : Int32} (hb : gb_cbx k0 R σ) (hR : gb_rB R) (e2 : v2.toInt = p) (hp : p < gb_nP R) : ∀ (mm : Nat) (a b x : Int32) (k : Nat), x.toInt = k → k ≤ gb_nG R → a = gb_ls1 R p k → b = gb_ls0 R p k → gb_hc (cs_Face_lame_64 n mm σ v2 k0 a b x) (fun _ r => r = gb_lm R p) := by
  have h8 := (rB_nG hR).2
  have gE := (rB_nG hR).1
  have h5 := (rB_nP hR).2
  intro mm
  induction mm with
  | zero =>
    intros
    exact hc_none
  | succ mm ih =>
    intro a b x k e hk ea eb
    rw [cs_Face_lame_64]
    refine hc_kk (fun _ => hc_cd ch_geese (fun s r g => ?_))
    obtain ⟨g1, g2⟩ := g
    subst s
    have eR : σ.1 (k0 + 1) 1 = R 1 := (hb.2.1 rfl).1
    rw [eR] at g2
    subst g2
    refine hc_if (fun c => ?_) (fun c => ?_)
    · have := gi_le c
      refine hc_cd (ch_payOf hb hR e2 hp) (fun s r g => ?_)
      obtain ⟨g1, g2⟩ := g
      subst s
      refine hc_cd (ch_payOf hb hR e2 hp) (fun s r2 g => hc_some ?_)
      unfold gb_lm
      rw [g2, g.2, ea, eb, show k = gb_nG R by omega]
    · have c' := gi_nle c
      have hkc : k < gb_nG R := by omega
      refine hc_cd (ch_marksFirst hb hR e hkc e2 hp) (fun s r g => ?_)
      obtain ⟨g1, g2⟩ := g
      subst s
      subst g2
      refine hc_lt (fun a2 ea2 => hc_cd (ch_limps hb hR e hkc) (fun s r g => ?_))
      obtain ⟨g1, g2⟩ := g
      subst s
      have s1 : gb_ls1 R p (k + 1) = gb_ls1 R p k + gb_fm R k p := rfl
      have s0 : gb_ls0 R p (k + 1) = gb_ls0 R p k + gb_fb R k p := rfl
      refine hc_if (fun d => hc_lt (fun b2 eb2 => hc_lt (fun x2 ex2 => ih a2 b2 x2 (k + 1) (gi_1 e (by omega) ex2) (by omega) (by rw [ea2, ea, s1]) ?_))) (fun d => hc_lt (fun y ey => hc_lt (fun b2 eb2 => hc_lt (fun x2 ex2 => ih a2 b2 x2 (k + 1) (gi_1 e (by omega) ex2) (by omega) (by rw [ea2, ea, s1]) ?_))))
      · rcases g2 with q | q
        · rw [d] at q
          exact absurd q.1 (by decide)
        · rw [eb2, eb, s0, fm_E hR (by omega), if_neg q.2]
      · rcases g2 with q | q
        · rw [eb2, eb, s0, ey, fm_E hR (by omega), if_pos q.2, half_E (fb_i hR (by omega) (by omega))]
        · exact absurd q.1 d
theorem mh_lamePay {n m p : Nat} {f : gb_F} {w : Int64} {R : Nat → Int32} {x y : Int32} (h : gb_mbx m R f) (e : x.toInt = p) (hp : p < 5) : gb_hm (ms_lamePay n f w x y) (fun f2 w2 r => f2 = f ∧ w2 = w ∧ r = gb_py R p (if y = 0 then gb_ls0 R p (gb_nG R) else gb_ls1 R p (gb_nG R))) := by
  have hR := mbx_rB h
  have h8 := (rB_nG hR).2
  have gE := (rB_nG hR).1
  have go : ∀ (mm : Nat) (a v : Int32) (k : Nat), v.toInt = k → k ≤ gb_nG R → a = (if y = 0 then gb_ls0 R p k else gb_ls1 R p k) → gb_hm (ms_lamePay_5 n mm f w x y a v) (fun f2 w2 r => f2 = f ∧ w2 = w ∧ r = gb_py R p (if y = 0 then gb_ls0 R p (gb_nG R) else gb_ls1 R p (gb_nG R))) := by
    intro mm
    induction mm with
    | zero =>
      intros
      exact hm_none
    | succ mm ih =>
      intro a v k ev hk ea
      rw [ms_lamePay_5]
      refine hm_bd (mx_geese h) (fun f1 w1 r g => ?_)
      obtain ⟨g1, g2, g3⟩ := g
      subst f1
      subst w1
      subst g3
      refine hm_if (fun c => ?_) (fun c => ?_)
      · have := gi_le c
        refine hm_bd (mx_ofPath h e (by omega) (j := 1) (by decide) (by decide)) (fun f1 w1 r g => ?_)
        obtain ⟨g1, g2, g3⟩ := g
        subst f1
        subst w1
        refine hm_bd (mx_padded h e (by omega)) (fun f1 w1 r2 g => hm_some ⟨g.1, g.2.1, ?_⟩)
        rw [g.2.2, g3, ea, show k = gb_nG R by omega]
        rfl
      · have c' := gi_nle c
        refine hm_bd (mx_ofPath h e (by omega) (j := 0) (by decide) (by decide)) (fun f1 w1 r g => ?_)
        obtain ⟨g1, g2, g3⟩ := g
        subst f1
        subst w1
        rw [Nat.add_zero] at g3
        subst g3
        refine hm_bd (mx_ofGoose h ev (by omega) (j := 2) (by decide) (by decide)) (fun f1 w1 r g => ?_)
        obtain ⟨g1, g2, g3⟩ := g
        subst f1
        subst w1
        subst g3
        refine hm_if (fun d => hm_bd (mx_left h ev (by omega) (by unfold gb_iv; decide)) (fun f1 w1 r g => ?_)) (fun d => hm_bd (mx_ofGoose h ev (by omega) (j := 3) (by decide) (by decide)) (fun f1 w1 r g => ?_))
        · obtain ⟨g1, g2, g3⟩ := g
          subst f1
          subst w1
          refine hm_lt (fun a2 ea2 => hm_lt (fun x2 ex2 => ih a2 x2 (k + 1) (gi_1 ev (by omega) ex2) (by omega) ?_))
          rw [if_pos d] at ea ⊢
          rw [ea2, ea, g3]
          rfl
        · obtain ⟨g1, g2, g3⟩ := g
          subst f1
          subst w1
          subst g3
          refine hm_bd (mx_left h ev (by omega) (rB_li hR (by omega))) (fun f1 w1 r g => ?_)
          obtain ⟨g1, g2, g3⟩ := g
          subst f1
          subst w1
          refine hm_lt (fun a2 ea2 => hm_lt (fun x2 ex2 => ih a2 x2 (k + 1) (gi_1 ev (by omega) ex2) (by omega) ?_))
          rw [if_neg d] at ea ⊢
          rw [ea2, ea, g3]
          rfl
  unfold ms_lamePay
  refine go n 0 0 0 (by decide) (Nat.zero_le _) ?_
  by_cases c : y = 0
  · rw [if_pos c]
    rfl
  · rw [if_neg c]
    rfl
/-! the best path of one -/
theorem py_i {R : Nat → Int32} {p : Nat} {x : Int32} (hR : gb_rB R) (hp : p < 5) (h : gb_iv 0 416 x) : gb_iv 0 10000 (gb_py R p x) := by
  have i1 : gb_iv 0 3744 (x * R (3 + 3 * p + 2)) := gb_imul h (rB_pa hR hp) (by decide)
  have i2 : gb_iv 0 374 (x * R (3 + 3 * p + 2) / 10) := gb_idivc i1 (v := 10) (by decide) (by decide)
  have i3 : gb_iv 0 790 (gb_pd R p x) := gb_iadd h i2 (by decide)
  exact gb_imul (rB_ra hR hp) i3 (by decide)
def gb_bpv (R : Nat → Int32) (g : Nat) : Nat → Int × Int32
  | 0 => (-1, -1)
  | k + 1 => if gb_py R k (gb_fm R g k) ≤ (gb_bpv R g k).2 then gb_bpv R g k else ((k : Int), gb_py R k (gb_fm R g k))
theorem bpv_b {R : Nat → Int32} {g : Nat} : ∀ k, ((gb_bpv R g k).1 = -1 ∧ (gb_bpv R g k).2 = -1) ∨ 0 ≤ (gb_bpv R g k).1 := by
  intro k
  induction k with
  | zero => exact Or.inl ⟨rfl, rfl⟩
  | succ k ih =>
    have e : gb_bpv R g (k + 1) = if gb_py R k (gb_fm R g k) ≤ (gb_bpv R g k).2 then gb_bpv R g k else ((k : Int), gb_py R k (gb_fm R g k)) := rfl
    by_cases c : gb_py R k (gb_fm R g k) ≤ (gb_bpv R g k).2
    · rw [if_pos c] at e
      rw [e]
      exact ih
    · rw [if_neg c] at e
      rw [e]
      exact Or.inr (Int.natCast_nonneg k)
theorem ch_bestPath {n k0 g : Nat} {σ : gb_S} {R : Nat → Int32} {v1 : Int32} (hb : gb_cbx k0 R σ) (hR : gb_rB R) (e1 : v1.toInt = g) (hg : g < gb_nG R) : gb_hc (cs_Face_bestPath_B n σ k0 v1) (fun _ r => r.toInt = (gb_bpv R g (gb_nP R)).1) := by
  have h8 := (rB_nG hR).2
  have h5 := (rB_nP hR).2
  have pE := (rB_nP hR).1
  have go : ∀ (mm : Nat) (a b x : Int32) (k : Nat), x.toInt = k → k ≤ gb_nP R → a = (gb_bpv R g k).2 → b.toInt = (gb_bpv R g k).1 → gb_hc (cs_Face_bestPath_B_7 n mm σ k0 v1 a b x) (fun _ r => r.toInt = (gb_bpv R g (gb_nP R)).1) := by
    intro mm
    induction mm with
    | zero =>
      intros
      exact hc_none
    | succ mm ih =>
      intro a b x k e hk ea eb
      rw [cs_Face_bestPath_B_7]
      refine hc_kk (fun _ => hc_cd ch_paths (fun s r q => ?_))
      obtain ⟨g1, g2⟩ := q
      subst s
      have eR : σ.1 (k0 + 1) 0 = R 0 := hb.1
      rw [eR] at g2
      subst g2
      refine hc_if (fun c => hc_some ?_) (fun c => ?_)
      · have := gi_le c
        rw [eb, show k = gb_nP R by omega]
      · have c' := gi_nle c
        have hkc : k < gb_nP R := by omega
        have st : gb_bpv R g (k + 1) = if gb_py R k (gb_fm R g k) ≤ (gb_bpv R g k).2 then gb_bpv R g k else ((k : Int), gb_py R k (gb_fm R g k)) := rfl
        refine hc_cd (ch_marksFirst hb hR e1 hg e hkc) (fun s r q => ?_)
        obtain ⟨g1, g2⟩ := q
        subst s
        subst g2
        refine hc_cd (ch_payOf hb hR e hkc) (fun s r q => ?_)
        obtain ⟨g1, g2⟩ := q
        subst s
        subst g2
        refine hc_if (fun d => hc_lt (fun x2 ex2 => ih a b x2 (k + 1) (gi_1 e (by omega) ex2) (by omega) ?_ ?_)) (fun d => hc_lt (fun x2 ex2 => ih _ x x2 (k + 1) (gi_1 e (by omega) ex2) (by omega) ?_ ?_))
        · rw [st, if_pos (by rw [← ea]; exact d)]
          exact ea
        · rw [st, if_pos (by rw [← ea]; exact d)]
          exact eb
        · rw [st, if_neg (by rw [← ea]; exact d)]
        · rw [st, if_neg (by rw [← ea]; exact d)]
          exact e
  unfold cs_Face_bestPath_B
  exact hc_kk (fun _ => go n (-1) (-1) 0 0 (by decide) (Nat.zero_le _) rfl (show ((-1 : Int32)).toInt = (-1 : Int) by decide))
theorem mh_bestPath {n m g : Nat} {f : gb_F} {w : Int64} {R : Nat → Int32} {v1 : Int32} (h : gb_mbx m R f) (e1 : v1.toInt = g) (hg : g < gb_nG R) : gb_hm (ms_bestPath n f w v1) (fun _ _ r => r.toInt = (gb_bpv R g (gb_nP R)).1) := by
  have hR := mbx_rB h
  have h8 := (rB_nG hR).2
  have h5 := (rB_nP hR).2
  have pE := (rB_nP hR).1
  have z0 : (0 : Int32).toInt = 0 := by decide
  have z1 : (-1 : Int32).toInt = -1 := by decide
  have go : ∀ (mm : Nat) (a b x : Int32) (k : Nat), x.toInt = k → k ≤ gb_nP R → b.toInt = (gb_bpv R g k).1 → (0 ≤ (gb_bpv R g k).1 → a = (gb_bpv R g k).2) → gb_hm (ms_bestPath_7 n mm f w v1 b a x) (fun _ _ r => r.toInt = (gb_bpv R g (gb_nP R)).1) := by
    intro mm
    induction mm with
    | zero =>
      intros
      exact hm_none
    | succ mm ih =>
      intro a b x k e hk eb ea
      rw [ms_bestPath_7]
      refine hm_bd (mx_paths h) (fun f1 w1 r q => ?_)
      obtain ⟨g1, g2, g3⟩ := q
      subst f1
      subst w1
      subst g3
      refine hm_if (fun c => hm_some ?_) (fun c => ?_)
      · have := gi_le c
        rw [eb, show k = gb_nP R by omega]
      · have c' := gi_nle c
        have hkc : k < gb_nP R := by omega
        have st : gb_bpv R g (k + 1) = if gb_py R k (gb_fm R g k) ≤ (gb_bpv R g k).2 then gb_bpv R g k else ((k : Int), gb_py R k (gb_fm R g k)) := rfl
        have pi := py_i hR (p := k) (by omega) (fm_i hR (g := g) (p := k) (by omega) (by omega))
        have p0 := pi.1
        refine hm_bd (mx_ofPath h e (by omega) (j := 1) (by decide) (by decide)) (fun f1 w1 r q => ?_)
        obtain ⟨g1, g2, g3⟩ := q
        subst f1
        subst w1
        refine hm_bd (mx_firstMarks h e1 (by omega) e (by omega)) (fun f1 w1 r2 q => ?_)
        obtain ⟨g1, g2, g4⟩ := q
        subst f1
        subst w1
        refine hm_bd (mx_padded h e (by omega)) (fun f1 w1 r3 q => ?_)
        obtain ⟨g1, g2, g5⟩ := q
        subst f1
        subst w1
        refine hm_lt (fun y ey => ?_)
        have eY : y = gb_py R k (gb_fm R g k) := by
          rw [ey, g3, g5, g4]
          rfl
        have take : ¬ gb_py R k (gb_fm R g k) ≤ (gb_bpv R g k).2 → ∀ x2 : Int32, x2 = x + 1 → gb_hm (ms_bestPath_7 n mm f w v1 x y x2) (fun _ _ r => r.toInt = (gb_bpv R g (gb_nP R)).1) := by
          intro q x2 ex2
          refine ih y x x2 (k + 1) (gi_1 e (by omega) ex2) (by omega) ?_ (fun _ => ?_)
          · rw [st, if_neg q]
            exact e
          · rw [st, if_neg q]
            exact eY
        refine hm_if (fun d => hm_lt (fun x2 ex2 => take ?_ x2 ex2)) (fun d => hm_if (fun d2 => hm_lt (fun x2 ex2 => take ?_ x2 ex2)) (fun d2 => hm_lt (fun x2 ex2 => ?_)))
        · have := gi_lt d
          rcases bpv_b (R := R) (g := g) k with u | u
          · intro q
            have q' := gi_le q
            rw [u.2] at q'
            omega
          · omega
        · have dn := gi_nlt d
          have a' := ea (by omega)
          intro q
          have q' := gi_le q
          have d2' := gi_lt d2
          rw [a', eY] at d2'
          omega
        · have dn := gi_nlt d
          have a' := ea (by omega)
          have q : gb_py R k (gb_fm R g k) ≤ (gb_bpv R g k).2 := by
            have d2' := gi_nlt d2
            rw [a', eY] at d2'
            exact Int32.le_iff_toInt_le.mpr d2'
          refine ih a b x2 (k + 1) (gi_1 e (by omega) ex2) (by omega) ?_ (fun u => ?_)
          · rw [st, if_pos q]
            exact eb
          · rw [st, if_pos q]
            exact a'
  unfold ms_bestPath
  exact go n 0 (-1) 0 0 (by decide) (Nat.zero_le _) (show ((-1 : Int32)).toInt = (-1 : Int) by decide) (fun u => absurd u (show ¬ (0 : Int) ≤ -1 by decide))
/-! lame -/
def gb_LM (f : gb_F) (p1 p2 p3 q : Int32) : Prop := (¬ gb_i0 p1 (f 1 0) ∧ q = -1) ∨ (gb_i0 p1 (f 1 0) ∧ ((¬ (0 ≤ p3.toInt ∧ p3.toInt ≤ 7) ∧ ((¬ gb_i0 p2 (gb_Rs 0 f p1 0) ∧ q = -1) ∨ (gb_i0 p2 (gb_Rs 0 f p1 0) ∧ q = gb_lm (gb_Rs 0 f p1) p2.toInt.toNat))) ∨ ((0 ≤ p3.toInt ∧ p3.toInt ≤ 7) ∧ ((¬ gb_i0 p3 (gb_Rs 0 f p1 1) ∧ q = -1) ∨ (gb_i0 p3 (gb_Rs 0 f p1 1) ∧ q.toInt = (gb_bpv (gb_Rs 0 f p1) p3.toInt.toNat (gb_nP (gb_Rs 0 f p1))).1)))))
theorem L_uq {f : gb_F} {p1 p2 p3 q r : Int32} (a : gb_LM f p1 p2 p3 q) (b : gb_LM f p1 p2 p3 r) : q = r := by
  rcases a with a | ⟨a0, a⟩
  · rcases b with b | b
    · rw [a.2, b.2]
    · exact absurd b.1 a.1
  · rcases b with b | ⟨b0, b⟩
    · exact absurd a0 b.1
    · rcases a with ⟨a1, a⟩ | ⟨a1, a⟩
      · rcases b with ⟨b1, b⟩ | ⟨b1, b⟩
        · rcases a with a | a
          · rcases b with b | b
            · rw [a.2, b.2]
            · exact absurd b.1 a.1
          · rcases b with b | b
            · exact absurd a.1 b.1
            · rw [a.2, b.2]
        · exact absurd b1 a1
      · rcases b with ⟨b1, b⟩ | ⟨b1, b⟩
        · exact absurd a1 b1
        · rcases a with a | a
          · rcases b with b | b
            · rw [a.2, b.2]
            · exact absurd b.1 a.1
          · rcases b with b | b
            · exact absurd a.1 b.1
            · exact gb_ieq (a.2.trans b.2.symm)
theorem c_lame {n : Nat} {σ : gb_S} {f : gb_F} {p1 p2 p3 : Int32} (h : gb_R σ f) (hM : gb_TM f) : gb_hc (cs_Face_lame n σ p1 p2 p3) (fun _ r => gb_LM f p1 p2 p3 r) := by
  have z0 : (0 : Int32).toInt = 0 := by decide
  have z8 : (8 : Int32).toInt = 8 := by decide
  unfold cs_Face_lame
  refine hc_cd (cy_border h hM) (fun s r g => ?_)
  obtain ⟨g0, g⟩ := g
  subst s
  refine hc_if (fun c => hc_some (Or.inl ⟨fun z => ?_, rfl⟩)) (fun c => ?_)
  · rcases g with y | y
    · exact y.2 z
    · exact y.1 c
  · rcases g with y | ⟨y1, y2, y3, y4, y5⟩
    · exact absurd y.1 c
    have path : ¬ (0 ≤ p3.toInt ∧ p3.toInt ≤ 7) → gb_hc (gb_cd (cs_Border_hasPath_B n σ r p2) (fun s_8 r_9 => (if r_9 = 0 then some (s_8, (-1)) else cs_Face_lame_64 n n s_8 p2 r 0 0 0))) (fun _ r => gb_LM f p1 p2 p3 r) := by
      intro nn
      refine hc_cd (cbx_has y3) (fun s r2 g2 => ?_)
      obtain ⟨g0, g2⟩ := g2
      subst s
      refine hc_if (fun d => hc_some (Or.inr ⟨y2, Or.inl ⟨nn, Or.inl ⟨yn_0 g2 d, rfl⟩⟩⟩)) (fun d => ?_)
      obtain ⟨d1, d2, d3⟩ := yn_1 g2 d
      exact hc_mono (ch_lame64 y3 y4 d2 d3 n 0 0 0 0 (by decide) (Nat.zero_le _) rfl rfl) (fun s r e => Or.inr ⟨y2, Or.inl ⟨nn, Or.inr ⟨d1, e⟩⟩⟩)
    refine hc_kk (fun _ => hc_if (fun d => path (fun z => by have := gi_lt d; omega)) (fun d => hc_if (fun d2 => path (fun z => by have := gi_le d2; omega)) (fun d2 => ?_)))
    have i7 : 0 ≤ p3.toInt ∧ p3.toInt ≤ 7 := by
      have := gi_nlt d
      have := gi_nle d2
      omega
    refine hc_cd (cbx_hasG y3) (fun s r2 g2 => ?_)
    obtain ⟨g0, g2⟩ := g2
    subst s
    refine hc_if (fun e => hc_some (Or.inr ⟨y2, Or.inr ⟨i7, Or.inl ⟨yn_0 g2 e, rfl⟩⟩⟩)) (fun e => ?_)
    obtain ⟨e1, e2, e3⟩ := yn_1 g2 e
    exact hc_cd (ch_bestPath y3 y4 e2 e3) (fun s r q => hc_some (Or.inr ⟨y2, Or.inr ⟨i7, Or.inr ⟨e1, q⟩⟩⟩))
theorem m_lame {n : Nat} {f : gb_F} {w : Int64} {p1 p2 p3 : Int32} (hM : gb_TM f) : gb_hm (ms_lame n f w p1 p2 p3) (fun _ _ q => gb_LM f p1 p2 p3 q) := by
  have z0 : (0 : Int32).toInt = 0 := by decide
  have z7 : (7 : Int32).toInt = 7 := by decide
  unfold ms_lame
  refine hm_bd (mx_isBorder hM) (fun f1 w1 r g => ?_)
  obtain ⟨-, -, hM1, g⟩ := g
  refine hm_if (fun c => hm_some (Or.inl ⟨yn_0 g c, rfl⟩)) (fun c => ?_)
  obtain ⟨g2, m, g3⟩ := yn_1 g c
  have g4 := mbx_rB g3
  have h5 := (rB_nP g4).2
  refine hm_bd mh_isIn (fun f2 w2 r2 q => ?_)
  obtain ⟨q1, q2, q3⟩ := q
  subst f2
  subst w2
  rw [z0, z7] at q3
  refine hm_if (fun d => ?_) (fun d => ?_)
  · have nn : ¬ (0 ≤ p3.toInt ∧ p3.toInt ≤ 7) := fun z => by
      rcases q3 with y | y
      · rw [d] at y
        exact absurd y.1 (by decide)
      · omega
    refine hm_bd (mbx_has g3) (fun f2 w2 r3 k => ?_)
    obtain ⟨k1, k2, k⟩ := k
    subst f2
    subst w2
    refine hm_if (fun e => hm_some (Or.inr ⟨g2, Or.inl ⟨nn, Or.inl ⟨yn_0 k e, rfl⟩⟩⟩)) (fun e => ?_)
    obtain ⟨e1, e2, e3⟩ := yn_1 k e
    refine hm_bd (mh_lamePay g3 e2 (by omega)) (fun f2 w2 r4 u => ?_)
    obtain ⟨u1, u2, u3⟩ := u
    subst f2
    subst w2
    refine hm_bd (mh_lamePay g3 e2 (by omega)) (fun f2 w2 r5 v => hm_some (Or.inr ⟨g2, Or.inl ⟨nn, Or.inr ⟨e1, ?_⟩⟩⟩))
    rw [u3, v.2.2, if_neg (by decide), if_pos rfl]
    rfl
  · have i7 : 0 ≤ p3.toInt ∧ p3.toInt ≤ 7 := by
      rcases q3 with y | y
      · exact y.2
      · exact absurd y.1 d
    refine hm_bd (mbx_hasG g3) (fun f2 w2 r3 k => ?_)
    obtain ⟨k1, k2, k⟩ := k
    subst f2
    subst w2
    refine hm_if (fun e => hm_some (Or.inr ⟨g2, Or.inr ⟨i7, Or.inl ⟨yn_0 k e, rfl⟩⟩⟩)) (fun e => ?_)
    obtain ⟨e1, e2, e3⟩ := yn_1 k e
    exact hm_bd (mh_bestPath g3 e2 e3) (fun f2 w2 r4 u => hm_some (Or.inr ⟨g2, Or.inr ⟨i7, Or.inr ⟨e1, u⟩⟩⟩))
theorem e_lame {σ σ2 : gb_S} {f f2 : gb_F} {w w2 : Int64} {p1 p2 p3 ra qa : Int32} (_ : gb_TC σ) (hM : gb_TM f) (h : gb_R σ f) (ec : cs_Face_lame gb_N σ p1 p2 p3 = some (σ2, ra)) (em : ms_lame gb_N f w p1 p2 p3 = some (f2, w2, qa)) : ra = qa := L_uq (c_lame h hM _ _ ec) (m_lame hM _ _ _ em)
