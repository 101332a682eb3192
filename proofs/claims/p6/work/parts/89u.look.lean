/-! LOOKING UP what is told: both sides; fault, count, border -/
theorem e_fault {σ σ2 : gb_S} {f f2 : gb_F} {w w2 : Int64} {p1 ra qa : Int32} (h : gb_R σ f) (ec : cs_Face_fault gb_N σ p1 = some (σ2, ra)) (em : ms_fault gb_N f w p1 = some (f2, w2, qa)) : ra = qa := by
  have t5 : Int32.toNatClampNeg 5 = 5 := by decide
  have t6 : Int32.toNatClampNeg 6 = 6 := by decide
  have e5 : σ.1 1 7 = f 1 5 := h.1.2.2.1
  have e6 : σ.1 1 8 = f 1 6 := h.1.2.2.2.1
  have hm : gb_hm (ms_fault gb_N f w p1) (fun _ _ r => r = if p1 = 0 then f 1 5 else if p1 = 1 then f 1 6 else -1) := by
    unfold ms_fault
    rw [t5, t6]
    refine hm_if (fun c => hm_lt (fun x ex => hm_some (by rw [if_pos c]; exact ex))) (fun c => hm_if (fun d => hm_lt (fun x ex => hm_some (by rw [if_neg c, if_pos d]; exact ex))) (fun d => hm_some (by rw [if_neg c, if_neg d])))
  have hc : gb_hc (cs_Face_fault gb_N σ p1) (fun _ r => r = if p1 = 0 then f 1 5 else if p1 = 1 then f 1 6 else -1) := by
    unfold cs_Face_fault
    refine hc_if (fun c => hc_some (by rw [if_pos c]; exact e5)) (fun c => hc_if (fun d => hc_some (by rw [if_neg c, if_pos d]; exact e6)) (fun d => hc_some (by rw [if_neg c, if_neg d])))
  rw [hc _ _ ec, hm _ _ _ em]
theorem e_count {σ σ2 : gb_S} {f f2 : gb_F} {w w2 : Int64} {p1 ra qa : Int32} (h : gb_R σ f) (ec : cs_Face_count gb_N σ p1 = some (σ2, ra)) (em : ms_count gb_N f w p1 = some (f2, w2, qa)) : ra = qa := by
  have c0 : (0 : Int32).toInt = 0 := by decide
  have c3 : (3 : Int32).toInt = 3 := by decide
  have c4 : (4 : Int32).toInt = 4 := by decide
  have hm : gb_hm (ms_count gb_N f w p1) (fun _ _ r => ((p1.toInt < 0 ∨ 3 < p1.toInt) ∧ r = -2) ∨ ∃ j : Nat, p1.toInt = j ∧ j < 4 ∧ r = f 1 j) := by
    unfold ms_count
    refine hm_bd mh_isIn (fun g u r g1 => ?_)
    obtain ⟨rfl, rfl, g1⟩ := g1
    refine hm_if (fun c => hm_some (Or.inl ⟨?_, rfl⟩)) (fun c => hm_ck (fun a b => hm_lt (fun x ex => hm_some (Or.inr ?_))))
    · rcases g1 with z | z
      · rw [c] at z
        exact absurd z.1 (by decide)
      · omega
    · rcases g1 with z | z
      · obtain ⟨j, ej, tj⟩ := gi_nn (x := p1) (by omega)
        exact ⟨j, ej, by omega, by rw [ex, tj]⟩
      · exact absurd z.1 c
  have hc : gb_hc (cs_Face_count gb_N σ p1) (fun _ r => ((p1.toInt < 0 ∨ 3 < p1.toInt) ∧ r = -2) ∨ ∃ j : Nat, p1.toInt = j ∧ j < 4 ∧ r = σ.1 22 j) := by
    unfold cs_Face_count
    refine hc_if (fun c => hc_some (Or.inl ⟨by have := gi_lt c; omega, rfl⟩)) (fun c => hc_if (fun d => hc_some (Or.inl ⟨by have := gi_le d; omega, rfl⟩)) (fun d => hc_ck (fun a b => hc_lt (fun x ex => hc_some (Or.inr ?_)))))
    have h1 := gi_nlt c
    have h2 := gi_nle d
    obtain ⟨j, ej, tj⟩ := gi_nn (x := p1) (by omega)
    exact ⟨j, ej, by omega, by rw [ex, tj]⟩
  rcases hc _ _ ec with ⟨a1, a2⟩ | ⟨j, a1, a2, a3⟩ <;> rcases hm _ _ _ em with ⟨b1, b2⟩ | ⟨k, b1, b2, b3⟩
  · rw [a2, b2]
  · omega
  · omega
  · have : j = k := by omega
    subst this
    rw [a3, b3]
    exact h.1.1 j a2
/-! the sheet of a number -/
def gb_Lk (s : Nat) (p : Int32) (h : Int32) (m : Nat) : Prop := p.toInt = m ∧ (m : Int) < h.toInt
def gb_Nk (p : Int32) (h : Int32) : Prop := p.toInt < 0 ∨ h.toInt ≤ p.toInt
theorem ch_borderAt {n : Nat} {σ : gb_S} {p1 : Int32} : gb_hc (cs_Face_borderAt n σ p1) (fun s r => s = σ ∧ ((r = 0 ∧ gb_Nk p1 (σ.1 22 0)) ∨ ∃ m : Nat, gb_Lk 0 p1 (σ.1 22 0) m ∧ m < 2 ∧ r = gb_o 0 m ∧ r ≠ 0)) := by
  unfold cs_Face_borderAt
  have c0 : (0 : Int32).toInt = 0 := by decide
  have t0 : Int32.toNatClampNeg 0 = 0 := by decide
  rw [t0]
  refine hc_if (fun c => hc_some ⟨rfl, Or.inl ⟨rfl, Or.inl (by have := gi_lt c; omega)⟩⟩) (fun c => hc_lt (fun x ex => hc_if (fun d => hc_some ⟨rfl, Or.inl ⟨rfl, Or.inr (by have := gi_le d; rw [ex] at this; exact this)⟩⟩) (fun d => hc_ck (fun a b => hc_lt (fun k ek => hc_kk (fun _ => hc_some ⟨rfl, Or.inr ?_⟩))))))
  have d1 := gi_nle d
  rw [ex] at d1
  obtain ⟨m, em, tm⟩ := gi_nn a
  have hm : m = 0 ∨ m = 1 := by omega
  refine ⟨m, ⟨em, by omega⟩, by omega, ?_, ?_⟩
  · rw [ek, tm]
    rcases hm with rfl | rfl <;> rfl
  · rw [ek, tm]
    rcases hm with rfl | rfl <;> decide
theorem ch_nightAt {n : Nat} {σ : gb_S} {p1 : Int32} : gb_hc (cs_Face_nightAt n σ p1) (fun s r => s = σ ∧ ((r = 0 ∧ gb_Nk p1 (σ.1 22 1)) ∨ ∃ m : Nat, gb_Lk 1 p1 (σ.1 22 1) m ∧ m < 2 ∧ r = gb_o 1 m ∧ r ≠ 0)) := by
  unfold cs_Face_nightAt
  have c0 : (0 : Int32).toInt = 0 := by decide
  have t0 : Int32.toNatClampNeg 1 = 1 := by decide
  rw [t0]
  refine hc_if (fun c => hc_some ⟨rfl, Or.inl ⟨rfl, Or.inl (by have := gi_lt c; omega)⟩⟩) (fun c => hc_lt (fun x ex => hc_if (fun d => hc_some ⟨rfl, Or.inl ⟨rfl, Or.inr (by have := gi_le d; rw [ex] at this; exact this)⟩⟩) (fun d => hc_ck (fun a b => hc_lt (fun k ek => hc_kk (fun _ => hc_some ⟨rfl, Or.inr ?_⟩))))))
  have d1 := gi_nle d
  rw [ex] at d1
  obtain ⟨m, em, tm⟩ := gi_nn a
  have hm : m = 0 ∨ m = 1 := by omega
  refine ⟨m, ⟨em, by omega⟩, by omega, ?_, ?_⟩
  · rw [ek, tm]
    rcases hm with rfl | rfl <;> rfl
  · rw [ek, tm]
    rcases hm with rfl | rfl <;> decide
theorem ch_lawAt {n : Nat} {σ : gb_S} {p1 : Int32} : gb_hc (cs_Face_lawAt n σ p1) (fun s r => s = σ ∧ ((r = 0 ∧ gb_Nk p1 (σ.1 22 2)) ∨ ∃ m : Nat, gb_Lk 2 p1 (σ.1 22 2) m ∧ m < 2 ∧ r = gb_o 2 m ∧ r ≠ 0)) := by
  unfold cs_Face_lawAt
  have c0 : (0 : Int32).toInt = 0 := by decide
  have t0 : Int32.toNatClampNeg 2 = 2 := by decide
  rw [t0]
  refine hc_if (fun c => hc_some ⟨rfl, Or.inl ⟨rfl, Or.inl (by have := gi_lt c; omega)⟩⟩) (fun c => hc_lt (fun x ex => hc_if (fun d => hc_some ⟨rfl, Or.inl ⟨rfl, Or.inr (by have := gi_le d; rw [ex] at this; exact this)⟩⟩) (fun d => hc_ck (fun a b => hc_lt (fun k ek => hc_kk (fun _ => hc_some ⟨rfl, Or.inr ?_⟩))))))
  have d1 := gi_nle d
  rw [ex] at d1
  obtain ⟨m, em, tm⟩ := gi_nn a
  have hm : m = 0 ∨ m = 1 := by omega
  refine ⟨m, ⟨em, by omega⟩, by omega, ?_, ?_⟩
  · rw [ek, tm]
    rcases hm with rfl | rfl <;> rfl
  · rw [ek, tm]
    rcases hm with rfl | rfl <;> decide
theorem ch_dawnAt {n : Nat} {σ : gb_S} {p1 : Int32} : gb_hc (cs_Face_dawnAt n σ p1) (fun s r => s = σ ∧ ((r = 0 ∧ gb_Nk p1 (σ.1 22 3)) ∨ ∃ m : Nat, gb_Lk 3 p1 (σ.1 22 3) m ∧ m < 2 ∧ r = gb_o 3 m ∧ r ≠ 0)) := by
  unfold cs_Face_dawnAt
  have c0 : (0 : Int32).toInt = 0 := by decide
  have t0 : Int32.toNatClampNeg 3 = 3 := by decide
  rw [t0]
  refine hc_if (fun c => hc_some ⟨rfl, Or.inl ⟨rfl, Or.inl (by have := gi_lt c; omega)⟩⟩) (fun c => hc_lt (fun x ex => hc_if (fun d => hc_some ⟨rfl, Or.inl ⟨rfl, Or.inr (by have := gi_le d; rw [ex] at this; exact this)⟩⟩) (fun d => hc_ck (fun a b => hc_lt (fun k ek => hc_kk (fun _ => hc_some ⟨rfl, Or.inr ?_⟩))))))
  have d1 := gi_nle d
  rw [ex] at d1
  obtain ⟨m, em, tm⟩ := gi_nn a
  have hm : m = 0 ∨ m = 1 := by omega
  refine ⟨m, ⟨em, by omega⟩, by omega, ?_, ?_⟩
  · rw [ek, tm]
    rcases hm with rfl | rfl <;> rfl
  · rw [ek, tm]
    rcases hm with rfl | rfl <;> decide
theorem mh_isOf {n : Nat} {f : gb_F} {w : Int64} {p1 p2 : Int32} {s : Nat} (hM : gb_TM f) (e1 : p1.toInt = s) (hs : s < 4) : gb_hm (ms_isOf n f w p1 p2) (fun f2 w2 r => f2 = f ∧ w2 = w ∧ ((r = 0 ∧ gb_Nk p2 (f 1 s)) ∨ ∃ m : Nat, r = 1 ∧ gb_Lk s p2 (f 1 s) m ∧ m < 2)) := by
  unfold ms_isOf
  have c0 : (0 : Int32).toInt = 0 := by decide
  have c1 : (1 : Int32).toInt = 1 := by decide
  have i := hl_0 hM.2 hs
  have i1 := i.1
  have i2 := i.2
  rw [gi_tn e1]
  refine hm_ck (fun _ _ => hm_lt (fun x ex => hm_bd mh_isIn (fun g u r hg => hm_cb (fun _ => hm_some ⟨hg.1, hg.2.1, ?_⟩))))
  have e : (x - 1).toInt = (f 1 s).toInt - 1 := by
    rw [ex, gb_tsub (by omega) (by omega), c1]
  have h := hg.2.2
  rw [e, c0] at h
  rcases h with h | h
  · obtain ⟨m, em, -⟩ := gi_nn (x := p2) (by omega)
    exact Or.inr ⟨m, h.1, ⟨em, by omega⟩, by omega⟩
  · exact Or.inl ⟨h.1, by unfold gb_Nk; omega⟩
/-- the place of a border, night, law, dawn in the reference -/
def gb_mb (j : Nat) (s m : Nat) (f : gb_F) : Prop := (f 0 j).toInt = gb_pl s m
theorem mh_isBorder {n : Nat} {f : gb_F} {w : Int64} {p1 : Int32} (hM : gb_TM f) : gb_hm (ms_isBorder n f w p1) (fun f2 w2 r => w2 = w ∧ ((r = 0 ∧ f2 = f ∧ gb_Nk p1 (f 1 0)) ∨ ∃ m : Nat, r = 1 ∧ gb_Lk 0 p1 (f 1 0) m ∧ m < 2 ∧ gb_mb 11 0 m f2 ∧ ∃ v : Int32, f2 = gb_u f 0 (upd (f 0) 11 v))) := by
  unfold ms_isBorder
  refine hm_bd (mh_isOf hM (s := 0) (by decide) (by decide)) (fun g u r hg => ?_)
  obtain ⟨rfl, rfl, hg⟩ := hg
  refine hm_if (fun c => hm_some ⟨rfl, Or.inl ⟨rfl, rfl, ?_⟩⟩) (fun c => ?_)
  · rcases hg with z | ⟨m, z, -⟩
    · exact z.2
    · rw [c] at z
      exact absurd z (by decide)
  · rcases hg with z | ⟨m, z1, z2, z3⟩
    · exact absurd z.1 c
    · refine hm_bd (hm_of (mt_placeOfE (s := 0) (by decide) (by decide) z2.1 (by omega))) (fun g2 u2 r2 h2 => hm_lt (fun x ex => hm_some ⟨h2.2.1, Or.inr ⟨m, rfl, z2, z3, ?_, r2, ?_⟩⟩))
      · unfold gb_mb
        rw [ex, gb_us, pk_us]
        exact h2.2.2
      · rw [ex, h2.1]
theorem mh_of {n : Nat} {f : gb_F} {w : Int64} {p1 : Int32} {m j : Nat} (hb : gb_mb 11 0 m f) (hm : m < 2) (e : p1.toInt = j) (hj : j ≤ 1000) : gb_hm (ms_of n f w p1) (fun f2 w2 r => f2 = f ∧ w2 = w ∧ r = f 1 (gb_pl 0 m + j)) := by
  unfold ms_of
  have hb' : (f 0 11).toInt = gb_pl 0 m := hb
  have hp : gb_pl 0 m = 610 + 58 * m := rfl
  have e1 : ((f 0 11) + p1).toInt = ((gb_pl 0 m + j : Nat) : Int) := by
    rw [gb_tadd (by omega) (by omega), hb', e]
    omega
  rw [gi_tn e1]
  exact hm_ck (fun _ _ => hm_lt (fun x ex => hm_some ⟨rfl, rfl, ex⟩))
theorem mh_paths {n : Nat} {f : gb_F} {w : Int64} {m : Nat} (hb : gb_mb 11 0 m f) (hm : m < 2) : gb_hm (ms_paths n f w) (fun f2 w2 r => f2 = f ∧ w2 = w ∧ r = f 1 (gb_pl 0 m)) := by
  unfold ms_paths
  exact hm_bd (mh_of hb hm (j := 0) (by decide) (by decide)) (fun g u r h => hm_some h)
theorem mh_geese {n : Nat} {f : gb_F} {w : Int64} {m : Nat} (hb : gb_mb 11 0 m f) (hm : m < 2) : gb_hm (ms_geese n f w) (fun f2 w2 r => f2 = f ∧ w2 = w ∧ r = f 1 (gb_pl 0 m + 1)) := by
  unfold ms_geese
  exact hm_bd (mh_of hb hm (j := 1) (by decide) (by decide)) (fun g u r h => hm_some h)
theorem mh_ofPath {n : Nat} {f : gb_F} {w : Int64} {m p j : Nat} {p1 p2 : Int32} (hb : gb_mb 11 0 m f) (hm : m < 2) (e1 : p1.toInt = p) (hp : p ≤ 100) (e2 : p2.toInt = j) (hj : j ≤ 100) : gb_hm (ms_ofPath n f w p1 p2) (fun f2 w2 r => f2 = f ∧ w2 = w ∧ r = f 1 (gb_pl 0 m + (3 + 3 * p + j))) := by
  unfold ms_ofPath
  have c3 : (3 : Int32).toInt = 3 := by decide
  have m1 : (3 * p1).toInt = ((3 * p : Nat) : Int) := by
    rw [gb_tmul (by rw [c3, e1]; omega) (by rw [c3, e1]; omega), c3, e1]
    omega
  have m2 : (3 + 3 * p1).toInt = ((3 + 3 * p : Nat) : Int) := by
    rw [gb_tadd (by rw [c3, m1]; omega) (by rw [c3, m1]; omega), c3, m1]
    omega
  have m3 : (3 + 3 * p1 + p2).toInt = ((3 + 3 * p + j : Nat) : Int) := by
    rw [gb_tadd (by rw [m2, e2]; omega) (by rw [m2, e2]; omega), m2, e2]
    omega
  exact hm_bd (mh_of hb hm m3 (by omega)) (fun g u r h => hm_some h)
theorem mh_ofGoose {n : Nat} {f : gb_F} {w : Int64} {m p j : Nat} {p1 p2 : Int32} (hb : gb_mb 11 0 m f) (hm : m < 2) (e1 : p1.toInt = p) (hp : p ≤ 100) (e2 : p2.toInt = j) (hj : j ≤ 100) : gb_hm (ms_ofGoose n f w p1 p2) (fun f2 w2 r => f2 = f ∧ w2 = w ∧ r = f 1 (gb_pl 0 m + (18 + 5 * p + j))) := by
  unfold ms_ofGoose
  have c5 : (5 : Int32).toInt = 5 := by decide
  have c18 : (18 : Int32).toInt = 18 := by decide
  have m1 : (5 * p1).toInt = ((5 * p : Nat) : Int) := by
    rw [gb_tmul (by rw [c5, e1]; omega) (by rw [c5, e1]; omega), c5, e1]
    omega
  have m2 : (18 + 5 * p1).toInt = ((18 + 5 * p : Nat) : Int) := by
    rw [gb_tadd (by rw [c18, m1]; omega) (by rw [c18, m1]; omega), c18, m1]
    omega
  have m3 : (18 + 5 * p1 + p2).toInt = ((18 + 5 * p + j : Nat) : Int) := by
    rw [gb_tadd (by rw [m2, e2]; omega) (by rw [m2, e2]; omega), m2, e2]
    omega
  exact hm_bd (mh_of hb hm m3 (by omega)) (fun g u r h => hm_some h)
/-- there is one of that number below a count -/
def gb_lk (x c : Int32) (p : Nat) : Prop := x.toInt = p ∧ (p : Int) < c.toInt
def gb_nk (x c : Int32) : Prop := x.toInt < 0 ∨ c.toInt ≤ x.toInt
theorem mh_below {n : Nat} {f : gb_F} {w : Int64} {x c : Int32} (hc : gb_iv 0 1000 c) : gb_hm (ms_isIn n f w x 0 (c - 1)) (fun f2 w2 r => f2 = f ∧ w2 = w ∧ ((r = 0 ∧ gb_nk x c) ∨ ∃ p : Nat, r = 1 ∧ gb_lk x c p)) := by
  have c0 : (0 : Int32).toInt = 0 := by decide
  have c1 : (1 : Int32).toInt = 1 := by decide
  have i1 := hc.1
  have i2 := hc.2
  have e : (c - 1).toInt = c.toInt - 1 := by rw [gb_tsub (by omega) (by omega), c1]
  refine hm_mono mh_isIn (fun f2 w2 r h => ⟨h.1, h.2.1, ?_⟩)
  have g := h.2.2
  rw [e, c0] at g
  rcases g with g | g
  · obtain ⟨p, ep, -⟩ := gi_nn (x := x) (by omega)
    exact Or.inr ⟨p, g.1, ep, by omega⟩
  · exact Or.inl ⟨g.1, by unfold gb_nk; omega⟩
theorem mh_isPath {n : Nat} {f : gb_F} {w : Int64} {m : Nat} {x : Int32} (hM : gb_TM f) (hb : gb_mb 11 0 m f) (hm : m < 2) : gb_hm (ms_isPath n f w x) (fun f2 w2 r => f2 = f ∧ w2 = w ∧ ((r = 0 ∧ gb_nk x (f 1 (gb_pl 0 m))) ∨ ∃ p : Nat, r = 1 ∧ gb_lk x (f 1 (gb_pl 0 m)) p)) := by
  unfold ms_isPath
  have rg := (rg_F (q := 0) hM.2 (s := 0) (m := m) (by decide) (by omega)).1 rfl
  have i0 : gb_iv 0 1000 (f 1 (gb_pl 0 m)) := by
    have this : gb_iv 0 5 (f 1 (992 * 0 + (gb_pl 0 m + 0))) := rg.1
    have e : 992 * 0 + (gb_pl 0 m + 0) = gb_pl 0 m := by omega
    rw [e] at this
    exact gb_iw this (by decide)
  refine hm_bd (mh_paths hb hm) (fun g u r h => ?_)
  obtain ⟨rfl, rfl, rfl⟩ := h
  exact hm_bd (mh_below i0) (fun g2 u2 r2 h2 => hm_cb (fun _ => hm_some h2))
theorem mh_isGoose {n : Nat} {f : gb_F} {w : Int64} {m : Nat} {x : Int32} (hM : gb_TM f) (hb : gb_mb 11 0 m f) (hm : m < 2) : gb_hm (ms_isGoose n f w x) (fun f2 w2 r => f2 = f ∧ w2 = w ∧ ((r = 0 ∧ gb_nk x (f 1 (gb_pl 0 m + 1))) ∨ ∃ p : Nat, r = 1 ∧ gb_lk x (f 1 (gb_pl 0 m + 1)) p)) := by
  unfold ms_isGoose
  have rg := (rg_F (q := 0) hM.2 (s := 0) (m := m) (by decide) (by omega)).1 rfl
  have i0 : gb_iv 0 1000 (f 1 (gb_pl 0 m + 1)) := by
    have this : gb_iv 0 8 (f 1 (992 * 0 + (gb_pl 0 m + 1))) := rg.2
    have e : 992 * 0 + (gb_pl 0 m + 1) = gb_pl 0 m + 1 := by omega
    rw [e] at this
    exact gb_iw this (by decide)
  refine hm_bd (mh_geese hb hm) (fun g u r h => ?_)
  obtain ⟨rfl, rfl, rfl⟩ := h
  exact hm_bd (mh_below i0) (fun g2 u2 r2 h2 => hm_cb (fun _ => hm_some h2))
theorem ch_paths {n : Nat} {σ : gb_S} {k0 : Nat} : gb_hc (cs_Border_paths_B n σ k0) (fun s r => s = σ ∧ r = σ.1 (k0 + 1) 0) := by
  unfold cs_Border_paths_B
  exact hc_kk (fun _ => hc_lt (fun x ex => hc_some ⟨rfl, ex⟩))
theorem ch_geese {n : Nat} {σ : gb_S} {k0 : Nat} : gb_hc (cs_Border_geese_B n σ k0) (fun s r => s = σ ∧ r = σ.1 (k0 + 1) 1) := by
  unfold cs_Border_geese_B
  exact hc_kk (fun _ => hc_lt (fun x ex => hc_some ⟨rfl, ex⟩))
theorem ch_cap {n : Nat} {σ : gb_S} {k0 : Nat} : gb_hc (cs_Border_cap_B n σ k0) (fun s r => s = σ ∧ r = σ.1 (k0 + 1) 2) := by
  unfold cs_Border_cap_B
  exact hc_kk (fun _ => hc_lt (fun x ex => hc_some ⟨rfl, ex⟩))
theorem ch_hasPath {n : Nat} {σ : gb_S} {k0 : Nat} {x : Int32} : gb_hc (cs_Border_hasPath_B n σ k0 x) (fun s r => s = σ ∧ ((r = 0 ∧ gb_nk x (σ.1 (k0 + 1) 0)) ∨ ∃ p : Nat, r = 1 ∧ gb_lk x (σ.1 (k0 + 1) 0) p)) := by
  unfold cs_Border_hasPath_B
  have c0 : (0 : Int32).toInt = 0 := by decide
  refine hc_kk (fun _ => hc_if (fun c => hc_some ⟨rfl, Or.inl ⟨rfl, Or.inl (by have := gi_lt c; omega)⟩⟩) (fun c => hc_cd ch_paths (fun s r h => ?_)))
  obtain ⟨rfl, rfl⟩ := h
  have h1 := gi_nlt c
  refine hc_if (fun d => hc_some ⟨rfl, Or.inl ⟨rfl, Or.inr (gi_le d)⟩⟩) (fun d => hc_some ⟨rfl, Or.inr ?_⟩)
  obtain ⟨p, ep, -⟩ := gi_nn (x := x) (by omega)
  exact ⟨p, rfl, ep, by have := gi_nle d; omega⟩
theorem ch_hasGoose {n : Nat} {σ : gb_S} {k0 : Nat} {x : Int32} : gb_hc (cs_Border_hasGoose_B n σ k0 x) (fun s r => s = σ ∧ ((r = 0 ∧ gb_nk x (σ.1 (k0 + 1) 1)) ∨ ∃ p : Nat, r = 1 ∧ gb_lk x (σ.1 (k0 + 1) 1) p)) := by
  unfold cs_Border_hasGoose_B
  have c0 : (0 : Int32).toInt = 0 := by decide
  refine hc_kk (fun _ => hc_if (fun c => hc_some ⟨rfl, Or.inl ⟨rfl, Or.inl (by have := gi_lt c; omega)⟩⟩) (fun c => hc_cd ch_geese (fun s r h => ?_)))
  obtain ⟨rfl, rfl⟩ := h
  have h1 := gi_nlt c
  refine hc_if (fun d => hc_some ⟨rfl, Or.inl ⟨rfl, Or.inr (gi_le d)⟩⟩) (fun d => hc_some ⟨rfl, Or.inr ?_⟩)
  obtain ⟨p, ep, -⟩ := gi_nn (x := x) (by omega)
  exact ⟨p, rfl, ep, by have := gi_nle d; omega⟩
