/-! WHERE EVERYONE IS DOES NOT HANG ON WHAT IS SPARED -/
def gb_n4 (R NR : Nat → Int32) (f : gb_F) (k : Nat) : Nat → Int32 := if NR (1 + 4 * k) = 0 then upd (f 4) (NR (1 + 4 * k + 1)).toInt.toNat 1 else if NR (1 + 4 * k) = 1 then upd (f 4) (NR (1 + 4 * k + 1)).toInt.toNat 1 else if NR (1 + 4 * k) = 2 then upd (f 4) (NR (1 + 4 * k + 1)).toInt.toNat 0 else if NR (1 + 4 * k) = 3 then upd (upd (f 4) (NR (1 + 4 * k + 1)).toInt.toNat 1) (NR (1 + 4 * k + 2)).toInt.toNat 1 else if NR (1 + 4 * k) = 8 then upd (f 4) (gb_fox f (NR (1 + 4 * k + 1)).toInt.toNat (gb_nG R)).1.toNat 2 else f 4
def gb_n9 (R NR : Nat → Int32) (f : gb_F) (x : Int32) (k : Nat) : Nat → Int32 := if NR (1 + 4 * k) = 0 then upd (f 9) (5 * (NR (1 + 4 * k + 1)).toInt.toNat + (NR (1 + 4 * k + 2)).toInt.toNat) x else if NR (1 + 4 * k) = 1 then upd (f 9) (5 * (NR (1 + 4 * k + 1)).toInt.toNat + (NR (1 + 4 * k + 2)).toInt.toNat) x else if NR (1 + 4 * k) = 2 then upd (f 9) (5 * (NR (1 + 4 * k + 1)).toInt.toNat + (NR (1 + 4 * k + 2)).toInt.toNat) x else if NR (1 + 4 * k) = 3 then upd (f 9) (5 * (NR (1 + 4 * k + 1)).toInt.toNat + (NR (1 + 4 * k + 3)).toInt.toNat) x else f 9
theorem n4_0 {R NR : Nat → Int32} {f : gb_F} {k : Nat} (h : NR (1 + 4 * k) = 0) : gb_n4 R NR f k = upd (f 4) (NR (1 + 4 * k + 1)).toInt.toNat 1 := by
  unfold gb_n4
  rw [if_pos h]
theorem n9_0 {R NR : Nat → Int32} {f : gb_F} {x : Int32} {k : Nat} (h : NR (1 + 4 * k) = 0) : gb_n9 R NR f x k = upd (f 9) (5 * (NR (1 + 4 * k + 1)).toInt.toNat + (NR (1 + 4 * k + 2)).toInt.toNat) x := by
  unfold gb_n9
  rw [if_pos h]
theorem n4_1 {R NR : Nat → Int32} {f : gb_F} {k : Nat} (h : NR (1 + 4 * k) = 1) : gb_n4 R NR f k = upd (f 4) (NR (1 + 4 * k + 1)).toInt.toNat 1 := by
  unfold gb_n4
  rw [if_neg (by rw [h]; decide), if_pos h]
theorem n9_1 {R NR : Nat → Int32} {f : gb_F} {x : Int32} {k : Nat} (h : NR (1 + 4 * k) = 1) : gb_n9 R NR f x k = upd (f 9) (5 * (NR (1 + 4 * k + 1)).toInt.toNat + (NR (1 + 4 * k + 2)).toInt.toNat) x := by
  unfold gb_n9
  rw [if_neg (by rw [h]; decide), if_pos h]
theorem n4_2 {R NR : Nat → Int32} {f : gb_F} {k : Nat} (h : NR (1 + 4 * k) = 2) : gb_n4 R NR f k = upd (f 4) (NR (1 + 4 * k + 1)).toInt.toNat 0 := by
  unfold gb_n4
  rw [if_neg (by rw [h]; decide), if_neg (by rw [h]; decide), if_pos h]
theorem n9_2 {R NR : Nat → Int32} {f : gb_F} {x : Int32} {k : Nat} (h : NR (1 + 4 * k) = 2) : gb_n9 R NR f x k = upd (f 9) (5 * (NR (1 + 4 * k + 1)).toInt.toNat + (NR (1 + 4 * k + 2)).toInt.toNat) x := by
  unfold gb_n9
  rw [if_neg (by rw [h]; decide), if_neg (by rw [h]; decide), if_pos h]
theorem n4_3 {R NR : Nat → Int32} {f : gb_F} {k : Nat} (h : NR (1 + 4 * k) = 3) : gb_n4 R NR f k = upd (upd (f 4) (NR (1 + 4 * k + 1)).toInt.toNat 1) (NR (1 + 4 * k + 2)).toInt.toNat 1 := by
  unfold gb_n4
  rw [if_neg (by rw [h]; decide), if_neg (by rw [h]; decide), if_neg (by rw [h]; decide), if_pos h]
theorem n9_3 {R NR : Nat → Int32} {f : gb_F} {x : Int32} {k : Nat} (h : NR (1 + 4 * k) = 3) : gb_n9 R NR f x k = upd (f 9) (5 * (NR (1 + 4 * k + 1)).toInt.toNat + (NR (1 + 4 * k + 3)).toInt.toNat) x := by
  unfold gb_n9
  rw [if_neg (by rw [h]; decide), if_neg (by rw [h]; decide), if_neg (by rw [h]; decide), if_pos h]
theorem n4_4 {R NR : Nat → Int32} {f : gb_F} {k : Nat} (h : NR (1 + 4 * k) = 4) : gb_n4 R NR f k = f 4 := by
  unfold gb_n4
  rw [if_neg (by rw [h]; decide), if_neg (by rw [h]; decide), if_neg (by rw [h]; decide), if_neg (by rw [h]; decide), if_neg (by rw [h]; decide)]
theorem n9_4 {R NR : Nat → Int32} {f : gb_F} {x : Int32} {k : Nat} (h : NR (1 + 4 * k) = 4) : gb_n9 R NR f x k = f 9 := by
  unfold gb_n9
  rw [if_neg (by rw [h]; decide), if_neg (by rw [h]; decide), if_neg (by rw [h]; decide), if_neg (by rw [h]; decide)]
theorem n4_5 {R NR : Nat → Int32} {f : gb_F} {k : Nat} (h : NR (1 + 4 * k) = 5) : gb_n4 R NR f k = f 4 := by
  unfold gb_n4
  rw [if_neg (by rw [h]; decide), if_neg (by rw [h]; decide), if_neg (by rw [h]; decide), if_neg (by rw [h]; decide), if_neg (by rw [h]; decide)]
theorem n9_5 {R NR : Nat → Int32} {f : gb_F} {x : Int32} {k : Nat} (h : NR (1 + 4 * k) = 5) : gb_n9 R NR f x k = f 9 := by
  unfold gb_n9
  rw [if_neg (by rw [h]; decide), if_neg (by rw [h]; decide), if_neg (by rw [h]; decide), if_neg (by rw [h]; decide)]
theorem n4_6 {R NR : Nat → Int32} {f : gb_F} {k : Nat} (h : NR (1 + 4 * k) = 6) : gb_n4 R NR f k = f 4 := by
  unfold gb_n4
  rw [if_neg (by rw [h]; decide), if_neg (by rw [h]; decide), if_neg (by rw [h]; decide), if_neg (by rw [h]; decide), if_neg (by rw [h]; decide)]
theorem n9_6 {R NR : Nat → Int32} {f : gb_F} {x : Int32} {k : Nat} (h : NR (1 + 4 * k) = 6) : gb_n9 R NR f x k = f 9 := by
  unfold gb_n9
  rw [if_neg (by rw [h]; decide), if_neg (by rw [h]; decide), if_neg (by rw [h]; decide), if_neg (by rw [h]; decide)]
theorem n4_7 {R NR : Nat → Int32} {f : gb_F} {k : Nat} (h : NR (1 + 4 * k) = 7) : gb_n4 R NR f k = f 4 := by
  unfold gb_n4
  rw [if_neg (by rw [h]; decide), if_neg (by rw [h]; decide), if_neg (by rw [h]; decide), if_neg (by rw [h]; decide), if_neg (by rw [h]; decide)]
theorem n9_7 {R NR : Nat → Int32} {f : gb_F} {x : Int32} {k : Nat} (h : NR (1 + 4 * k) = 7) : gb_n9 R NR f x k = f 9 := by
  unfold gb_n9
  rw [if_neg (by rw [h]; decide), if_neg (by rw [h]; decide), if_neg (by rw [h]; decide), if_neg (by rw [h]; decide)]
theorem n4_8 {R NR : Nat → Int32} {f : gb_F} {k : Nat} (h : NR (1 + 4 * k) = 8) : gb_n4 R NR f k = upd (f 4) (gb_fox f (NR (1 + 4 * k + 1)).toInt.toNat (gb_nG R)).1.toNat 2 := by
  unfold gb_n4
  rw [if_neg (by rw [h]; decide), if_neg (by rw [h]; decide), if_neg (by rw [h]; decide), if_neg (by rw [h]; decide), if_pos h]
theorem n9_8 {R NR : Nat → Int32} {f : gb_F} {x : Int32} {k : Nat} (h : NR (1 + 4 * k) = 8) : gb_n9 R NR f x k = f 9 := by
  unfold gb_n9
  rw [if_neg (by rw [h]; decide), if_neg (by rw [h]; decide), if_neg (by rw [h]; decide), if_neg (by rw [h]; decide)]
def gb_e49 (f g : gb_F) : Prop := (∀ x, x < 8 → f 4 x = g 4 x) ∧ ∀ x p, x < 8 → p < 5 → f 9 (5 * x + p) = g 9 (5 * x + p)
theorem fox_e {f g : gb_F} {p : Nat} (h : gb_e49 f g) (hp : p < 5) : ∀ k, k ≤ 8 → gb_fox f p k = gb_fox g p k := by
  intro k
  induction k with
  | zero =>
    intro _
    rfl
  | succ k ih =>
    intro hk
    have e1 := h.1 k (by omega)
    have e2 := h.2 k p (by omega) hp
    show (if f 4 k = 2 ∨ f 9 (5 * k + p) = -1 then gb_fox f p k else if (gb_fox f p k).1 = -1 ∨ (gb_fox f p k).2 < (f 9 (5 * k + p)).toInt then ((k : Int), (f 9 (5 * k + p)).toInt) else gb_fox f p k) = (if g 4 k = 2 ∨ g 9 (5 * k + p) = -1 then gb_fox g p k else if (gb_fox g p k).1 = -1 ∨ (gb_fox g p k).2 < (g 9 (5 * k + p)).toInt then ((k : Int), (g 9 (5 * k + p)).toInt) else gb_fox g p k)
    rw [e1, e2, ih (by omega)]
theorem at_e {R : Nat → Int32} {f g : gb_F} {x v : Int32} (h : gb_e49 f g) (hR : gb_rB R) : gb_at2 R f x v ↔ gb_at2 R g x v := by
  have h8 := (rB_nG hR).2
  constructor
  · intro z
    have := in_G z.1
    exact ⟨z.1, by rw [← h.1 _ (by omega)]; exact z.2⟩
  · intro z
    have := in_G z.1
    exact ⟨z.1, by rw [h.1 _ (by omega)]; exact z.2⟩
theorem can_e {R NR : Nat → Int32} {f g : gb_F} {k : Nat} (h : gb_e49 f g) (hR : gb_rB R) : gb_can1 R NR f k ↔ gb_can1 R NR g k := by
  have h5 := (rB_nP hR).2
  have h8 := (rB_nG hR).2
  by_cases c0 : NR (1 + 4 * k) = 0
  · rw [can_0 c0, can_0 c0, at_e h hR]
  by_cases c1 : NR (1 + 4 * k) = 1
  · rw [can_1 c1, can_1 c1, at_e h hR]
  by_cases c2 : NR (1 + 4 * k) = 2
  · rw [can_2 c2, can_2 c2, at_e h hR]
  by_cases c3 : NR (1 + 4 * k) = 3
  · rw [can_3 c3, can_3 c3, at_e h hR, at_e (x := (NR (1 + 4 * k + 2))) h hR]
  by_cases c4 : NR (1 + 4 * k) = 4
  · rw [can_4 c4, can_4 c4, at_e h hR, at_e (v := 1) h hR]
  by_cases c5 : NR (1 + 4 * k) = 5
  · rw [can_5 c5, can_5 c5]
  by_cases c6 : NR (1 + 4 * k) = 6
  · rw [can_6 c6, can_6 c6]
  by_cases c7 : NR (1 + 4 * k) = 7
  · rw [can_7 c7, can_7 c7]
  by_cases c8 : NR (1 + 4 * k) = 8
  · rw [can_8 c8, can_8 c8]
    constructor
    · intro z
      have := in_P z.1
      exact ⟨z.1, by rw [← fox_e h (by omega) _ h8]; exact z.2⟩
    · intro z
      have := in_P z.1
      exact ⟨z.1, by rw [fox_e h (by omega) _ h8]; exact z.2⟩
  exact ⟨fun _ => can_9 c0 c1 c2 c3 c4 c5 c6 c7 c8, fun _ => can_9 c0 c1 c2 c3 c4 c5 c6 c7 c8⟩
theorem upd_8 {F G : Nat → Int32} {j : Nat} {v : Int32} (h : ∀ x, x < 8 → F x = G x) : ∀ x, x < 8 → upd F j v x = upd G j v x := fun x hx => upd_E rfl (h x hx)
theorem upd_9 {F G : Nat → Int32} {j : Nat} {v : Int32} (h : ∀ x p, x < 8 → p < 5 → F (5 * x + p) = G (5 * x + p)) : ∀ x p, x < 8 → p < 5 → upd F j v (5 * x + p) = upd G j v (5 * x + p) := fun x p hx hp => upd_E rfl (h x p hx hp)
theorem e49_s {R NR : Nat → Int32} {f g f2 g2 : gb_F} {x : Int32} {k : Nat} (h : gb_e49 f g) (hR : gb_rB R) (hc : gb_can1 R NR f k) (a4 : f2 4 = gb_n4 R NR f k) (a9 : f2 9 = gb_n9 R NR f x k) (b4 : g2 4 = gb_n4 R NR g k) (b9 : g2 9 = gb_n9 R NR g x k) : gb_e49 f2 g2 := by
  have h5 := (rB_nP hR).2
  have h8 := (rB_nG hR).2
  unfold gb_e49
  rw [a4, a9, b4, b9]
  by_cases c0 : NR (1 + 4 * k) = 0
  · rw [n4_0 c0, n4_0 c0, n9_0 c0, n9_0 c0]
    exact ⟨upd_8 h.1, upd_9 h.2⟩
  by_cases c1 : NR (1 + 4 * k) = 1
  · rw [n4_1 c1, n4_1 c1, n9_1 c1, n9_1 c1]
    exact ⟨upd_8 h.1, upd_9 h.2⟩
  by_cases c2 : NR (1 + 4 * k) = 2
  · rw [n4_2 c2, n4_2 c2, n9_2 c2, n9_2 c2]
    exact ⟨upd_8 h.1, upd_9 h.2⟩
  by_cases c3 : NR (1 + 4 * k) = 3
  · rw [n4_3 c3, n4_3 c3, n9_3 c3, n9_3 c3]
    exact ⟨upd_8 (upd_8 h.1), upd_9 h.2⟩
  by_cases c4 : NR (1 + 4 * k) = 4
  · rw [n4_4 c4, n4_4 c4, n9_4 c4, n9_4 c4]
    exact h
  by_cases c5 : NR (1 + 4 * k) = 5
  · rw [n4_5 c5, n4_5 c5, n9_5 c5, n9_5 c5]
    exact h
  by_cases c6 : NR (1 + 4 * k) = 6
  · rw [n4_6 c6, n4_6 c6, n9_6 c6, n9_6 c6]
    exact h
  by_cases c7 : NR (1 + 4 * k) = 7
  · rw [n4_7 c7, n4_7 c7, n9_7 c7, n9_7 c7]
    exact h
  by_cases c8 : NR (1 + 4 * k) = 8
  · rw [n4_8 c8, n4_8 c8, n9_8 c8, n9_8 c8]
    have cc := (can_8 c8).mp hc
    have := in_P cc.1
    rw [fox_e h (by omega) _ h8]
    exact ⟨upd_8 h.1, h.2⟩
  have n4 : ∀ z : gb_F, gb_n4 R NR z k = z 4 := fun z => by unfold gb_n4; rw [if_neg c0, if_neg c1, if_neg c2, if_neg c3, if_neg c8]
  have n9 : ∀ z : gb_F, gb_n9 R NR z x k = z 9 := fun z => by unfold gb_n9; rw [if_neg c0, if_neg c1, if_neg c2, if_neg c3]
  rw [n4, n4, n9, n9]
  exact h
theorem mh_rains49 {n m : Nat} {R NR : Nat → Int32} {v1 : Int32} : ∀ (mm : Nat) (f : gb_F) (w : Int64) (x : Int32), gb_PM m R NR f → gb_hm (ms_rains_2 n mm f w v1 x) (fun f2 _ _ => f2 4 = f 4 ∧ f2 9 = f 9 ∧ gb_mfr f f2 ∧ f2 0 23 = f 0 23) := by
  intro mm
  induction mm with
  | zero =>
    intros
    exact hm_none
  | succ mm ih =>
    intro f w x hM
    rw [ms_rains_2]
    refine hm_bd (mx_paths hM.1) (fun f1 w1 r g => ?_)
    obtain ⟨g1, g2, g3⟩ := g
    subst f1
    subst w1
    refine hm_if (fun c => hm_some ⟨rfl, rfl, mfr_r, rfl⟩) (fun c => ?_)
    refine hm_ck (fun _ _ => hm_lt (fun z1 d1 => hm_lt (fun z2 d2 => hm_ck (fun _ _ => hm_lt (fun z3 d3 => hm_lt (fun z4 d4 => hm_ck (fun _ _ => hm_lt (fun z5 d5 => hm_ck (fun _ _ => hm_lt (fun s6 d6 => hm_ck (fun _ _ => hm_lt (fun z7 d7 => hm_ck (fun _ _ => hm_lt (fun s8 d8 => hm_ck (fun _ _ => hm_lt (fun z9 d9 => hm_ck (fun _ _ => hm_lt (fun s11 d11 => hm_lt (fun x3 dx3 => ?_)))))))))))))))))))
    have a : ∀ i, i ≠ 10 → i ≠ 11 → i ≠ 12 → s11 i = f i := fun i h1 h2 h3 => by rw [d11, gb_un h3, d8, gb_un h2, d6, gb_un h1]
    have mf : gb_mfr f s11 := by
      rw [d11, d8, d6]
      exact mfr_t (mfr_t (mfr_u (by decide)) (mfr_u (by decide))) (mfr_u (by decide))
    refine hm_mono (ih s11 w x3 (PM_k hM mf)) (fun f2 w2 u2 k2 => ⟨?_, ?_, mfr_t mf k2.2.2.1, ?_⟩)
    · rw [k2.1, a 4 (by decide) (by decide) (by decide)]
    · rw [k2.2.1, a 9 (by decide) (by decide) (by decide)]
    · rw [k2.2.2.2, a 0 (by decide) (by decide) (by decide)]
theorem mh_does49 {n m k : Nat} {R NR : Nat → Int32} {f : gb_F} {x : Int32} (hM : gb_PM m R NR f) (h9 : ∀ g p, g < 8 → p < 5 → gb_iv (-1) 23 (f 9 (5 * g + p))) (e : x.toInt = k) (hk : k < gb_nD NR) (hc : gb_can1 R NR f k) (w : Int64) : gb_hm (ms_does n f w x) (fun f2 _ _ => f2 4 = gb_n4 R NR f k ∧ f2 9 = gb_n9 R NR f x k ∧ gb_mfr f f2 ∧ f2 0 23 = f 0 23) := by
  have hR := mbx_rB hM.1
  have hN := hM.2.2
  have hk2 : k < 24 := by
    have := (rN_0 hN).2
    omega
  have hp5 := (rB_nP hR).2
  have hg8 := (rB_nG hR).2
  unfold ms_does
  refine hm_bd (mx_deedOf hM.2.1 e (by omega) (j := 1) (by decide) (by decide)) (fun f1 w1 r1 g1 => ?_)
  obtain ⟨g1, g2, g3⟩ := g1
  subst f1
  subst w1
  subst g3
  refine hm_bd (mx_deedOf hM.2.1 e (by omega) (j := 2) (by decide) (by decide)) (fun f1 w1 r1 g1 => ?_)
  obtain ⟨g1, g2, g3⟩ := g1
  subst f1
  subst w1
  subst g3
  refine hm_bd (mx_deedOf hM.2.1 e (by omega) (j := 0) (by decide) (by decide)) (fun f1 w1 r1 g1 => ?_)
  obtain ⟨g1, g2, g3⟩ := g1
  subst f1
  subst w1
  subst g3
  rw [Nat.add_zero]
  refine hm_if (fun c0 => ?_) (fun c0 => ?_)
  · have cc := (can_0 c0).mp hc
    obtain ⟨a1, a2⟩ := in_G cc.1.1
    obtain ⟨b1, b2⟩ := in_P cc.2
    refine hm_bd (mh_walks hM.1 a1 (by omega) b1 (by omega)) (fun f2 w2 u2 B1 => hm_some ⟨?_, ?_, ⟨B1.2.1, by rw [B1.1], by rw [B1.1], by rw [B1.1], B1.2.2.1⟩, by rw [B1.1]⟩)
    · rw [n4_0 c0]
      exact B1.2.2.2.1
    · rw [n9_0 c0]
      exact B1.2.2.2.2.2.2.2.1
  refine hm_if (fun c1 => ?_) (fun c1 => ?_)
  · have cc := (can_1 c1).mp hc
    obtain ⟨a1, a2⟩ := in_G cc.1.1
    obtain ⟨b1, b2⟩ := in_P cc.2
    refine hm_bd (mh_walks hM.1 a1 (by omega) b1 (by omega)) (fun f2 w2 u2 B1 => hm_some ⟨?_, ?_, ⟨B1.2.1, by rw [B1.1], by rw [B1.1], by rw [B1.1], B1.2.2.1⟩, by rw [B1.1]⟩)
    · rw [n4_1 c1]
      exact B1.2.2.2.1
    · rw [n9_1 c1]
      exact B1.2.2.2.2.2.2.2.1
  refine hm_if (fun c2 => ?_) (fun c2 => ?_)
  · have cc := (can_2 c2).mp hc
    obtain ⟨a1, a2⟩ := in_G cc.1.1
    obtain ⟨b1, b2⟩ := in_P cc.2
    refine hm_bd (mh_walks hM.1 a1 (by omega) b1 (by omega)) (fun f2 w2 u2 B1 => hm_some ⟨?_, ?_, ⟨B1.2.1, by rw [B1.1], by rw [B1.1], by rw [B1.1], B1.2.2.1⟩, by rw [B1.1]⟩)
    · rw [n4_2 c2]
      exact B1.2.2.2.1
    · rw [n9_2 c2]
      exact B1.2.2.2.2.2.2.2.1
  refine hm_if (fun c3 => ?_) (fun c3 => ?_)
  · have cc := (can_3 c3).mp hc
    obtain ⟨a1, a2⟩ := in_G cc.1.1
    obtain ⟨d1, d2⟩ := in_G cc.2.1.1
    obtain ⟨b1, b2⟩ := in_P cc.2.2
    refine hm_bd (mx_deedOf hM.2.1 e (by omega) (j := 3) (by decide) (by decide)) (fun f1 w1 r1 g1 => ?_)
    obtain ⟨g1, g2, g3⟩ := g1
    subst f1
    subst w1
    subst g3
    refine hm_bd (mh_walks hM.1 a1 (by omega) b1 (by omega)) (fun f2 w2 u2 B1 => ?_)
    have mf : gb_mfr f f2 := ⟨B1.2.1, by rw [B1.1], by rw [B1.1], by rw [B1.1], B1.2.2.1⟩
    rw [gi_tn d1]
    refine hm_ck (fun _ _ => hm_lt (fun f3 e3 => ?_))
    have mf3 : gb_mfr f f3 := by
      rw [e3]
      exact mfr_t mf (mfr_u (by decide))
    refine hm_bd (mx_deedOf (PM_k hM mf3).2.1 e (by omega) (j := 3) (by decide) (by decide)) (fun f1 w1 r1 g1 => ?_)
    obtain ⟨g1, g2, g3⟩ := g1
    subst f1
    subst w1
    subst g3
    refine hm_ck (fun _ _ => hm_lt (fun f4 e5 => hm_some ⟨?_, ?_, ?_, ?_⟩))
    · rw [n4_3 c3, e5, gb_un (by decide), e3, gb_us, B1.2.2.2.1]
    · rw [n9_3 c3, e5, gb_un (by decide), e3, gb_un (by decide)]
      exact B1.2.2.2.2.2.2.2.1
    · rw [e5]
      exact mfr_t mf3 (mfr_u (by decide))
    · rw [e5, gb_un (by decide), e3, gb_un (by decide), B1.1]
  refine hm_if (fun c4 => ?_) (fun c4 => ?_)
  · refine hm_ck (fun _ _ => hm_lt (fun f1 d1 => hm_ck (fun _ _ => hm_lt (fun f2 d2 => hm_some ⟨?_, ?_, ?_, ?_⟩))))
    · rw [n4_4 c4, d2, gb_un (by decide), d1, gb_un (by decide)]
    · rw [n9_4 c4, d2, gb_un (by decide), d1, gb_un (by decide)]
    · rw [d2, d1]
      exact mfr_t (mfr_u (by decide)) (mfr_u (by decide))
    · rw [d2, gb_un (by decide), d1, gb_un (by decide)]
  refine hm_if (fun c5 => ?_) (fun c5 => ?_)
  · refine hm_bd (mh_rains49 n f w 0 hM) (fun f2 w2 u2 k2 => hm_some ⟨?_, ?_, k2.2.2.1, k2.2.2.2⟩)
    · rw [n4_5 c5]
      exact k2.1
    · rw [n9_5 c5]
      exact k2.2.1
  refine hm_if (fun c6 => ?_) (fun c6 => ?_)
  · refine hm_lt (fun f2 d2 => hm_some ⟨?_, ?_, ?_, ?_⟩)
    · rw [n4_6 c6, d2, gb_un (by decide)]
    · rw [n9_6 c6, d2, gb_un (by decide)]
    · rw [d2]
      exact mfr_0 (by decide)
    · rw [d2, gb_us, pk_un (by decide)]
  refine hm_if (fun c7 => ?_) (fun c7 => ?_)
  · refine hm_lt (fun f2 d2 => hm_some ⟨?_, ?_, ?_, ?_⟩)
    · rw [n4_7 c7, d2, gb_un (by decide)]
    · rw [n9_7 c7, d2, gb_un (by decide)]
    · rw [d2]
      exact mfr_0 (by decide)
    · rw [d2, gb_us, pk_un (by decide)]
  have k8 : NR (1 + 4 * k) = 8 := by
    have i0 := rN_d (i := 0) hN hk2 (by decide)
    rw [if_pos rfl, Nat.add_zero] at i0
    have i1 := i0.1
    have i2 := i0.2
    have nk : ∀ (v : Int32) (z : Int), v.toInt = z → ¬ NR (1 + 4 * k) = v → (NR (1 + 4 * k)).toInt ≠ z := fun v z ez q y => q (gi_eq y ez)
    have n0 := nk 0 0 (by decide) c0
    have n1 := nk 1 1 (by decide) c1
    have n2 := nk 2 2 (by decide) c2
    have n3 := nk 3 3 (by decide) c3
    have n4 := nk 4 4 (by decide) c4
    have n5 := nk 5 5 (by decide) c5
    have n6 := nk 6 6 (by decide) c6
    have n7 := nk 7 7 (by decide) c7
    change (0 : Int) ≤ (NR (1 + 4 * k)).toInt at i1
    change (NR (1 + 4 * k)).toInt ≤ 8 at i2
    exact gi_eq (k := 8) (by omega) (by decide)
  have cc := (can_8 k8).mp hc
  obtain ⟨a1, a2⟩ := in_P cc.1
  have fb := fox_b f (NR (1 + 4 * k + 1)).toInt.toNat (fun g hg => h9 g _ hg (by omega)) (gb_nG R) (by omega)
  rcases fb with fb | fb
  · exact absurd fb.1 cc.2
  refine hm_bd (mh_foxed hM.1 (fun g hg => h9 g _ hg (by omega)) a1 (by omega)) (fun f1 w1 r1 k1 => ?_)
  obtain ⟨q1, q2, q3⟩ := k1
  subst f1
  subst w1
  have er1 : r1.toInt = ((gb_fox f (NR (1 + 4 * k + 1)).toInt.toNat (gb_nG R)).1.toNat : Int) := by
    rw [q3]
    omega
  rw [gi_tn er1]
  refine hm_ck (fun _ _ => hm_lt (fun f2 d2 => hm_some ⟨?_, ?_, ?_, ?_⟩))
  · rw [n4_8 k8, d2, gb_us]
  · rw [n9_8 k8, d2, gb_un (by decide)]
  · rw [d2]
    exact mfr_u (by decide)
  · rw [d2, gb_un (by decide)]
