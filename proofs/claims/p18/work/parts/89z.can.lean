/-! WHAT A DEED NEEDS -/
theorem gb_012 {p : Int32} (i : gb_iv 0 2 p) : p = 0 ∨ p = 1 ∨ p = 2 := by
  have h1 := i.1
  have h2 := i.2
  rcases (show p.toInt = 0 ∨ p.toInt = 1 ∨ p.toInt = 2 by omega) with e | e | e
  · exact Or.inl (gi_eq e (by decide))
  · exact Or.inr (Or.inl (gi_eq e (by decide)))
  · exact Or.inr (Or.inr (gi_eq e (by decide)))
def gb_can1 (R NR : Nat → Int32) (f : gb_F) (k : Nat) : Prop := if NR (1 + 4 * k) = 0 then gb_at2 R f (NR (1 + 4 * k + 1)) 0 ∧ gb_i0 (NR (1 + 4 * k + 2)) (R 0) else if NR (1 + 4 * k) = 1 then gb_at2 R f (NR (1 + 4 * k + 1)) 0 ∧ gb_i0 (NR (1 + 4 * k + 2)) (R 0) else if NR (1 + 4 * k) = 2 then gb_at2 R f (NR (1 + 4 * k + 1)) 1 ∧ gb_i0 (NR (1 + 4 * k + 2)) (R 0) else if NR (1 + 4 * k) = 3 then gb_at2 R f (NR (1 + 4 * k + 1)) 0 ∧ gb_at2 R f (NR (1 + 4 * k + 2)) 0 ∧ gb_i0 (NR (1 + 4 * k + 3)) (R 0) else if NR (1 + 4 * k) = 4 then gb_at2 R f (NR (1 + 4 * k + 1)) 0 ∨ gb_at2 R f (NR (1 + 4 * k + 1)) 1 else if NR (1 + 4 * k) = 5 then True else if NR (1 + 4 * k) = 6 then True else if NR (1 + 4 * k) = 7 then True else if NR (1 + 4 * k) = 8 then gb_i0 (NR (1 + 4 * k + 1)) (R 0) ∧ (gb_fox f (NR (1 + 4 * k + 1)).toInt.toNat (gb_nG R)).1 ≠ -1 else True
theorem can_0 {R NR : Nat → Int32} {f : gb_F} {k : Nat} (h : NR (1 + 4 * k) = 0) : gb_can1 R NR f k ↔ (gb_at2 R f (NR (1 + 4 * k + 1)) 0 ∧ gb_i0 (NR (1 + 4 * k + 2)) (R 0)) := by
  unfold gb_can1
  rw [if_pos h]
theorem can_1 {R NR : Nat → Int32} {f : gb_F} {k : Nat} (h : NR (1 + 4 * k) = 1) : gb_can1 R NR f k ↔ (gb_at2 R f (NR (1 + 4 * k + 1)) 0 ∧ gb_i0 (NR (1 + 4 * k + 2)) (R 0)) := by
  unfold gb_can1
  rw [if_neg (by rw [h]; decide), if_pos h]
theorem can_2 {R NR : Nat → Int32} {f : gb_F} {k : Nat} (h : NR (1 + 4 * k) = 2) : gb_can1 R NR f k ↔ (gb_at2 R f (NR (1 + 4 * k + 1)) 1 ∧ gb_i0 (NR (1 + 4 * k + 2)) (R 0)) := by
  unfold gb_can1
  rw [if_neg (by rw [h]; decide), if_neg (by rw [h]; decide), if_pos h]
theorem can_3 {R NR : Nat → Int32} {f : gb_F} {k : Nat} (h : NR (1 + 4 * k) = 3) : gb_can1 R NR f k ↔ (gb_at2 R f (NR (1 + 4 * k + 1)) 0 ∧ gb_at2 R f (NR (1 + 4 * k + 2)) 0 ∧ gb_i0 (NR (1 + 4 * k + 3)) (R 0)) := by
  unfold gb_can1
  rw [if_neg (by rw [h]; decide), if_neg (by rw [h]; decide), if_neg (by rw [h]; decide), if_pos h]
theorem can_4 {R NR : Nat → Int32} {f : gb_F} {k : Nat} (h : NR (1 + 4 * k) = 4) : gb_can1 R NR f k ↔ (gb_at2 R f (NR (1 + 4 * k + 1)) 0 ∨ gb_at2 R f (NR (1 + 4 * k + 1)) 1) := by
  unfold gb_can1
  rw [if_neg (by rw [h]; decide), if_neg (by rw [h]; decide), if_neg (by rw [h]; decide), if_neg (by rw [h]; decide), if_pos h]
theorem can_5 {R NR : Nat → Int32} {f : gb_F} {k : Nat} (h : NR (1 + 4 * k) = 5) : gb_can1 R NR f k ↔ (True) := by
  unfold gb_can1
  rw [if_neg (by rw [h]; decide), if_neg (by rw [h]; decide), if_neg (by rw [h]; decide), if_neg (by rw [h]; decide), if_neg (by rw [h]; decide), if_pos h]
theorem can_6 {R NR : Nat → Int32} {f : gb_F} {k : Nat} (h : NR (1 + 4 * k) = 6) : gb_can1 R NR f k ↔ (True) := by
  unfold gb_can1
  rw [if_neg (by rw [h]; decide), if_neg (by rw [h]; decide), if_neg (by rw [h]; decide), if_neg (by rw [h]; decide), if_neg (by rw [h]; decide), if_neg (by rw [h]; decide), if_pos h]
theorem can_7 {R NR : Nat → Int32} {f : gb_F} {k : Nat} (h : NR (1 + 4 * k) = 7) : gb_can1 R NR f k ↔ (True) := by
  unfold gb_can1
  rw [if_neg (by rw [h]; decide), if_neg (by rw [h]; decide), if_neg (by rw [h]; decide), if_neg (by rw [h]; decide), if_neg (by rw [h]; decide), if_neg (by rw [h]; decide), if_neg (by rw [h]; decide), if_pos h]
theorem can_8 {R NR : Nat → Int32} {f : gb_F} {k : Nat} (h : NR (1 + 4 * k) = 8) : gb_can1 R NR f k ↔ (gb_i0 (NR (1 + 4 * k + 1)) (R 0) ∧ (gb_fox f (NR (1 + 4 * k + 1)).toInt.toNat (gb_nG R)).1 ≠ -1) := by
  unfold gb_can1
  rw [if_neg (by rw [h]; decide), if_neg (by rw [h]; decide), if_neg (by rw [h]; decide), if_neg (by rw [h]; decide), if_neg (by rw [h]; decide), if_neg (by rw [h]; decide), if_neg (by rw [h]; decide), if_neg (by rw [h]; decide), if_pos h]
theorem can_9 {R NR : Nat → Int32} {f : gb_F} {k : Nat} (h0 : ¬ NR (1 + 4 * k) = 0) (h1 : ¬ NR (1 + 4 * k) = 1) (h2 : ¬ NR (1 + 4 * k) = 2) (h3 : ¬ NR (1 + 4 * k) = 3) (h4 : ¬ NR (1 + 4 * k) = 4) (h5 : ¬ NR (1 + 4 * k) = 5) (h6 : ¬ NR (1 + 4 * k) = 6) (h7 : ¬ NR (1 + 4 * k) = 7) (h8 : ¬ NR (1 + 4 * k) = 8) : gb_can1 R NR f k := by
  unfold gb_can1
  rw [if_neg h0, if_neg h1, if_neg h2, if_neg h3, if_neg h4, if_neg h5, if_neg h6, if_neg h7, if_neg h8]
  trivial
theorem ch_hasP {n : Nat} {σ : gb_S} {k0 k1 : Nat} {R NR : Nat → Int32} {x : Int32} (h : gb_PC k0 k1 R NR σ) : gb_hc (cs_Border_hasPath_B n σ (σ.2.1 1) x) (fun s r => s = σ ∧ ((r = 0 ∧ ¬ gb_i0 x (R 0)) ∨ (r = 1 ∧ gb_i0 x (R 0) ∧ x.toInt = x.toInt.toNat ∧ x.toInt.toNat < gb_nP R))) := by
  rw [h.1]
  exact cbx_has h.2.1
theorem ch_mayBe {n : Nat} {σ : gb_S} {k0 k1 k : Nat} {R NR : Nat → Int32} {f : gb_F} {t : Prop} {x : Int32} (h : gb_PC k0 k1 R NR σ) (hR : gb_rB R) (hN : gb_raN NR) (hP : gb_PR R t σ f) (e : x.toInt = k) (hk : k < gb_nD NR) : gb_hc (cs_Play_canBe_N n σ k1 x) (fun s r => s = σ ∧ ((r = 0 ∧ ¬ gb_can1 R NR f k) ∨ (r = 1 ∧ gb_can1 R NR f k))) := by
  have hk2 : k < 24 := by
    have := (rN_0 hN).2
    omega
  have hp5 := (rB_nP hR).2
  unfold cs_Play_canBe_N
  refine hc_kk (fun _ => hc_cd (ch_dN h e hk hk2 (j := 1) (by decide) (by decide)) (fun s r g => ?_))
  obtain ⟨rfl, rfl⟩ := g
  refine hc_cd (ch_dN h e hk hk2 (j := 2) (by decide) (by decide)) (fun s r g => ?_)
  obtain ⟨rfl, rfl⟩ := g
  refine hc_cd (ch_kN h e hk hk2) (fun s r g => ?_)
  obtain ⟨rfl, rfl⟩ := g
  refine hc_if (fun c0 => ?_) (fun c0 => ?_)
  · refine hc_cd (ch_stands h hR hP) (fun s r g => ?_)
    obtain ⟨rfl, g⟩ := g
    refine hc_if (fun c => hc_some ⟨rfl, Or.inl ⟨rfl, fun z => (yn_0 g c) ((can_0 c0).mp z).1⟩⟩) (fun c => hc_kk (fun _ => hc_cd (ch_hasP h) (fun s2 r2 g2 => ?_)))
    obtain ⟨rfl, g2⟩ := g2
    exact hc_if (fun d => hc_some ⟨rfl, Or.inl ⟨rfl, fun z => (yn_0 g2 d) ((can_0 c0).mp z).2⟩⟩) (fun d => hc_some ⟨rfl, Or.inr ⟨rfl, (can_0 c0).mpr ⟨yn_1 g c, (yn_1 g2 d).1⟩⟩⟩)
  refine hc_if (fun c1 => ?_) (fun c1 => ?_)
  · refine hc_cd (ch_stands h hR hP) (fun s r g => ?_)
    obtain ⟨rfl, g⟩ := g
    refine hc_if (fun c => hc_some ⟨rfl, Or.inl ⟨rfl, fun z => (yn_0 g c) ((can_1 c1).mp z).1⟩⟩) (fun c => hc_kk (fun _ => hc_cd (ch_hasP h) (fun s2 r2 g2 => ?_)))
    obtain ⟨rfl, g2⟩ := g2
    exact hc_if (fun d => hc_some ⟨rfl, Or.inl ⟨rfl, fun z => (yn_0 g2 d) ((can_1 c1).mp z).2⟩⟩) (fun d => hc_some ⟨rfl, Or.inr ⟨rfl, (can_1 c1).mpr ⟨yn_1 g c, (yn_1 g2 d).1⟩⟩⟩)
  refine hc_if (fun c2 => ?_) (fun c2 => ?_)
  · refine hc_cd (ch_stands h hR hP) (fun s r g => ?_)
    obtain ⟨rfl, g⟩ := g
    refine hc_if (fun c => hc_some ⟨rfl, Or.inl ⟨rfl, fun z => (yn_0 g c) ((can_2 c2).mp z).1⟩⟩) (fun c => hc_kk (fun _ => hc_cd (ch_hasP h) (fun s2 r2 g2 => ?_)))
    obtain ⟨rfl, g2⟩ := g2
    exact hc_if (fun d => hc_some ⟨rfl, Or.inl ⟨rfl, fun z => (yn_0 g2 d) ((can_2 c2).mp z).2⟩⟩) (fun d => hc_some ⟨rfl, Or.inr ⟨rfl, (can_2 c2).mpr ⟨yn_1 g c, (yn_1 g2 d).1⟩⟩⟩)
  refine hc_if (fun c3 => ?_) (fun c3 => ?_)
  · refine hc_cd (ch_stands h hR hP) (fun s r g => ?_)
    obtain ⟨rfl, g⟩ := g
    refine hc_if (fun c => hc_some ⟨rfl, Or.inl ⟨rfl, fun z => (yn_0 g c) ((can_3 c3).mp z).1⟩⟩) (fun c => hc_cd (ch_stands h hR hP) (fun s1 r1 g1 => ?_))
    obtain ⟨rfl, g1⟩ := g1
    refine hc_if (fun d => hc_some ⟨rfl, Or.inl ⟨rfl, fun z => (yn_0 g1 d) ((can_3 c3).mp z).2.1⟩⟩) (fun d => hc_kk (fun _ => hc_cd (ch_dN h e hk hk2 (j := 3) (by decide) (by decide)) (fun s3 r3 g3 => ?_)))
    obtain ⟨rfl, rfl⟩ := g3
    refine hc_cd (ch_hasP h) (fun s2 r2 g2 => ?_)
    obtain ⟨rfl, g2⟩ := g2
    exact hc_if (fun b => hc_some ⟨rfl, Or.inl ⟨rfl, fun z => (yn_0 g2 b) ((can_3 c3).mp z).2.2⟩⟩) (fun b => hc_some ⟨rfl, Or.inr ⟨rfl, (can_3 c3).mpr ⟨yn_1 g c, yn_1 g1 d, (yn_1 g2 b).1⟩⟩⟩)
  refine hc_if (fun c4 => ?_) (fun c4 => ?_)
  · refine hc_cd (ch_stands h hR hP) (fun s r g => ?_)
    obtain ⟨rfl, g⟩ := g
    refine hc_if (fun c => hc_cd (ch_stands h hR hP) (fun s1 r1 g1 => ?_)) (fun c => hc_some ⟨rfl, Or.inr ⟨rfl, (can_4 c4).mpr (Or.inl (yn_1 g c))⟩⟩)
    obtain ⟨rfl, g1⟩ := g1
    exact hc_if (fun d => hc_some ⟨rfl, Or.inl ⟨rfl, fun z => ((can_4 c4).mp z).elim (yn_0 g c) (yn_0 g1 d)⟩⟩) (fun d => hc_some ⟨rfl, Or.inr ⟨rfl, (can_4 c4).mpr (Or.inr (yn_1 g1 d))⟩⟩)
  refine hc_if (fun c5 => ?_) (fun c5 => ?_)
  · exact hc_some ⟨rfl, Or.inr ⟨rfl, (can_5 c5).mpr trivial⟩⟩
  refine hc_if (fun c6 => ?_) (fun c6 => ?_)
  · exact hc_some ⟨rfl, Or.inr ⟨rfl, (can_6 c6).mpr trivial⟩⟩
  refine hc_if (fun c7 => ?_) (fun c7 => ?_)
  · exact hc_some ⟨rfl, Or.inr ⟨rfl, (can_7 c7).mpr trivial⟩⟩
  refine hc_if (fun c8 => ?_) (fun c8 => ?_)
  · refine hc_kk (fun _ => hc_cd (ch_hasP h) (fun s2 r2 g2 => ?_))
    obtain ⟨rfl, g2⟩ := g2
    refine hc_if (fun b => hc_some ⟨rfl, Or.inl ⟨rfl, fun z => (yn_0 g2 b) ((can_8 c8).mp z).1⟩⟩) (fun b => ?_)
    obtain ⟨b1, b2, b3⟩ := yn_1 g2 b
    refine hc_cd (ch_goer h hR hP b2 (by omega)) (fun s3 r3 g3 => ?_)
    obtain ⟨rfl, g3⟩ := g3
    exact hc_if (fun d => hc_some ⟨rfl, Or.inl ⟨rfl, fun z => ((can_8 c8).mp z).2 (by rw [← g3]; exact gi_m1.mp d)⟩⟩) (fun d => hc_some ⟨rfl, Or.inr ⟨rfl, (can_8 c8).mpr ⟨b1, fun z => d (gi_m1.mpr (by rw [g3]; exact z))⟩⟩⟩)
  exact hc_some ⟨rfl, Or.inr ⟨rfl, can_9 c0 c1 c2 c3 c4 c5 c6 c7 c8⟩⟩
theorem mh_can {n m k : Nat} {R NR : Nat → Int32} {f : gb_F} {w : Int64} {x : Int32} (h : gb_PM m R NR f) (h4 : ∀ g, g < 8 → gb_iv 0 2 (f 4 g)) (h9 : ∀ g p, g < 8 → p < 5 → gb_iv (-1) 23 (f 9 (5 * g + p))) (e : x.toInt = k) (hk : k < 24) : gb_hm (ms_can n f w x) (fun f2 w2 r => f2 = f ∧ w2 = w ∧ ((r = 0 ∧ ¬ gb_can1 R NR f k) ∨ (r = 1 ∧ gb_can1 R NR f k))) := by
  have hR := mbx_rB h.1
  have hp5 := (rB_nP hR).2
  have hg8 := (rB_nG hR).2
  unfold ms_can
  refine hm_bd (mx_deedOf h.2.1 e (by omega) (j := 1) (by decide) (by decide)) (fun f1 w1 r g => ?_)
  obtain ⟨rfl, rfl, rfl⟩ := g
  refine hm_bd (mx_deedOf h.2.1 e (by omega) (j := 2) (by decide) (by decide)) (fun f1 w1 r g => ?_)
  obtain ⟨rfl, rfl, rfl⟩ := g
  refine hm_bd (mx_deedOf h.2.1 e (by omega) (j := 0) (by decide) (by decide)) (fun f1 w1 r g => ?_)
  obtain ⟨rfl, rfl, rfl⟩ := g
  rw [Nat.add_zero]
  refine hm_if (fun c0 => ?_) (fun c0 => ?_)
  · refine hm_bd (mh_isAt h.1) (fun s u r g => ?_)
    obtain ⟨rfl, rfl, g⟩ := g
    refine hm_if (fun c => hm_some ⟨rfl, rfl, Or.inl ⟨rfl, fun z => (yn_0 g c) ((can_0 c0).mp z).1⟩⟩) (fun c => hm_bd (mbx_has h.1) (fun s2 u2 r2 g2 => ?_))
    obtain ⟨rfl, rfl, g2⟩ := g2
    exact hm_if (fun d => hm_some ⟨rfl, rfl, Or.inl ⟨rfl, fun z => (yn_0 g2 d) ((can_0 c0).mp z).2⟩⟩) (fun d => hm_some ⟨rfl, rfl, Or.inr ⟨rfl, (can_0 c0).mpr ⟨yn_1 g c, (yn_1 g2 d).1⟩⟩⟩)
  refine hm_if (fun c1 => ?_) (fun c1 => ?_)
  · refine hm_bd (mh_isAt h.1) (fun s u r g => ?_)
    obtain ⟨rfl, rfl, g⟩ := g
    refine hm_if (fun c => hm_some ⟨rfl, rfl, Or.inl ⟨rfl, fun z => (yn_0 g c) ((can_1 c1).mp z).1⟩⟩) (fun c => hm_bd (mbx_has h.1) (fun s2 u2 r2 g2 => ?_))
    obtain ⟨rfl, rfl, g2⟩ := g2
    exact hm_if (fun d => hm_some ⟨rfl, rfl, Or.inl ⟨rfl, fun z => (yn_0 g2 d) ((can_1 c1).mp z).2⟩⟩) (fun d => hm_some ⟨rfl, rfl, Or.inr ⟨rfl, (can_1 c1).mpr ⟨yn_1 g c, (yn_1 g2 d).1⟩⟩⟩)
  refine hm_if (fun c2 => ?_) (fun c2 => ?_)
  · refine hm_bd (mh_isAt h.1) (fun s u r g => ?_)
    obtain ⟨rfl, rfl, g⟩ := g
    refine hm_if (fun c => hm_some ⟨rfl, rfl, Or.inl ⟨rfl, fun z => (yn_0 g c) ((can_2 c2).mp z).1⟩⟩) (fun c => hm_bd (mbx_has h.1) (fun s2 u2 r2 g2 => ?_))
    obtain ⟨rfl, rfl, g2⟩ := g2
    exact hm_if (fun d => hm_some ⟨rfl, rfl, Or.inl ⟨rfl, fun z => (yn_0 g2 d) ((can_2 c2).mp z).2⟩⟩) (fun d => hm_some ⟨rfl, rfl, Or.inr ⟨rfl, (can_2 c2).mpr ⟨yn_1 g c, (yn_1 g2 d).1⟩⟩⟩)
  refine hm_if (fun c3 => ?_) (fun c3 => ?_)
  · refine hm_bd (mh_isAt h.1) (fun s u r g => ?_)
    obtain ⟨rfl, rfl, g⟩ := g
    refine hm_if (fun c => hm_some ⟨rfl, rfl, Or.inl ⟨rfl, fun z => (yn_0 g c) ((can_3 c3).mp z).1⟩⟩) (fun c => hm_bd (mh_isAt h.1) (fun s1 u1 r1 g1 => ?_))
    obtain ⟨rfl, rfl, g1⟩ := g1
    refine hm_if (fun d => hm_some ⟨rfl, rfl, Or.inl ⟨rfl, fun z => (yn_0 g1 d) ((can_3 c3).mp z).2.1⟩⟩) (fun d => hm_bd (mx_deedOf h.2.1 e (by omega) (j := 3) (by decide) (by decide)) (fun s3 u3 r3 g3 => ?_))
    obtain ⟨rfl, rfl, rfl⟩ := g3
    refine hm_bd (mbx_has h.1) (fun s2 u2 r2 g2 => ?_)
    obtain ⟨rfl, rfl, g2⟩ := g2
    exact hm_if (fun b => hm_some ⟨rfl, rfl, Or.inl ⟨rfl, fun z => (yn_0 g2 b) ((can_3 c3).mp z).2.2⟩⟩) (fun b => hm_some ⟨rfl, rfl, Or.inr ⟨rfl, (can_3 c3).mpr ⟨yn_1 g c, yn_1 g1 d, (yn_1 g2 b).1⟩⟩⟩)
  refine hm_if (fun c4 => ?_) (fun c4 => ?_)
  · refine hm_bd (mbx_hasG h.1) (fun s u r g => ?_)
    obtain ⟨rfl, rfl, g⟩ := g
    refine hm_if (fun c => hm_some ⟨rfl, rfl, Or.inl ⟨rfl, fun z => ((can_4 c4).mp z).elim (fun y => (yn_0 g c) y.1) (fun y => (yn_0 g c) y.1)⟩⟩) (fun c => ?_)
    obtain ⟨b1, b2, b3⟩ := yn_1 g c
    rw [gi_tn b2]
    refine hm_ck (fun _ _ => hm_lt (fun y ey => ?_))
    have i4 := h4 (NR (1 + 4 * k + 1)).toInt.toNat (by omega)
    rw [← ey] at i4
    refine hm_if (fun d => hm_some ⟨rfl, rfl, Or.inl ⟨rfl, fun z => ?_⟩⟩) (fun d => hm_some ⟨rfl, rfl, Or.inr ⟨rfl, (can_4 c4).mpr ?_⟩⟩)
    · rcases (can_4 c4).mp z with z | z
      · have := z.2
        rw [← ey, d] at this
        exact absurd this (by decide)
      · have := z.2
        rw [← ey, d] at this
        exact absurd this (by decide)
    · rcases gb_012 i4 with z | z | z
      · exact Or.inl ⟨b1, by rw [← ey]; exact z⟩
      · exact Or.inr ⟨b1, by rw [← ey]; exact z⟩
      · exact absurd z d
  refine hm_if (fun c5 => ?_) (fun c5 => ?_)
  · exact hm_some ⟨rfl, rfl, Or.inr ⟨rfl, (can_5 c5).mpr trivial⟩⟩
  refine hm_if (fun c6 => ?_) (fun c6 => ?_)
  · exact hm_some ⟨rfl, rfl, Or.inr ⟨rfl, (can_6 c6).mpr trivial⟩⟩
  refine hm_if (fun c7 => ?_) (fun c7 => ?_)
  · exact hm_some ⟨rfl, rfl, Or.inr ⟨rfl, (can_7 c7).mpr trivial⟩⟩
  refine hm_if (fun c8 => ?_) (fun c8 => ?_)
  · refine hm_bd (mbx_has h.1) (fun s2 u2 r2 g2 => ?_)
    obtain ⟨rfl, rfl, g2⟩ := g2
    refine hm_if (fun b => hm_some ⟨rfl, rfl, Or.inl ⟨rfl, fun z => (yn_0 g2 b) ((can_8 c8).mp z).1⟩⟩) (fun b => ?_)
    obtain ⟨b1, b2, b3⟩ := yn_1 g2 b
    refine hm_bd (mh_foxed h.1 (fun g hg => h9 g _ hg (by omega)) b2 (by omega)) (fun s3 u3 r3 g3 => ?_)
    obtain ⟨rfl, rfl, g3⟩ := g3
    exact hm_if (fun d => hm_some ⟨rfl, rfl, Or.inl ⟨rfl, fun z => ((can_8 c8).mp z).2 (by rw [← g3]; exact gi_m1.mp d)⟩⟩) (fun d => hm_some ⟨rfl, rfl, Or.inr ⟨rfl, (can_8 c8).mpr ⟨b1, fun z => d (gi_m1.mpr (by rw [g3]; exact z))⟩⟩⟩)
  exact hm_some ⟨rfl, rfl, Or.inr ⟨rfl, can_9 c0 c1 c2 c3 c4 c5 c6 c7 c8⟩⟩
