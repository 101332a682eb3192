/-! THE REFERENCE: each line -/
theorem mh_gooseTold {n : Nat} {T : Nat → Int32} {N l : Nat} {ps qs : Nat → Nat} {vs : Nat → Int} {M Qb i : Nat} {fp : Int32 × Int32} {f : gb_F} {w : Int64} (hns : gb_nums T N ps qs vs M) (hB : i = M → gb_nonum T N (ps M) Qb) (hc : ∀ v0, gb_can l i (vs i) v0 ↔ 0 ≤ vs i ∧ vs i ≤ 7) (h : gb_S1 T N ps qs M Qb i (gb_ff l qs vs fp i) f) : gb_hm (ms_gooseTold n f w) (fun f2 _ r => gb_S1 T N ps qs M Qb (i + 1) (gb_ff l qs vs fp (i + 1)) f2 ∧ (i < M → gb_can l i (vs i) (vs 0) → r.toInt = vs i) ∧ gb_ke f f2) := by
  unfold ms_gooseTold
  exact hm_bd (mh_nu hns hB (by decide) (by decide) hc h) (fun f2 w2 r g => hm_some g)
theorem mh_pathTold {n : Nat} {T : Nat → Int32} {N l : Nat} {ps qs : Nat → Nat} {vs : Nat → Int} {M Qb i : Nat} {fp : Int32 × Int32} {f : gb_F} {w : Int64} (hns : gb_nums T N ps qs vs M) (hB : i = M → gb_nonum T N (ps M) Qb) (hc : ∀ v0, gb_can l i (vs i) v0 ↔ 0 ≤ vs i ∧ vs i ≤ 4) (h : gb_S1 T N ps qs M Qb i (gb_ff l qs vs fp i) f) : gb_hm (ms_pathTold n f w) (fun f2 _ r => gb_S1 T N ps qs M Qb (i + 1) (gb_ff l qs vs fp (i + 1)) f2 ∧ (i < M → gb_can l i (vs i) (vs 0) → r.toInt = vs i) ∧ gb_ke f f2) := by
  unfold ms_pathTold
  exact hm_bd (mh_nu hns hB (by decide) (by decide) hc h) (fun f2 w2 r g => hm_some g)
set_option maxHeartbeats 4000000 in
theorem mh_path26 {n : Nat} {T : Nat → Int32} {N : Nat} {ps qs : Nat → Nat} {vs : Nat → Int} {M Qb : Nat} {fp : Int32 × Int32} {f : gb_F} {w : Int64} {v2 : Int32} (hP : gb_pl1 T N 0 ps qs vs M Qb) (h : gb_S1 T N ps qs M Qb 0 fp f) (h0 : 0 ≤ (f 3 0).toInt) (hv : (v2 = 0 ∧ ¬ gb_room 0 0 (f 3)) ∨ (v2 = 1 ∧ gb_room 0 0 (f 3))) : gb_hm (ms_pathLine_26 n f w v2) (fun f2 _ _ => gb_S1 T N ps qs M Qb 3 (gb_ff 0 qs vs fp 3) f2 ∧ f2 0 9 = f 0 9 ∧ ∃ U : Nat → Int32, (M = gb_kn 0 → (gb_ff 0 qs vs fp (gb_kn 0)).1 = 0 → ∀ j, j < gb_kn 0 → (U j).toInt = vs j) ∧ gb_addR 0 0 U (f 3) (f2 3)) := by
  unfold ms_pathLine_26
  have t0 : Int32.toNatClampNeg 0 = 0 := by decide
  rw [t0]
  refine hm_bd (mh_nu (l := 0) (i := 0) (fp := fp) (lo := 1) (hi := 20) hP.1 (fun z => hP.2.2 (by rw [← z]; decide)) (by decide) (by decide) (fun _ => can_rg (by decide) (by decide) (by decide)) h) (fun f1 u1 r0 g1 => ?_)
  obtain ⟨s1, v0, k1⟩ := g1
  refine hm_bd (mh_nu (l := 0) (i := 1) (fp := fp) (lo := 0) (hi := 9) hP.1 (fun z => hP.2.2 (by rw [← z]; decide)) (by decide) (by decide) (fun _ => can_rg (by decide) (by decide) (by decide)) s1) (fun f2 u2 r1 g2 => ?_)
  obtain ⟨s2, v1, k2⟩ := g2
  refine hm_bd (mh_nu (l := 0) (i := 2) (fp := fp) (lo := 0) (hi := 9) hP.1 (fun z => hP.2.2 (by rw [← z]; decide)) (by decide) (by decide) (fun _ => can_rg (by decide) (by decide) (by decide)) s2) (fun f3 u3 r2 g3 => ?_)
  obtain ⟨s3, v2, k3⟩ := g3
  have hU : M = gb_kn 0 → (gb_ff 0 qs vs fp (gb_kn 0)).1 = 0 → ∀ j, j < gb_kn 0 → ((fun j => if j = 0 then r0 else if j = 1 then r1 else r2) j).toInt = vs j := fun hM hz j hj => by
    have cc := (ff_0 _ hz).2
    have hM2 : M = 3 := hM
    have hj2 : j < 3 := hj
    have : j = 0 ∨ j = 1 ∨ j = 2 := by omega
    rcases this with rfl | rfl | rfl
    · exact v0 (by omega) (cc 0 (by decide))
    · exact v1 (by omega) (cc 1 (by decide))
    · exact v2 (by omega) (cc 2 (by decide))
  have kk : gb_ke f f3 := ke_t (ke_t (k1) k2) k3
  refine hm_if (fun c => hm_some ⟨s3, kk.2.2.1, _, hU, Or.inl ⟨?_, kk.1⟩⟩) (fun c => ?_)
  · rcases hv with z | z
    · exact z.2
    · rw [z.1] at c
      exact absurd c (by decide)
  · have hr : gb_room 0 0 (f 3) := by
      rcases hv with z | z
      · exact absurd z.1 c
      · exact z.2
    have hr2 : (f 3 0).toInt < 5 := by
      have := hr
      unfold gb_room at this
      rw [if_pos rfl] at this
      omega
    have c1 : (1 : Int32).toInt = 1 := by decide
    have c2 : (2 : Int32).toInt = 2 := by decide
    have c3 : (3 : Int32).toInt = 3 := by decide
    have c4 : (4 : Int32).toInt = 4 := by decide
    have c5 : (5 : Int32).toInt = 5 := by decide
    have c18 : (18 : Int32).toInt = 18 := by decide
    refine hm_lt (fun x ex => hm_lt (fun p ep => ?_))
    rw [kk.1] at ex
    have m1 : (3 * x).toInt = ((3 * (f 3 0).toInt.toNat : Nat) : Int) := by
      rw [ex, gb_tmul (by rw [c3]; omega) (by rw [c3]; omega), c3]
      omega
    have p0 : p.toInt = ((3 + 3 * (f 3 0).toInt.toNat : Nat) : Int) := by
      rw [ep, gb_tadd (by rw [m1, c3]; omega) (by rw [m1, c3]; omega), m1, c3]
      omega
    have p0' : (p + 0).toInt = ((3 + 3 * (f 3 0).toInt.toNat : Nat) : Int) := by
      have : p + 0 = p := Int32.add_zero p
      rw [this]
      exact p0
    have p1 : (p + 1).toInt = ((3 + 3 * (f 3 0).toInt.toNat + 1 : Nat) : Int) := by
      rw [gb_tadd (by omega) (by omega), c1, p0]
      omega
    have p2 : (p + 2).toInt = ((3 + 3 * (f 3 0).toInt.toNat + 2 : Nat) : Int) := by
      rw [gb_tadd (by omega) (by omega), c2, p0]
      omega
    refine hm_ck (fun _ _ => hm_lt (fun a0 e0 => hm_ck (fun _ _ => hm_lt (fun a1 e1 => hm_ck (fun _ _ => hm_lt (fun a2 e2 => hm_lt (fun y ey => hm_lt (fun b eb => hm_some ?_))))))))
    have q3 : a2 3 = upd (upd (upd (f 3) (3 + 3 * (f 3 0).toInt.toNat) r0) (3 + 3 * (f 3 0).toInt.toNat + 1) r1) (3 + 3 * (f 3 0).toInt.toNat + 2) r2 := by rw [e2, gb_us, gi_tn p2, e1, gb_us, gi_tn p1, e0, gb_us, gi_tn p0', kk.1]
    have qn : ∀ q, q ≠ 3 → a2 q = f3 q := fun q hq => by rw [e2, gb_un hq, e1, gb_un hq, e0, gb_un hq]
    have y0 : y = f 3 0 := by rw [ey, q3, pk_un (by omega), pk_un (by omega), pk_un (by omega)]
    have b0 : b 0 = f3 0 := by rw [eb, gb_un (by decide)]; exact qn 0 (by decide)
    have b1 : b 1 = f3 1 := by rw [eb, gb_un (by decide)]; exact qn 1 (by decide)
    refine ⟨S1_same s3 b0 b1, by rw [b0]; exact kk.2.2.1, _, hU, Or.inr ⟨hr, Or.inl ⟨rfl, Or.inr (Or.inl ⟨rfl, ?_⟩)⟩⟩⟩
    rw [eb, gb_us, y0, q3]
    congr 1
    funext j
    unfold va_cpy
    by_cases hj : 3 + 3 * (f 3 0).toInt.toNat ≤ j ∧ j < 3 + 3 * (f 3 0).toInt.toNat + 3
    · rw [if_pos hj]
      have : j = 3 + 3 * (f 3 0).toInt.toNat ∨ j = 3 + 3 * (f 3 0).toInt.toNat + 1 ∨ j = 3 + 3 * (f 3 0).toInt.toNat + 2 := by omega
      rcases this with z | z | z
      · rw [show 0 + (j - (3 + 3 * (f 3 0).toInt.toNat)) = 0 by omega, z, pk_un (by omega), pk_un (by omega), pk_us]
        rfl
      · rw [show 0 + (j - (3 + 3 * (f 3 0).toInt.toNat)) = 1 by omega, z, pk_un (by omega), pk_us]
        rfl
      · rw [show 0 + (j - (3 + 3 * (f 3 0).toInt.toNat)) = 2 by omega, z, pk_us]
        rfl
    · rw [if_neg hj, pk_un (by omega), pk_un (by omega), pk_un (by omega)]
set_option maxHeartbeats 2000000 in
theorem mh_pathLine {n : Nat} {T : Nat → Int32} {N : Nat} {ps qs : Nat → Nat} {vs : Nat → Int} {M Qb : Nat} {fp : Int32 × Int32} {f : gb_F} {w : Int64} {p1 : Int32} {a : Nat} {fp2 : Int32 × Int32} (hP : gb_pl1 T N 0 ps qs vs M Qb) (h : gb_S1 T N ps qs M Qb 0 fp f) (h0 : 0 ≤ (f 3 0).toInt) (e1 : p1.toInt = a) (ha : a < ps 0) (hpN : ps 0 ≤ 600) (hp : ¬ fp.1 = 0 → fp.2.toInt < a) (hf : (gb_room 0 0 (f 3) ∧ fp2 = fp) ∨ (¬ gb_room 0 0 (f 3) ∧ fp2 = gb_note fp 3 a)) : gb_hm (ms_pathLine n f w p1) (fun f2 _ _ => gb_S1 T N ps qs M Qb 3 (gb_ff 0 qs vs fp2 3) f2 ∧ f2 0 9 = f 0 9 ∧ ∃ U : Nat → Int32, (M = gb_kn 0 → (gb_ff 0 qs vs fp2 (gb_kn 0)).1 = 0 → ∀ j, j < gb_kn 0 → (U j).toInt = vs j) ∧ gb_addR 0 0 U (f 3) (f2 3)) := by
  unfold ms_pathLine
  have t0 : Int32.toNatClampNeg 0 = 0 := by decide
  have cm : (5 : Int32).toInt = 5 := by decide
  have rE : gb_room 0 0 (f 3) ↔ (f 3 0).toInt < 5 := by
    unfold gb_room
    rw [if_pos rfl]
    omega
  rw [t0]
  refine hm_lt (fun x ex => hm_if (fun c => ?_) (fun c => ?_))
  · have nr : ¬ gb_room 0 0 (f 3) := fun z => by
      have := gi_le c
      have := rE.mp z
      rw [ex] at *
      omega
    have f2E : fp2 = gb_note fp 3 a := by
      rcases hf with z | z
      · exact absurd z.1 nr
      · exact z.2
    unfold ms_pathLine_15
    rw [if_pos rfl]
    refine hm_bd (mh_al3 h e1 ha hpN hp) (fun g u _ hg => ?_)
    rw [f2E]
    refine hm_mono (mh_path26 hP hg.1 (by rw [hg.2.1]; exact h0) (Or.inl ⟨rfl, by rw [hg.2.1]; exact nr⟩)) (fun f2 _ _ k => ?_)
    rw [hg.2.1, hg.2.2] at k
    exact k
  · have yr : gb_room 0 0 (f 3) := rE.mpr (by
      have := gi_nle c
      rw [ex] at this
      omega)
    have f2E : fp2 = fp := by
      rcases hf with z | z
      · exact z.2
      · exact absurd yr z.1
    unfold ms_pathLine_15
    rw [if_neg (by decide), f2E]
    exact mh_path26 hP h h0 (Or.inr ⟨rfl, yr⟩)
set_option maxHeartbeats 4000000 in
theorem mh_goose27 {n : Nat} {T : Nat → Int32} {N : Nat} {ps qs : Nat → Nat} {vs : Nat → Int} {M Qb : Nat} {fp : Int32 × Int32} {f : gb_F} {w : Int64} {v2 : Int32} (hP : gb_pl1 T N 1 ps qs vs M Qb) (h : gb_S1 T N ps qs M Qb 0 fp f) (h0 : 0 ≤ (f 3 1).toInt) (hv : (v2 = 0 ∧ ¬ gb_room 0 1 (f 3)) ∨ (v2 = 1 ∧ gb_room 0 1 (f 3))) : gb_hm (ms_gooseLine_27 n f w v2) (fun f2 _ _ => gb_S1 T N ps qs M Qb 5 (gb_ff 1 qs vs fp 5) f2 ∧ f2 0 9 = f 0 9 ∧ ∃ U : Nat → Int32, (M = gb_kn 1 → (gb_ff 1 qs vs fp (gb_kn 1)).1 = 0 → ∀ j, j < gb_kn 1 → (U j).toInt = vs j) ∧ gb_addR 0 1 U (f 3) (f2 3)) := by
  unfold ms_gooseLine_27
  have t0 : Int32.toNatClampNeg 1 = 1 := by decide
  rw [t0]
  refine hm_bd (mh_nu (l := 1) (i := 0) (fp := fp) (lo := 0) (hi := 4) hP.1 (fun z => hP.2.2 (by rw [← z]; decide)) (by decide) (by decide) (fun _ => can_rg (by decide) (by decide) (by decide)) h) (fun f1 u1 r0 g1 => ?_)
  obtain ⟨s1, v0, k1⟩ := g1
  refine hm_bd (mh_nu (l := 1) (i := 1) (fp := fp) (lo := 0) (hi := 4) hP.1 (fun z => hP.2.2 (by rw [← z]; decide)) (by decide) (by decide) (fun _ => can_rg (by decide) (by decide) (by decide)) s1) (fun f2 u2 r1 g2 => ?_)
  obtain ⟨s2, v1, k2⟩ := g2
  refine hm_bd (mh_nu (l := 1) (i := 2) (fp := fp) (lo := 0) (hi := 60) hP.1 (fun z => hP.2.2 (by rw [← z]; decide)) (by decide) (by decide) (fun _ => can_rg (by decide) (by decide) (by decide)) s2) (fun f3 u3 r2 g3 => ?_)
  obtain ⟨s3, v2, k3⟩ := g3
  refine hm_bd (mh_nu (l := 1) (i := 3) (fp := fp) (lo := 0) (hi := 1) hP.1 (fun z => hP.2.2 (by rw [← z]; decide)) (by decide) (by decide) (fun _ => can_rg (by decide) (by decide) (by decide)) s3) (fun f4 u4 r3 g4 => ?_)
  obtain ⟨s4, v3, k4⟩ := g4
  refine hm_bd (mh_nu (l := 1) (i := 4) (fp := fp) (lo := 0) (hi := 99) hP.1 (fun z => hP.2.2 (by rw [← z]; decide)) (by decide) (by decide) (fun _ => can_rg (by decide) (by decide) (by decide)) s4) (fun f5 u5 r4 g5 => ?_)
  obtain ⟨s5, v4, k5⟩ := g5
  have hU : M = gb_kn 1 → (gb_ff 1 qs vs fp (gb_kn 1)).1 = 0 → ∀ j, j < gb_kn 1 → ((fun j => if j = 0 then r0 else if j = 1 then r1 else if j = 2 then r2 else if j = 3 then r3 else r4) j).toInt = vs j := fun hM hz j hj => by
    have cc := (ff_0 _ hz).2
    have hM2 : M = 5 := hM
    have hj2 : j < 5 := hj
    have : j = 0 ∨ j = 1 ∨ j = 2 ∨ j = 3 ∨ j = 4 := by omega
    rcases this with rfl | rfl | rfl | rfl | rfl
    · exact v0 (by omega) (cc 0 (by decide))
    · exact v1 (by omega) (cc 1 (by decide))
    · exact v2 (by omega) (cc 2 (by decide))
    · exact v3 (by omega) (cc 3 (by decide))
    · exact v4 (by omega) (cc 4 (by decide))
  have kk : gb_ke f f5 := ke_t (ke_t (ke_t (ke_t (k1) k2) k3) k4) k5
  refine hm_if (fun c => hm_some ⟨s5, kk.2.2.1, _, hU, Or.inl ⟨?_, kk.1⟩⟩) (fun c => ?_)
  · rcases hv with z | z
    · exact z.2
    · rw [z.1] at c
      exact absurd c (by decide)
  · have hr : gb_room 0 1 (f 3) := by
      rcases hv with z | z
      · exact absurd z.1 c
      · exact z.2
    have hr2 : (f 3 1).toInt < 8 := by
      have := hr
      unfold gb_room at this
      rw [if_pos rfl] at this
      omega
    have c1 : (1 : Int32).toInt = 1 := by decide
    have c2 : (2 : Int32).toInt = 2 := by decide
    have c3 : (3 : Int32).toInt = 3 := by decide
    have c4 : (4 : Int32).toInt = 4 := by decide
    have c5 : (5 : Int32).toInt = 5 := by decide
    have c18 : (18 : Int32).toInt = 18 := by decide
    refine hm_lt (fun x ex => hm_lt (fun p ep => ?_))
    rw [kk.1] at ex
    have m1 : (5 * x).toInt = ((5 * (f 3 1).toInt.toNat : Nat) : Int) := by
      rw [ex, gb_tmul (by rw [c5]; omega) (by rw [c5]; omega), c5]
      omega
    have p0 : p.toInt = ((18 + 5 * (f 3 1).toInt.toNat : Nat) : Int) := by
      rw [ep, gb_tadd (by rw [m1, c18]; omega) (by rw [m1, c18]; omega), m1, c18]
      omega
    have p1 : (p + 1).toInt = ((18 + 5 * (f 3 1).toInt.toNat + 1 : Nat) : Int) := by
      rw [gb_tadd (by omega) (by omega), c1, p0]
      omega
    have p2 : (p + 2).toInt = ((18 + 5 * (f 3 1).toInt.toNat + 2 : Nat) : Int) := by
      rw [gb_tadd (by omega) (by omega), c2, p0]
      omega
    have p3 : (p + 3).toInt = ((18 + 5 * (f 3 1).toInt.toNat + 3 : Nat) : Int) := by
      rw [gb_tadd (by omega) (by omega), c3, p0]
      omega
    have p4 : (p + 4).toInt = ((18 + 5 * (f 3 1).toInt.toNat + 4 : Nat) : Int) := by
      rw [gb_tadd (by omega) (by omega), c4, p0]
      omega
    refine hm_ck (fun _ _ => hm_lt (fun a0 e0 => hm_ck (fun _ _ => hm_lt (fun a1 e1 => hm_ck (fun _ _ => hm_lt (fun a2 e2 => hm_ck (fun _ _ => hm_lt (fun a3 e3 => hm_ck (fun _ _ => hm_lt (fun a4 e4 => hm_lt (fun y ey => hm_lt (fun b eb => hm_some ?_))))))))))))
    have q3 : a4 3 = upd (upd (upd (upd (upd (f 3) (18 + 5 * (f 3 1).toInt.toNat) r0) (18 + 5 * (f 3 1).toInt.toNat + 1) r1) (18 + 5 * (f 3 1).toInt.toNat + 2) r2) (18 + 5 * (f 3 1).toInt.toNat + 3) r3) (18 + 5 * (f 3 1).toInt.toNat + 4) r4 := by rw [e4, gb_us, gi_tn p4, e3, gb_us, gi_tn p3, e2, gb_us, gi_tn p2, e1, gb_us, gi_tn p1, e0, gb_us, gi_tn p0, kk.1]
    have qn : ∀ q, q ≠ 3 → a4 q = f5 q := fun q hq => by rw [e4, gb_un hq, e3, gb_un hq, e2, gb_un hq, e1, gb_un hq, e0, gb_un hq]
    have y0 : y = f 3 1 := by rw [ey, q3, pk_un (by omega), pk_un (by omega), pk_un (by omega), pk_un (by omega), pk_un (by omega)]
    have b0 : b 0 = f5 0 := by rw [eb, gb_un (by decide)]; exact qn 0 (by decide)
    have b1 : b 1 = f5 1 := by rw [eb, gb_un (by decide)]; exact qn 1 (by decide)
    refine ⟨S1_same s5 b0 b1, by rw [b0]; exact kk.2.2.1, _, hU, Or.inr ⟨hr, Or.inl ⟨rfl, Or.inr (Or.inr ⟨rfl, ?_⟩)⟩⟩⟩
    rw [eb, gb_us, y0, q3]
    congr 1
    funext j
    unfold va_cpy
    by_cases hj : 18 + 5 * (f 3 1).toInt.toNat ≤ j ∧ j < 18 + 5 * (f 3 1).toInt.toNat + 5
    · rw [if_pos hj]
      have : j = 18 + 5 * (f 3 1).toInt.toNat ∨ j = 18 + 5 * (f 3 1).toInt.toNat + 1 ∨ j = 18 + 5 * (f 3 1).toInt.toNat + 2 ∨ j = 18 + 5 * (f 3 1).toInt.toNat + 3 ∨ j = 18 + 5 * (f 3 1).toInt.toNat + 4 := by omega
      rcases this with z | z | z | z | z
      · rw [show 0 + (j - (18 + 5 * (f 3 1).toInt.toNat)) = 0 by omega, z, pk_un (by omega), pk_un (by omega), pk_un (by omega), pk_un (by omega), pk_us]
        rfl
      · rw [show 0 + (j - (18 + 5 * (f 3 1).toInt.toNat)) = 1 by omega, z, pk_un (by omega), pk_un (by omega), pk_un (by omega), pk_us]
        rfl
      · rw [show 0 + (j - (18 + 5 * (f 3 1).toInt.toNat)) = 2 by omega, z, pk_un (by omega), pk_un (by omega), pk_us]
        rfl
      · rw [show 0 + (j - (18 + 5 * (f 3 1).toInt.toNat)) = 3 by omega, z, pk_un (by omega), pk_us]
        rfl
      · rw [show 0 + (j - (18 + 5 * (f 3 1).toInt.toNat)) = 4 by omega, z, pk_us]
        rfl
    · rw [if_neg hj, pk_un (by omega), pk_un (by omega), pk_un (by omega), pk_un (by omega), pk_un (by omega)]
set_option maxHeartbeats 2000000 in
theorem mh_gooseLine {n : Nat} {T : Nat → Int32} {N : Nat} {ps qs : Nat → Nat} {vs : Nat → Int} {M Qb : Nat} {fp : Int32 × Int32} {f : gb_F} {w : Int64} {p1 : Int32} {a : Nat} {fp2 : Int32 × Int32} (hP : gb_pl1 T N 1 ps qs vs M Qb) (h : gb_S1 T N ps qs M Qb 0 fp f) (h0 : 0 ≤ (f 3 1).toInt) (e1 : p1.toInt = a) (ha : a < ps 0) (hpN : ps 0 ≤ 600) (hp : ¬ fp.1 = 0 → fp.2.toInt < a) (hf : (gb_room 0 1 (f 3) ∧ fp2 = fp) ∨ (¬ gb_room 0 1 (f 3) ∧ fp2 = gb_note fp 3 a)) : gb_hm (ms_gooseLine n f w p1) (fun f2 _ _ => gb_S1 T N ps qs M Qb 5 (gb_ff 1 qs vs fp2 5) f2 ∧ f2 0 9 = f 0 9 ∧ ∃ U : Nat → Int32, (M = gb_kn 1 → (gb_ff 1 qs vs fp2 (gb_kn 1)).1 = 0 → ∀ j, j < gb_kn 1 → (U j).toInt = vs j) ∧ gb_addR 0 1 U (f 3) (f2 3)) := by
  unfold ms_gooseLine
  have t0 : Int32.toNatClampNeg 1 = 1 := by decide
  have cm : (8 : Int32).toInt = 8 := by decide
  have rE : gb_room 0 1 (f 3) ↔ (f 3 1).toInt < 8 := by
    unfold gb_room
    rw [if_pos rfl]
    omega
  rw [t0]
  refine hm_lt (fun x ex => hm_if (fun c => ?_) (fun c => ?_))
  · have nr : ¬ gb_room 0 1 (f 3) := fun z => by
      have := gi_le c
      have := rE.mp z
      rw [ex] at *
      omega
    have f2E : fp2 = gb_note fp 3 a := by
      rcases hf with z | z
      · exact absurd z.1 nr
      · exact z.2
    unfold ms_gooseLine_16
    rw [if_pos rfl]
    refine hm_bd (mh_al3 h e1 ha hpN hp) (fun g u _ hg => ?_)
    rw [f2E]
    refine hm_mono (mh_goose27 hP hg.1 (by rw [hg.2.1]; exact h0) (Or.inl ⟨rfl, by rw [hg.2.1]; exact nr⟩)) (fun f2 _ _ k => ?_)
    rw [hg.2.1, hg.2.2] at k
    exact k
  · have yr : gb_room 0 1 (f 3) := rE.mpr (by
      have := gi_nle c
      rw [ex] at this
      omega)
    have f2E : fp2 = fp := by
      rcases hf with z | z
      · exact z.2
      · exact absurd yr z.1
    unfold ms_gooseLine_16
    rw [if_neg (by decide), f2E]
    exact mh_goose27 hP h h0 (Or.inr ⟨rfl, yr⟩)
