/-! THE REFERENCE: deeds, terms, seen ones -/
theorem note_i {fp : Int32 × Int32} {k : Int32} {q : Nat} (hk : ¬ k = 0) : gb_note (gb_note fp k q) k q = gb_note fp k q := by
  have := note_0 (fp := fp) (k := k) (q := q) hk
  show (if (gb_note fp k q).1 = 0 then (k, nI q) else gb_note fp k q) = gb_note fp k q
  rw [if_neg this]
theorem note_n {fp : Int32 × Int32} {k : Int32} {q : Nat} (h : ¬ fp.1 = 0) : gb_note fp k q = fp := by
  unfold gb_note
  rw [if_neg h]
set_option maxHeartbeats 2000000 in
theorem mh_deed3 {n : Nat} {T : Nat → Int32} {N : Nat} {ps qs : Nat → Nat} {vs : Nat → Int} {M Qb : Nat} {fp : Int32 × Int32} {f : gb_F} {w : Int64} (hP : gb_pl1 T N 3 ps qs vs M Qb) (h : gb_S1 T N ps qs M Qb 0 fp f) (h0 : 0 ≤ (f 3 0).toInt) : gb_hm (ms_deedLine_39 n f w 0) (fun f2 _ _ => gb_ml T N 1 3 ps qs vs M Qb fp f f2) := by
  unfold ms_deedLine_39
  refine hm_bd (mh_inY (by decide) (by decide)) (fun gY uY rY hY => ?_)
  obtain ⟨eY, eW, eR⟩ := hY
  subst eR
  have eY2 := eY.symm
  subst eY2
  rw [if_neg (by decide)]
  refine hm_bd (mh_gooseTold (l := 3) (i := 0) (fp := fp) hP.1 (fun z => hP.2.2 (by rw [← z]; decide)) (fun _ => can_rg (by decide) (by decide) (by decide)) h) (fun f1 u1 r0 g1 => ?_)
  obtain ⟨s1, v0, k1⟩ := g1
  unfold ms_deedLine_61
  refine hm_bd (mh_inY (by decide) (by decide)) (fun gY uY rY hY => ?_)
  obtain ⟨eY, eW, eR⟩ := hY
  subst eR
  have eY2 := eY.symm
  subst eY2
  rw [if_neg (by decide)]
  refine hm_bd (mh_pathTold (l := 3) (i := 1) (fp := fp) hP.1 (fun z => hP.2.2 (by rw [← z]; decide)) (fun _ => can_rg (by decide) (by decide) (by decide)) s1) (fun f2 u2 r1 g2 => ?_)
  obtain ⟨s2, v1, k2⟩ := g2
  unfold ms_deedLine_76
  rw [if_neg (by decide)]
  unfold ms_deedLine_125
  rw [if_neg (by decide)]
  unfold ms_deedLine_139
  rw [if_neg (by decide)]
  unfold ms_deedLine_152
  rw [if_neg (by decide)]
  have kk : gb_ke f f2 := ke_t (k1) k2
  have hU : M = gb_kn 3 → (gb_ff 3 qs vs fp (gb_kn 3)).1 = 0 → ∀ j, j < gb_kn 3 → ((fun j => if j = 0 then r0 else r1) j).toInt = vs j := fun hM hz j hj => by
    have cc := (ff_0 _ hz).2
    have hM2 : M = 2 := hM
    have hj2 : j < 2 := hj
    have : j = 0 ∨ j = 1 := by omega
    rcases this with rfl | rfl
    · exact v0 (by omega) (cc 0 (by decide))
    · exact v1 (by omega) (cc 1 (by decide))
  refine hm_bd (mh_adds4 (mi := 24) (by decide) (by decide) (by rw [kk.1]; exact h0)) (fun ga ua _ ha => ?_)
  obtain ⟨na, ha⟩ := ha
  rw [kk.1] at ha
  exact mh_fin (f0 := f) (U := (fun j => if j = 0 then r0 else r1)) hP.2.1 (S1_same s2 (na 0 (by decide)) (na 1 (by decide))) hU (addR_1 (by decide) rfl rfl rfl ha) (Or.inl ⟨by decide, (by rw [na 0 (by decide)] : ga 0 9 = f2 0 9).trans kk.2.2.1⟩)
set_option maxHeartbeats 2000000 in
theorem mh_deed4 {n : Nat} {T : Nat → Int32} {N : Nat} {ps qs : Nat → Nat} {vs : Nat → Int} {M Qb : Nat} {fp : Int32 × Int32} {f : gb_F} {w : Int64} (hP : gb_pl1 T N 4 ps qs vs M Qb) (h : gb_S1 T N ps qs M Qb 0 fp f) (h0 : 0 ≤ (f 3 0).toInt) : gb_hm (ms_deedLine_39 n f w 1) (fun f2 _ _ => gb_ml T N 1 4 ps qs vs M Qb fp f f2) := by
  unfold ms_deedLine_39
  refine hm_bd (mh_inY (by decide) (by decide)) (fun gY uY rY hY => ?_)
  obtain ⟨eY, eW, eR⟩ := hY
  subst eR
  have eY2 := eY.symm
  subst eY2
  rw [if_neg (by decide)]
  refine hm_bd (mh_gooseTold (l := 4) (i := 0) (fp := fp) hP.1 (fun z => hP.2.2 (by rw [← z]; decide)) (fun _ => can_rg (by decide) (by decide) (by decide)) h) (fun f1 u1 r0 g1 => ?_)
  obtain ⟨s1, v0, k1⟩ := g1
  unfold ms_deedLine_61
  refine hm_bd (mh_inY (by decide) (by decide)) (fun gY uY rY hY => ?_)
  obtain ⟨eY, eW, eR⟩ := hY
  subst eR
  have eY2 := eY.symm
  subst eY2
  rw [if_neg (by decide)]
  refine hm_bd (mh_pathTold (l := 4) (i := 1) (fp := fp) hP.1 (fun z => hP.2.2 (by rw [← z]; decide)) (fun _ => can_rg (by decide) (by decide) (by decide)) s1) (fun f2 u2 r1 g2 => ?_)
  obtain ⟨s2, v1, k2⟩ := g2
  unfold ms_deedLine_76
  rw [if_neg (by decide)]
  unfold ms_deedLine_125
  rw [if_neg (by decide)]
  unfold ms_deedLine_139
  rw [if_neg (by decide)]
  unfold ms_deedLine_152
  rw [if_neg (by decide)]
  have kk : gb_ke f f2 := ke_t (k1) k2
  have hU : M = gb_kn 4 → (gb_ff 4 qs vs fp (gb_kn 4)).1 = 0 → ∀ j, j < gb_kn 4 → ((fun j => if j = 0 then r0 else r1) j).toInt = vs j := fun hM hz j hj => by
    have cc := (ff_0 _ hz).2
    have hM2 : M = 2 := hM
    have hj2 : j < 2 := hj
    have : j = 0 ∨ j = 1 := by omega
    rcases this with rfl | rfl
    · exact v0 (by omega) (cc 0 (by decide))
    · exact v1 (by omega) (cc 1 (by decide))
  refine hm_bd (mh_adds4 (mi := 24) (by decide) (by decide) (by rw [kk.1]; exact h0)) (fun ga ua _ ha => ?_)
  obtain ⟨na, ha⟩ := ha
  rw [kk.1] at ha
  exact mh_fin (f0 := f) (U := (fun j => if j = 0 then r0 else r1)) hP.2.1 (S1_same s2 (na 0 (by decide)) (na 1 (by decide))) hU (addR_1 (by decide) rfl rfl rfl ha) (Or.inl ⟨by decide, (by rw [na 0 (by decide)] : ga 0 9 = f2 0 9).trans kk.2.2.1⟩)
set_option maxHeartbeats 2000000 in
theorem mh_deed5 {n : Nat} {T : Nat → Int32} {N : Nat} {ps qs : Nat → Nat} {vs : Nat → Int} {M Qb : Nat} {fp : Int32 × Int32} {f : gb_F} {w : Int64} (hP : gb_pl1 T N 5 ps qs vs M Qb) (h : gb_S1 T N ps qs M Qb 0 fp f) (h0 : 0 ≤ (f 3 0).toInt) : gb_hm (ms_deedLine_39 n f w 2) (fun f2 _ _ => gb_ml T N 1 5 ps qs vs M Qb fp f f2) := by
  unfold ms_deedLine_39
  refine hm_bd (mh_inY (by decide) (by decide)) (fun gY uY rY hY => ?_)
  obtain ⟨eY, eW, eR⟩ := hY
  subst eR
  have eY2 := eY.symm
  subst eY2
  rw [if_neg (by decide)]
  refine hm_bd (mh_gooseTold (l := 5) (i := 0) (fp := fp) hP.1 (fun z => hP.2.2 (by rw [← z]; decide)) (fun _ => can_rg (by decide) (by decide) (by decide)) h) (fun f1 u1 r0 g1 => ?_)
  obtain ⟨s1, v0, k1⟩ := g1
  unfold ms_deedLine_61
  refine hm_bd (mh_inY (by decide) (by decide)) (fun gY uY rY hY => ?_)
  obtain ⟨eY, eW, eR⟩ := hY
  subst eR
  have eY2 := eY.symm
  subst eY2
  rw [if_neg (by decide)]
  refine hm_bd (mh_pathTold (l := 5) (i := 1) (fp := fp) hP.1 (fun z => hP.2.2 (by rw [← z]; decide)) (fun _ => can_rg (by decide) (by decide) (by decide)) s1) (fun f2 u2 r1 g2 => ?_)
  obtain ⟨s2, v1, k2⟩ := g2
  unfold ms_deedLine_76
  rw [if_neg (by decide)]
  unfold ms_deedLine_125
  rw [if_neg (by decide)]
  unfold ms_deedLine_139
  rw [if_neg (by decide)]
  unfold ms_deedLine_152
  rw [if_neg (by decide)]
  have kk : gb_ke f f2 := ke_t (k1) k2
  have hU : M = gb_kn 5 → (gb_ff 5 qs vs fp (gb_kn 5)).1 = 0 → ∀ j, j < gb_kn 5 → ((fun j => if j = 0 then r0 else r1) j).toInt = vs j := fun hM hz j hj => by
    have cc := (ff_0 _ hz).2
    have hM2 : M = 2 := hM
    have hj2 : j < 2 := hj
    have : j = 0 ∨ j = 1 := by omega
    rcases this with rfl | rfl
    · exact v0 (by omega) (cc 0 (by decide))
    · exact v1 (by omega) (cc 1 (by decide))
  refine hm_bd (mh_adds4 (mi := 24) (by decide) (by decide) (by rw [kk.1]; exact h0)) (fun ga ua _ ha => ?_)
  obtain ⟨na, ha⟩ := ha
  rw [kk.1] at ha
  exact mh_fin (f0 := f) (U := (fun j => if j = 0 then r0 else r1)) hP.2.1 (S1_same s2 (na 0 (by decide)) (na 1 (by decide))) hU (addR_1 (by decide) rfl rfl rfl ha) (Or.inl ⟨by decide, (by rw [na 0 (by decide)] : ga 0 9 = f2 0 9).trans kk.2.2.1⟩)
set_option maxHeartbeats 2000000 in
theorem mh_deed7 {n : Nat} {T : Nat → Int32} {N : Nat} {ps qs : Nat → Nat} {vs : Nat → Int} {M Qb : Nat} {fp : Int32 × Int32} {f : gb_F} {w : Int64} (hP : gb_pl1 T N 7 ps qs vs M Qb) (h : gb_S1 T N ps qs M Qb 0 fp f) (h0 : 0 ≤ (f 3 0).toInt) : gb_hm (ms_deedLine_39 n f w 4) (fun f2 _ _ => gb_ml T N 1 7 ps qs vs M Qb fp f f2) := by
  unfold ms_deedLine_39
  refine hm_bd (mh_inY (by decide) (by decide)) (fun gY uY rY hY => ?_)
  obtain ⟨eY, eW, eR⟩ := hY
  subst eR
  have eY2 := eY.symm
  subst eY2
  rw [if_neg (by decide)]
  refine hm_bd (mh_gooseTold (l := 7) (i := 0) (fp := fp) hP.1 (fun z => hP.2.2 (by rw [← z]; decide)) (fun _ => can_rg (by decide) (by decide) (by decide)) h) (fun f1 u1 r0 g1 => ?_)
  obtain ⟨s1, v0, k1⟩ := g1
  unfold ms_deedLine_61
  refine hm_bd (mh_inN (by decide)) (fun gY uY rY hY => ?_)
  obtain ⟨eY, eW, eR⟩ := hY
  subst eR
  have eY2 := eY.symm
  subst eY2
  rw [if_pos rfl]
  unfold ms_deedLine_76
  rw [if_neg (by decide)]
  unfold ms_deedLine_125
  rw [if_pos rfl]
  refine hm_bd (mh_nu (l := 7) (i := 1) (fp := fp) (lo := 0) (hi := 60) hP.1 (fun z => hP.2.2 (by rw [← z]; decide)) (by decide) (by decide) (fun _ => can_rg (by decide) (by decide) (by decide)) s1) (fun f2 u2 r1 g2 => ?_)
  obtain ⟨s2, v1, k2⟩ := g2
  unfold ms_deedLine_139
  rw [if_neg (by decide)]
  unfold ms_deedLine_152
  rw [if_neg (by decide)]
  have kk : gb_ke f f2 := ke_t (k1) k2
  have hU : M = gb_kn 7 → (gb_ff 7 qs vs fp (gb_kn 7)).1 = 0 → ∀ j, j < gb_kn 7 → ((fun j => if j = 0 then r0 else r1) j).toInt = vs j := fun hM hz j hj => by
    have cc := (ff_0 _ hz).2
    have hM2 : M = 2 := hM
    have hj2 : j < 2 := hj
    have : j = 0 ∨ j = 1 := by omega
    rcases this with rfl | rfl
    · exact v0 (by omega) (cc 0 (by decide))
    · exact v1 (by omega) (cc 1 (by decide))
  refine hm_bd (mh_adds4 (mi := 24) (by decide) (by decide) (by rw [kk.1]; exact h0)) (fun ga ua _ ha => ?_)
  obtain ⟨na, ha⟩ := ha
  rw [kk.1] at ha
  exact mh_fin (f0 := f) (U := (fun j => if j = 0 then r0 else r1)) hP.2.1 (S1_same s2 (na 0 (by decide)) (na 1 (by decide))) hU (addR_1 (by decide) rfl rfl rfl ha) (Or.inl ⟨by decide, (by rw [na 0 (by decide)] : ga 0 9 = f2 0 9).trans kk.2.2.1⟩)
set_option maxHeartbeats 2000000 in
theorem mh_deed8 {n : Nat} {T : Nat → Int32} {N : Nat} {ps qs : Nat → Nat} {vs : Nat → Int} {M Qb : Nat} {fp : Int32 × Int32} {f : gb_F} {w : Int64} (hP : gb_pl1 T N 8 ps qs vs M Qb) (h : gb_S1 T N ps qs M Qb 0 fp f) (h0 : 0 ≤ (f 3 0).toInt) : gb_hm (ms_deedLine_39 n f w 5) (fun f2 _ _ => gb_ml T N 1 8 ps qs vs M Qb fp f f2) := by
  unfold ms_deedLine_39
  refine hm_bd (mh_inN (by decide)) (fun gY uY rY hY => ?_)
  obtain ⟨eY, eW, eR⟩ := hY
  subst eR
  have eY2 := eY.symm
  subst eY2
  rw [if_pos rfl]
  unfold ms_deedLine_61
  refine hm_bd (mh_inN (by decide)) (fun gY uY rY hY => ?_)
  obtain ⟨eY, eW, eR⟩ := hY
  subst eR
  have eY2 := eY.symm
  subst eY2
  rw [if_pos rfl]
  unfold ms_deedLine_76
  rw [if_neg (by decide)]
  unfold ms_deedLine_125
  rw [if_neg (by decide)]
  unfold ms_deedLine_139
  rw [if_pos rfl]
  refine hm_bd (mh_nu (l := 8) (i := 0) (fp := fp) (lo := 0) (hi := 10) hP.1 (fun z => hP.2.2 (by rw [← z]; decide)) (by decide) (by decide) (fun _ => can_rg (by decide) (by decide) (by decide)) h) (fun f1 u1 r0 g1 => ?_)
  obtain ⟨s1, v0, k1⟩ := g1
  unfold ms_deedLine_152
  rw [if_neg (by decide)]
  have kk : gb_ke f f1 := k1
  have hU : M = gb_kn 8 → (gb_ff 8 qs vs fp (gb_kn 8)).1 = 0 → ∀ j, j < gb_kn 8 → ((fun j => r0) j).toInt = vs j := fun hM hz j hj => by
    have cc := (ff_0 _ hz).2
    have hM2 : M = 1 := hM
    have hj2 : j < 1 := hj
    have : j = 0 := by omega
    subst this
    exact v0 (by omega) (cc 0 (by decide))
  refine hm_bd (mh_adds4 (mi := 24) (by decide) (by decide) (by rw [kk.1]; exact h0)) (fun ga ua _ ha => ?_)
  obtain ⟨na, ha⟩ := ha
  rw [kk.1] at ha
  exact mh_fin (f0 := f) (U := (fun j => r0)) hP.2.1 (S1_same s1 (na 0 (by decide)) (na 1 (by decide))) hU (addR_1 (by decide) rfl rfl rfl ha) (Or.inl ⟨by decide, (by rw [na 0 (by decide)] : ga 0 9 = f1 0 9).trans kk.2.2.1⟩)
set_option maxHeartbeats 2000000 in
theorem mh_deed9 {n : Nat} {T : Nat → Int32} {N : Nat} {ps qs : Nat → Nat} {vs : Nat → Int} {M Qb : Nat} {fp : Int32 × Int32} {f : gb_F} {w : Int64} (hP : gb_pl1 T N 9 ps qs vs M Qb) (h : gb_S1 T N ps qs M Qb 0 fp f) (h0 : 0 ≤ (f 3 0).toInt) : gb_hm (ms_deedLine_39 n f w 6) (fun f2 _ _ => gb_ml T N 1 9 ps qs vs M Qb fp f f2) := by
  unfold ms_deedLine_39
  refine hm_bd (mh_inN (by decide)) (fun gY uY rY hY => ?_)
  obtain ⟨eY, eW, eR⟩ := hY
  subst eR
  have eY2 := eY.symm
  subst eY2
  rw [if_pos rfl]
  unfold ms_deedLine_61
  refine hm_bd (mh_inN (by decide)) (fun gY uY rY hY => ?_)
  obtain ⟨eY, eW, eR⟩ := hY
  subst eR
  have eY2 := eY.symm
  subst eY2
  rw [if_pos rfl]
  unfold ms_deedLine_76
  rw [if_neg (by decide)]
  unfold ms_deedLine_125
  rw [if_neg (by decide)]
  unfold ms_deedLine_139
  rw [if_neg (by decide)]
  unfold ms_deedLine_152
  rw [if_neg (by decide)]
  have kk : gb_ke f f := ke_r
  have hU : M = gb_kn 9 → (gb_ff 9 qs vs fp (gb_kn 9)).1 = 0 → ∀ j, j < gb_kn 9 → ((fun j => (0 : Int32)) j).toInt = vs j := fun hM hz j hj => by
    exact absurd hj (Nat.not_lt_zero _)
  refine hm_bd (mh_adds4 (mi := 24) (by decide) (by decide) (by rw [kk.1]; exact h0)) (fun ga ua _ ha => ?_)
  obtain ⟨na, ha⟩ := ha
  rw [kk.1] at ha
  exact mh_fin (f0 := f) (U := (fun j => (0 : Int32))) hP.2.1 (S1_same h (na 0 (by decide)) (na 1 (by decide))) hU (addR_1 (by decide) rfl rfl rfl ha) (Or.inl ⟨by decide, (by rw [na 0 (by decide)] : ga 0 9 = f 0 9).trans kk.2.2.1⟩)
set_option maxHeartbeats 2000000 in
theorem mh_deed10 {n : Nat} {T : Nat → Int32} {N : Nat} {ps qs : Nat → Nat} {vs : Nat → Int} {M Qb : Nat} {fp : Int32 × Int32} {f : gb_F} {w : Int64} (hP : gb_pl1 T N 10 ps qs vs M Qb) (h : gb_S1 T N ps qs M Qb 0 fp f) (h0 : 0 ≤ (f 3 0).toInt) : gb_hm (ms_deedLine_39 n f w 7) (fun f2 _ _ => gb_ml T N 1 10 ps qs vs M Qb fp f f2) := by
  unfold ms_deedLine_39
  refine hm_bd (mh_inN (by decide)) (fun gY uY rY hY => ?_)
  obtain ⟨eY, eW, eR⟩ := hY
  subst eR
  have eY2 := eY.symm
  subst eY2
  rw [if_pos rfl]
  unfold ms_deedLine_61
  refine hm_bd (mh_inN (by decide)) (fun gY uY rY hY => ?_)
  obtain ⟨eY, eW, eR⟩ := hY
  subst eR
  have eY2 := eY.symm
  subst eY2
  rw [if_pos rfl]
  unfold ms_deedLine_76
  rw [if_neg (by decide)]
  unfold ms_deedLine_125
  rw [if_neg (by decide)]
  unfold ms_deedLine_139
  rw [if_neg (by decide)]
  unfold ms_deedLine_152
  rw [if_neg (by decide)]
  have kk : gb_ke f f := ke_r
  have hU : M = gb_kn 10 → (gb_ff 10 qs vs fp (gb_kn 10)).1 = 0 → ∀ j, j < gb_kn 10 → ((fun j => (0 : Int32)) j).toInt = vs j := fun hM hz j hj => by
    exact absurd hj (Nat.not_lt_zero _)
  refine hm_bd (mh_adds4 (mi := 24) (by decide) (by decide) (by rw [kk.1]; exact h0)) (fun ga ua _ ha => ?_)
  obtain ⟨na, ha⟩ := ha
  rw [kk.1] at ha
  exact mh_fin (f0 := f) (U := (fun j => (0 : Int32))) hP.2.1 (S1_same h (na 0 (by decide)) (na 1 (by decide))) hU (addR_1 (by decide) rfl rfl rfl ha) (Or.inl ⟨by decide, (by rw [na 0 (by decide)] : ga 0 9 = f 0 9).trans kk.2.2.1⟩)
set_option maxHeartbeats 2000000 in
theorem mh_deed11 {n : Nat} {T : Nat → Int32} {N : Nat} {ps qs : Nat → Nat} {vs : Nat → Int} {M Qb : Nat} {fp : Int32 × Int32} {f : gb_F} {w : Int64} (hP : gb_pl1 T N 11 ps qs vs M Qb) (h : gb_S1 T N ps qs M Qb 0 fp f) (h0 : 0 ≤ (f 3 0).toInt) : gb_hm (ms_deedLine_39 n f w 8) (fun f2 _ _ => gb_ml T N 1 11 ps qs vs M Qb fp f f2) := by
  unfold ms_deedLine_39
  refine hm_bd (mh_inN (by decide)) (fun gY uY rY hY => ?_)
  obtain ⟨eY, eW, eR⟩ := hY
  subst eR
  have eY2 := eY.symm
  subst eY2
  rw [if_pos rfl]
  unfold ms_deedLine_61
  refine hm_bd (mh_inN (by decide)) (fun gY uY rY hY => ?_)
  obtain ⟨eY, eW, eR⟩ := hY
  subst eR
  have eY2 := eY.symm
  subst eY2
  rw [if_pos rfl]
  unfold ms_deedLine_76
  rw [if_neg (by decide)]
  unfold ms_deedLine_125
  rw [if_neg (by decide)]
  unfold ms_deedLine_139
  rw [if_neg (by decide)]
  unfold ms_deedLine_152
  rw [if_pos rfl]
  refine hm_bd (mh_pathTold (l := 11) (i := 0) (fp := fp) hP.1 (fun z => hP.2.2 (by rw [← z]; decide)) (fun _ => can_rg (by decide) (by decide) (by decide)) h) (fun f1 u1 r0 g1 => ?_)
  obtain ⟨s1, v0, k1⟩ := g1
  have kk : gb_ke f f1 := k1
  have hU : M = gb_kn 11 → (gb_ff 11 qs vs fp (gb_kn 11)).1 = 0 → ∀ j, j < gb_kn 11 → ((fun j => r0) j).toInt = vs j := fun hM hz j hj => by
    have cc := (ff_0 _ hz).2
    have hM2 : M = 1 := hM
    have hj2 : j < 1 := hj
    have : j = 0 := by omega
    subst this
    exact v0 (by omega) (cc 0 (by decide))
  refine hm_bd (mh_adds4 (mi := 24) (by decide) (by decide) (by rw [kk.1]; exact h0)) (fun ga ua _ ha => ?_)
  obtain ⟨na, ha⟩ := ha
  rw [kk.1] at ha
  exact mh_fin (f0 := f) (U := (fun j => r0)) hP.2.1 (S1_same s1 (na 0 (by decide)) (na 1 (by decide))) hU (addR_1 (by decide) rfl rfl rfl ha) (Or.inl ⟨by decide, (by rw [na 0 (by decide)] : ga 0 9 = f1 0 9).trans kk.2.2.1⟩)
set_option maxHeartbeats 4000000 in
theorem mh_deed6 {n : Nat} {T : Nat → Int32} {N : Nat} {ps qs : Nat → Nat} {vs : Nat → Int} {M Qb : Nat} {fp : Int32 × Int32} {f : gb_F} {w : Int64} (hP : gb_pl1 T N 6 ps qs vs M Qb) (h : gb_S1 T N ps qs M Qb 0 fp f) (h0 : 0 ≤ (f 3 0).toInt) : gb_hm (ms_deedLine_39 n f w 3) (fun f2 _ _ => gb_ml T N 1 6 ps qs vs M Qb fp f f2) := by
  unfold ms_deedLine_39
  refine hm_bd (mh_inY (by decide) (by decide)) (fun gY uY rY hY => ?_)
  obtain ⟨eY, eW, eR⟩ := hY
  subst eY
  subst eR
  rw [if_neg (by decide)]
  have raw : gb_hm (ms_gooseTold n gY uY) (fun f2 _ r => gb_S1 T N ps qs M Qb 1 (gb_ff 6 qs vs fp 1) f2 ∧ (0 < M → r.toInt = if 0 ≤ vs 0 ∧ vs 0 ≤ 7 then vs 0 else 0) ∧ gb_ke gY f2) := by
    unfold ms_gooseTold
    refine hm_bd (mh_num (vs := vs) hP.1 (fun z => hP.2.2 (by rw [← z]; decide)) (lo := 0) (hi := 7) (by decide) (by decide) h) (fun f2 w2 r g => hm_some ⟨?_, g.2.1, g.2.2⟩)
    have := ff_1 (l := 6) (i := 0) (qs := qs) (vs := vs) (fp := fp) (lo := 0) (hi := 7) (can_rg (by decide) (by decide) (by decide))
    rw [this]
    exact g.1
  refine hm_bd raw (fun f1 u1 r0 g1 => ?_)
  obtain ⟨s1, w0, k1⟩ := g1
  unfold ms_deedLine_61
  refine hm_bd (mh_inN (by decide)) (fun g3 u3 r3 h3 => ?_)
  obtain ⟨e3, -, eR3⟩ := h3
  subst e3
  subst eR3
  rw [if_pos rfl]
  unfold ms_deedLine_76
  rw [if_pos rfl]
  have hcan6 : ∀ v v0 : Int, gb_can 6 1 v v0 ↔ (¬ v = v0 ∧ 0 ≤ v ∧ v ≤ 7) := fun v v0 => by
    have tb : (gb_tb2 (5 * 6 + 1)).toInt = 7 := by decide
    constructor
    · intro z
      obtain ⟨z1, z2, z3⟩ := z
      rw [tb] at z3
      rw [if_neg (by decide)] at z2
      exact ⟨fun y => z1 ⟨rfl, rfl, y⟩, z2, z3⟩
    · intro z
      refine ⟨fun y => z.1 y.2.2, ?_, ?_⟩
      · rw [if_neg (by decide)]
        exact z.2.1
      · rw [tb]
        exact z.2.2
  -- what stands behind the second number, by the fault told ahead of it
  have go : ∀ (g : gb_F) (u : Int64) (fpx : Int32 × Int32), gb_ke g3 g → gb_S1 T N ps qs M Qb 1 fpx g → (1 < M → (if 0 ≤ vs 1 ∧ vs 1 ≤ 7 then fpx else gb_note fpx 2 (qs 1)) = gb_ff 6 qs vs fp 2) → gb_hm (ms_deedLine_113 n g u 3 r0) (fun f2 _ _ => gb_ml T N 1 6 ps qs vs M Qb fp gY f2) := by
    intro g u fpx kg sg hfp
    unfold ms_deedLine_113
    have raw2 : gb_hm (ms_gooseTold n g u) (fun f2 _ r => gb_S1 T N ps qs M Qb 2 (gb_ff 6 qs vs fp 2) f2 ∧ (1 < M → r.toInt = if 0 ≤ vs 1 ∧ vs 1 ≤ 7 then vs 1 else 0) ∧ gb_ke g f2) := by
      unfold ms_gooseTold
      refine hm_bd (mh_num (vs := vs) hP.1 (fun z => hP.2.2 (by rw [← z]; decide)) (lo := 0) (hi := 7) (by decide) (by decide) sg) (fun f2 w2 r g => hm_some ⟨?_, g.2.1, g.2.2⟩)
      by_cases c : 1 < M
      · rw [← hfp c]
        exact g.1
      · rcases g.1 with z | z
        · exact Or.inl z
        · have := z.2.1
          omega
    refine hm_bd raw2 (fun f2 u2 r1 g2 => ?_)
    obtain ⟨s2, w1, k2⟩ := g2
    refine hm_bd (mh_pathTold (l := 6) (i := 2) (fp := fp) hP.1 (fun z => hP.2.2 (by rw [← z]; decide)) (fun _ => can_rg (by decide) (by decide) (by decide)) s2) (fun f3 u3 r2 g3' => ?_)
    obtain ⟨s3, v2, k3⟩ := g3'
    unfold ms_deedLine_125
    rw [if_neg (by decide)]
    unfold ms_deedLine_139
    rw [if_neg (by decide)]
    unfold ms_deedLine_152
    rw [if_neg (by decide)]
    have kk : gb_ke gY f3 := ke_t (ke_t (ke_t k1 kg) k2) k3
    have v0 : 0 < M → gb_can 6 0 (vs 0) (vs 0) → r0.toInt = vs 0 := fun z z2 => by
      rw [w0 z, if_pos ((can_rg (l := 6) (i := 0) (lo := 0) (hi := 7) (by decide) (by decide) (by decide)).mp z2)]
    have v1 : 1 < M → gb_can 6 1 (vs 1) (vs 0) → r1.toInt = vs 1 := fun z z2 => by
      rw [w1 z, if_pos ((hcan6 _ _).mp z2).2]
    have hU : M = gb_kn 6 → (gb_ff 6 qs vs fp (gb_kn 6)).1 = 0 → ∀ j, j < gb_kn 6 → ((fun j => if j = 0 then r0 else if j = 1 then r1 else r2) j).toInt = vs j := fun hM hz j hj => by
      have cc := (ff_0 _ hz).2
      have hM2 : M = 3 := hM
      have hj2 : j < 3 := hj
      have : j = 0 ∨ j = 1 ∨ j = 2 := by omega
      rcases this with rfl | rfl | rfl
      · exact v0 (by omega) (cc 0 (by decide))
      · exact v1 (by omega) (cc 1 (by decide))
      · exact v2 (by omega) (cc 2 (by decide))
    refine hm_bd (mh_adds4 (mi := 24) (by decide) (by decide) (by rw [kk.1]; exact h0)) (fun ga ua _ ha => ?_)
    obtain ⟨na, ha⟩ := ha
    rw [kk.1] at ha
    exact mh_fin (f0 := gY) (U := (fun j => if j = 0 then r0 else if j = 1 then r1 else r2)) hP.2.1 (S1_same s3 (na 0 (by decide)) (na 1 (by decide))) hU (addR_1 (by decide) rfl rfl rfl ha) (Or.inl ⟨by decide, (by rw [na 0 (by decide)] : ga 0 9 = f3 0 9).trans kk.2.2.1⟩)
  have same : (1 < M → ¬ vs 1 = (if 0 ≤ vs 0 ∧ vs 0 ≤ 7 then vs 0 else 0)) → ∀ u, gb_hm (ms_deedLine_113 n g3 u 3 r0) (fun f2 _ _ => gb_ml T N 1 6 ps qs vs M Qb fp gY f2) := fun hne u => by
    refine go g3 u _ ke_r s1 (fun hM => ?_)
    have hne2 := hne hM
    show _ = (if gb_can 6 1 (vs 1) (vs 0) then gb_ff 6 qs vs fp 1 else gb_note (gb_ff 6 qs vs fp 1) 2 (qs 1))
    by_cases c : 0 ≤ vs 1 ∧ vs 1 ≤ 7
    · rw [if_pos c, if_pos ((hcan6 _ _).mpr ⟨fun e => ?_, c⟩)]
      rw [← e, if_pos c] at hne2
      exact hne2 rfl
    · rw [if_neg c, if_neg (fun z => c ((hcan6 _ _).mp z).2)]
  refine hm_if (fun c8 => hm_if (fun c5 => hm_if (fun c6 => ?_) (fun c6 => ?_)) (fun c5 => ?_)) (fun c8 => ?_)
  · -- the second number is the first one told
    rcases s1 with z | ⟨z1, z2, z3, z4, z5⟩
    · exact absurd c8 z.1
    · obtain ⟨hx, q, hr, ht⟩ := z3
      have hN := hx.2.1
      by_cases hM : 1 < M
      · have nm := hP.1 1 hM
        obtain ⟨n1, n2, n3, n4, n5⟩ := nm
        have eq := run_uq hr n1
        subst eq
        have nle := num_le (hP.1 1 hM)
        have hdq : gb_di T N (qs 1) := n2.2.1 _ (Nat.le_refl _) n3
        have f6 : (g3 0 6).toInt = vs 1 := by
          obtain ⟨t1, t2, t3, t4⟩ := ht
          rcases t4 with y | y | y | y
          · have := hdq.1
            omega
          · obtain ⟨e, y1, y2, -⟩ := y
            exact absurd (y1.2.1 _ (Nat.le_refl _) y2) (di_nb hdq)
          · obtain ⟨e, y1, y2, y3, y4⟩ := y
            have := run_uq y1 n2
            subst this
            rcases y4 with y4 | y4
            · omega
            · rw [y4.2.2, n5]
          · exact absurd hdq y.2.2.1
        have hv : vs 1 = (if 0 ≤ vs 0 ∧ vs 0 ≤ 7 then vs 0 else 0) := by
          rw [← f6, c6]
          exact w0 (by omega)
        have pl : ¬ g3 1 5 = 0 → (g3 1 6).toInt < qs 1 ∨ ((g3 1 6).toInt = qs 1 ∧ (g3 1 5).toInt ≤ (2 : Int32).toInt) := fun z => by
          have z2 : ¬ (gb_ff 6 qs vs fp 1).1 = 0 := by rw [← z4]; exact z
          have c2 : (2 : Int32).toInt = 2 := by decide
          rcases z5 z2 with y | y
          · left
            rw [← z4] at y
            have y' : (g3 1 6).toInt < ps 1 := y
            omega
          · right
            rw [← z4] at y
            have y1 : (g3 1 6).toInt = qs 1 := y.2.1
            have y2 : (g3 1 5).toInt ≤ 2 := y.2.2
            exact ⟨y1, by rw [c2]; exact y2⟩
        refine hm_bd (mh_also0 z1 ht.1 (by omega) pl) (fun g u _ hg => ?_)
        have ft : (gb_ff 6 qs vs fp 2) = gb_note (gb_ff 6 qs vs fp 1) 2 (qs 1) := by
          show (if gb_can 6 1 (vs 1) (vs 0) then gb_ff 6 qs vs fp 1 else gb_note (gb_ff 6 qs vs fp 1) 2 (qs 1)) = _
          by_cases c : gb_can 6 1 (vs 1) (vs 0)
          · rw [if_pos c]
            have c' := (hcan6 _ _).mp c
            have nin : ¬ (0 ≤ vs 0 ∧ vs 0 ≤ 7) := fun y => by
              rw [if_pos y] at hv
              exact c'.1 hv
            have f1n : ¬ (gb_ff 6 qs vs fp 1).1 = 0 := by
              rw [ff_1 (l := 6) (i := 0) (lo := 0) (hi := 7) (can_rg (by decide) (by decide) (by decide)), if_neg nin]
              exact note_0 (by decide)
            rw [note_n f1n]
          · rw [if_neg c]
        refine go g u (gb_note (gb_ff 6 qs vs fp 1) 2 (qs 1)) ⟨hg.1 3 (by decide), hg.1 2 (by decide), by rw [hg.1 0 (by decide)], by rw [hg.1 0 (by decide)], hg.2.1⟩ (Or.inr ⟨by rw [hg.1 0 (by decide)]; exact z1, z2, rs_same ⟨hx, _, hr, ht⟩ (hg.1 0 (by decide)) hg.2.1, by rw [hg.2.2, z4], fun y => ?_⟩) (fun _ => ?_)
        · unfold gb_note at y ⊢
          by_cases c : (gb_ff 6 qs vs fp 1).1 = 0
          · rw [if_pos c]
            refine Or.inr ⟨hM, ?_, (by decide : (2 : Int32).toInt ≤ 2)⟩
            show (nI (qs 1)).toInt = qs 1
            exact nI_toInt (by omega)
          · rw [if_neg c]
            exact z5 c
        · rw [ft]
          by_cases c : 0 ≤ vs 1 ∧ vs 1 ≤ 7
          · rw [if_pos c]
          · rw [if_neg c, note_i (by decide)]
      · -- no second number: the token is none
        have hMe : 1 = M := by omega
        obtain ⟨b1, b2⟩ := hP.2.2 (by rw [← hMe]; decide)
        rw [← hMe] at b1
        have eq := run_uq hr b1
        subst eq
        obtain ⟨t1, t2, t3, t4⟩ := ht
        exfalso
        rcases t4 with y | y | y | y
        · rw [c5] at y
          exact absurd y.2 (by decide)
        · obtain ⟨e, -, -, -, y4⟩ := y
          rcases y4 with y4 | y4
          · obtain ⟨l, -, -, y5, -⟩ := y4
            rw [c5] at y5
            exact absurd y5 (by decide)
          · rw [c5] at y4
            exact absurd y4.2 (by decide)
        · obtain ⟨e, y1, y2, -, y4⟩ := y
          rcases y4 with y4 | y4
          · rw [c5] at y4
            exact absurd y4.2 (by decide)
          · have := b2 e y1
            omega
        · rcases y.2.2.2.2 with y4 | y4
          · rw [c5] at y4
            exact absurd y4.2 (by decide)
          · rw [c5] at y4
            exact absurd y4.2 (by decide)
  · refine same (fun hM e => c6 ?_) _
    rcases s1 with z | ⟨z1, z2, z3, z4, z5⟩
    · exact absurd c8 z.1
    · obtain ⟨hx, q, hr, ht⟩ := z3
      obtain ⟨n1, n2, n3, n4, n5⟩ := hP.1 1 hM
      have eq := run_uq hr n1
      subst eq
      have hdq : gb_di T N (qs 1) := n2.2.1 _ (Nat.le_refl _) n3
      have f6 : (g3 0 6).toInt = vs 1 := by
        obtain ⟨t1, t2, t3, t4⟩ := ht
        rcases t4 with y | y | y | y
        · have := hdq.1
          omega
        · obtain ⟨e, y1, y2, -⟩ := y
          exact absurd (y1.2.1 _ (Nat.le_refl _) y2) (di_nb hdq)
        · obtain ⟨e, y1, y2, y3, y4⟩ := y
          have := run_uq y1 n2
          subst this
          rcases y4 with y4 | y4
          · omega
          · rw [y4.2.2, n5]
        · exact absurd hdq y.2.2.1
      exact gb_ieq (by rw [f6, e, w0 (by omega)])
  · refine same (fun hM e => c5 ?_) _
    rcases s1 with z | ⟨z1, z2, z3, z4, z5⟩
    · exact absurd c8 z.1
    · obtain ⟨hx, q, hr, ht⟩ := z3
      obtain ⟨n1, n2, n3, n4, n5⟩ := hP.1 1 hM
      have eq := run_uq hr n1
      subst eq
      have hdq : gb_di T N (qs 1) := n2.2.1 _ (Nat.le_refl _) n3
      obtain ⟨t1, t2, t3, t4⟩ := ht
      rcases t4 with y | y | y | y
      · have := hdq.1
        omega
      · obtain ⟨e, y1, y2, -⟩ := y
        exact absurd (y1.2.1 _ (Nat.le_refl _) y2) (di_nb hdq)
      · obtain ⟨e, y1, y2, y3, y4⟩ := y
        have := run_uq y1 n2
        subst this
        rcases y4 with y4 | y4
        · omega
        · exact y4.2.1
      · exact absurd hdq y.2.2.1
  · refine same (fun hM e => ?_) _
    rcases s1 with z | z
    · have := z.2.1
      omega
    · exact c8 z.1
set_option maxHeartbeats 2000000 in
theorem mh_term12 {n : Nat} {T : Nat → Int32} {N : Nat} {ps qs : Nat → Nat} {vs : Nat → Int} {M Qb : Nat} {fp : Int32 × Int32} {f : gb_F} {w : Int64} (hP : gb_pl1 T N 12 ps qs vs M Qb) (h : gb_S1 T N ps qs M Qb 0 fp f) (h0 : 0 ≤ (f 3 0).toInt) : gb_hm (ms_termLine_41 n f w 0) (fun f2 _ _ => gb_ml T N 2 12 ps qs vs M Qb fp f f2) := by
  unfold ms_termLine_41
  rw [if_pos rfl]
  refine hm_bd (mh_nu (l := 12) (i := 0) (fp := fp) (lo := 0) (hi := 9) hP.1 (fun z => hP.2.2 (by rw [← z]; decide)) (by decide) (by decide) (fun _ => can_rg (by decide) (by decide) (by decide)) h) (fun f1 u1 r0 g1 => ?_)
  obtain ⟨s1, v0, k1⟩ := g1
  unfold ms_termLine_58
  rw [if_neg (by decide)]
  rw [if_neg (by decide)]
  unfold ms_termLine_86
  rw [if_neg (by decide)]
  unfold ms_termLine_99
  rw [if_neg (by decide)]
  have kk : gb_ke f f1 := k1
  have hU : M = gb_kn 12 → (gb_ff 12 qs vs fp (gb_kn 12)).1 = 0 → ∀ j, j < gb_kn 12 → ((fun j => r0) j).toInt = vs j := fun hM hz j hj => by
    have cc := (ff_0 _ hz).2
    have hM2 : M = 1 := hM
    have hj2 : j < 1 := hj
    have : j = 0 := by omega
    subst this
    exact v0 (by omega) (cc 0 (by decide))
  refine hm_bd (mh_adds3 (mi := 8) (by decide) (by decide) (by rw [kk.1]; exact h0)) (fun ga ua _ ha => ?_)
  obtain ⟨na, ha⟩ := ha
  rw [kk.1] at ha
  exact mh_fin (f0 := f) (U := (fun j => r0)) hP.2.1 (S1_same s1 (na 0 (by decide)) (na 1 (by decide))) hU (addR_2 (by decide) rfl rfl ha) (Or.inl ⟨by decide, (by rw [na 0 (by decide)] : ga 0 9 = f1 0 9).trans kk.2.2.1⟩)
set_option maxHeartbeats 2000000 in
theorem mh_term13 {n : Nat} {T : Nat → Int32} {N : Nat} {ps qs : Nat → Nat} {vs : Nat → Int} {M Qb : Nat} {fp : Int32 × Int32} {f : gb_F} {w : Int64} (hP : gb_pl1 T N 13 ps qs vs M Qb) (h : gb_S1 T N ps qs M Qb 0 fp f) (h0 : 0 ≤ (f 3 0).toInt) : gb_hm (ms_termLine_41 n f w 1) (fun f2 _ _ => gb_ml T N 2 13 ps qs vs M Qb fp f f2) := by
  unfold ms_termLine_41
  rw [if_neg (by decide)]
  unfold ms_termLine_58
  rw [if_pos rfl]
  unfold ms_termLine_68
  refine hm_bd (mh_nu (l := 13) (i := 0) (fp := fp) (lo := 0) (hi := 999) hP.1 (fun z => hP.2.2 (by rw [← z]; decide)) (by decide) (by decide) (fun _ => can_rg (by decide) (by decide) (by decide)) h) (fun f1 u1 r0 g1 => ?_)
  obtain ⟨s1, v0, k1⟩ := g1
  refine hm_bd (mh_nu (l := 13) (i := 1) (fp := fp) (lo := 0) (hi := 99) hP.1 (fun z => hP.2.2 (by rw [← z]; decide)) (by decide) (by decide) (fun _ => can_rg (by decide) (by decide) (by decide)) s1) (fun f2 u2 r1 g2 => ?_)
  obtain ⟨s2, v1, k2⟩ := g2
  unfold ms_termLine_86
  rw [if_neg (by decide)]
  unfold ms_termLine_99
  rw [if_neg (by decide)]
  have kk : gb_ke f f2 := ke_t (k1) k2
  have hU : M = gb_kn 13 → (gb_ff 13 qs vs fp (gb_kn 13)).1 = 0 → ∀ j, j < gb_kn 13 → ((fun j => if j = 0 then r0 else r1) j).toInt = vs j := fun hM hz j hj => by
    have cc := (ff_0 _ hz).2
    have hM2 : M = 2 := hM
    have hj2 : j < 2 := hj
    have : j = 0 ∨ j = 1 := by omega
    rcases this with rfl | rfl
    · exact v0 (by omega) (cc 0 (by decide))
    · exact v1 (by omega) (cc 1 (by decide))
  refine hm_bd (mh_adds3 (mi := 8) (by decide) (by decide) (by rw [kk.1]; exact h0)) (fun ga ua _ ha => ?_)
  obtain ⟨na, ha⟩ := ha
  rw [kk.1] at ha
  exact mh_fin (f0 := f) (U := (fun j => if j = 0 then r0 else r1)) hP.2.1 (S1_same s2 (na 0 (by decide)) (na 1 (by decide))) hU (addR_2 (by decide) rfl rfl ha) (Or.inl ⟨by decide, (by rw [na 0 (by decide)] : ga 0 9 = f2 0 9).trans kk.2.2.1⟩)
set_option maxHeartbeats 2000000 in
theorem mh_term14 {n : Nat} {T : Nat → Int32} {N : Nat} {ps qs : Nat → Nat} {vs : Nat → Int} {M Qb : Nat} {fp : Int32 × Int32} {f : gb_F} {w : Int64} (hP : gb_pl1 T N 14 ps qs vs M Qb) (h : gb_S1 T N ps qs M Qb 0 fp f) (h0 : 0 ≤ (f 3 0).toInt) : gb_hm (ms_termLine_41 n f w 2) (fun f2 _ _ => gb_ml T N 2 14 ps qs vs M Qb fp f f2) := by
  unfold ms_termLine_41
  rw [if_neg (by decide)]
  unfold ms_termLine_58
  rw [if_neg (by decide)]
  rw [if_pos rfl]
  unfold ms_termLine_68
  refine hm_bd (mh_nu (l := 14) (i := 0) (fp := fp) (lo := 0) (hi := 999) hP.1 (fun z => hP.2.2 (by rw [← z]; decide)) (by decide) (by decide) (fun _ => can_rg (by decide) (by decide) (by decide)) h) (fun f1 u1 r0 g1 => ?_)
  obtain ⟨s1, v0, k1⟩ := g1
  refine hm_bd (mh_nu (l := 14) (i := 1) (fp := fp) (lo := 0) (hi := 99) hP.1 (fun z => hP.2.2 (by rw [← z]; decide)) (by decide) (by decide) (fun _ => can_rg (by decide) (by decide) (by decide)) s1) (fun f2 u2 r1 g2 => ?_)
  obtain ⟨s2, v1, k2⟩ := g2
  unfold ms_termLine_86
  rw [if_neg (by decide)]
  unfold ms_termLine_99
  rw [if_neg (by decide)]
  have kk : gb_ke f f2 := ke_t (k1) k2
  have hU : M = gb_kn 14 → (gb_ff 14 qs vs fp (gb_kn 14)).1 = 0 → ∀ j, j < gb_kn 14 → ((fun j => if j = 0 then r0 else r1) j).toInt = vs j := fun hM hz j hj => by
    have cc := (ff_0 _ hz).2
    have hM2 : M = 2 := hM
    have hj2 : j < 2 := hj
    have : j = 0 ∨ j = 1 := by omega
    rcases this with rfl | rfl
    · exact v0 (by omega) (cc 0 (by decide))
    · exact v1 (by omega) (cc 1 (by decide))
  refine hm_bd (mh_adds3 (mi := 8) (by decide) (by decide) (by rw [kk.1]; exact h0)) (fun ga ua _ ha => ?_)
  obtain ⟨na, ha⟩ := ha
  rw [kk.1] at ha
  exact mh_fin (f0 := f) (U := (fun j => if j = 0 then r0 else r1)) hP.2.1 (S1_same s2 (na 0 (by decide)) (na 1 (by decide))) hU (addR_2 (by decide) rfl rfl ha) (Or.inl ⟨by decide, (by rw [na 0 (by decide)] : ga 0 9 = f2 0 9).trans kk.2.2.1⟩)
set_option maxHeartbeats 2000000 in
theorem mh_term15 {n : Nat} {T : Nat → Int32} {N : Nat} {ps qs : Nat → Nat} {vs : Nat → Int} {M Qb : Nat} {fp : Int32 × Int32} {f : gb_F} {w : Int64} (hP : gb_pl1 T N 15 ps qs vs M Qb) (h : gb_S1 T N ps qs M Qb 0 fp f) (h0 : 0 ≤ (f 3 0).toInt) : gb_hm (ms_termLine_41 n f w 3) (fun f2 _ _ => gb_ml T N 2 15 ps qs vs M Qb fp f f2) := by
  unfold ms_termLine_41
  rw [if_neg (by decide)]
  unfold ms_termLine_58
  rw [if_neg (by decide)]
  rw [if_neg (by decide)]
  unfold ms_termLine_86
  rw [if_pos rfl]
  refine hm_bd (mh_nu (l := 15) (i := 0) (fp := fp) (lo := 0) (hi := 99) hP.1 (fun z => hP.2.2 (by rw [← z]; decide)) (by decide) (by decide) (fun _ => can_rg (by decide) (by decide) (by decide)) h) (fun f1 u1 r0 g1 => ?_)
  obtain ⟨s1, v0, k1⟩ := g1
  unfold ms_termLine_99
  rw [if_neg (by decide)]
  have kk : gb_ke f f1 := k1
  have hU : M = gb_kn 15 → (gb_ff 15 qs vs fp (gb_kn 15)).1 = 0 → ∀ j, j < gb_kn 15 → ((fun j => r0) j).toInt = vs j := fun hM hz j hj => by
    have cc := (ff_0 _ hz).2
    have hM2 : M = 1 := hM
    have hj2 : j < 1 := hj
    have : j = 0 := by omega
    subst this
    exact v0 (by omega) (cc 0 (by decide))
  refine hm_bd (mh_adds3 (mi := 8) (by decide) (by decide) (by rw [kk.1]; exact h0)) (fun ga ua _ ha => ?_)
  obtain ⟨na, ha⟩ := ha
  rw [kk.1] at ha
  exact mh_fin (f0 := f) (U := (fun j => r0)) hP.2.1 (S1_same s1 (na 0 (by decide)) (na 1 (by decide))) hU (addR_2 (by decide) rfl rfl ha) (Or.inl ⟨by decide, (by rw [na 0 (by decide)] : ga 0 9 = f1 0 9).trans kk.2.2.1⟩)
set_option maxHeartbeats 2000000 in
theorem mh_term16 {n : Nat} {T : Nat → Int32} {N : Nat} {ps qs : Nat → Nat} {vs : Nat → Int} {M Qb : Nat} {fp : Int32 × Int32} {f : gb_F} {w : Int64} (hP : gb_pl1 T N 16 ps qs vs M Qb) (h : gb_S1 T N ps qs M Qb 0 fp f) (h0 : 0 ≤ (f 3 0).toInt) : gb_hm (ms_termLine_41 n f w 4) (fun f2 _ _ => gb_ml T N 2 16 ps qs vs M Qb fp f f2) := by
  unfold ms_termLine_41
  rw [if_neg (by decide)]
  unfold ms_termLine_58
  rw [if_neg (by decide)]
  rw [if_neg (by decide)]
  unfold ms_termLine_86
  rw [if_neg (by decide)]
  unfold ms_termLine_99
  rw [if_pos rfl]
  refine hm_bd (mh_nu (l := 16) (i := 0) (fp := fp) (lo := 0) (hi := 999) hP.1 (fun z => hP.2.2 (by rw [← z]; decide)) (by decide) (by decide) (fun _ => can_rg (by decide) (by decide) (by decide)) h) (fun f1 u1 r0 g1 => ?_)
  obtain ⟨s1, v0, k1⟩ := g1
  have kk : gb_ke f f1 := k1
  have hU : M = gb_kn 16 → (gb_ff 16 qs vs fp (gb_kn 16)).1 = 0 → ∀ j, j < gb_kn 16 → ((fun j => r0) j).toInt = vs j := fun hM hz j hj => by
    have cc := (ff_0 _ hz).2
    have hM2 : M = 1 := hM
    have hj2 : j < 1 := hj
    have : j = 0 := by omega
    subst this
    exact v0 (by omega) (cc 0 (by decide))
  refine hm_bd (mh_adds3 (mi := 8) (by decide) (by decide) (by rw [kk.1]; exact h0)) (fun ga ua _ ha => ?_)
  obtain ⟨na, ha⟩ := ha
  rw [kk.1] at ha
  exact mh_fin (f0 := f) (U := (fun j => r0)) hP.2.1 (S1_same s1 (na 0 (by decide)) (na 1 (by decide))) hU (addR_2 (by decide) rfl rfl ha) (Or.inl ⟨by decide, (by rw [na 0 (by decide)] : ga 0 9 = f1 0 9).trans kk.2.2.1⟩)
