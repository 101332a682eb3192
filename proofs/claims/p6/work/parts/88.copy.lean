/-! COPIES: Told.copyFrom of the class, image and again of the reference, exactly -/
def gb_gz (s : Nat) : Nat := ([58, 97, 25, 16] : List Nat).getD s 0
def gb_o (s m : Nat) : Nat := 3 + 5 * s + 2 * m
def gb_cpJ (σ0 : gb_S) (v0 v1 s m : Nat) (σ : gb_S) : Prop := (∀ k, k < v0 ∨ v0 + 22 < k → σ.1 k = σ0.1 k) ∧ (∀ s' m', s' < 4 → m' < 2 → 2 * s' + m' < 2 * s + m → ∀ j, j < gb_gz s' → σ.1 (v0 + gb_o s' m') j = σ0.1 (v1 + gb_o s' m') j) ∧ ∀ j, j < s → σ.1 (v0 + 21) j = σ0.1 (v1 + 21) j
theorem cJ_sheet {σ0 σ : gb_S} {v0 v1 s m : Nat} (hd : v0 + 22 < v1 ∨ v1 + 22 < v0) (hs : s < 4) (hm : m < 2) (h : gb_cpJ σ0 v0 v1 s m σ) : gb_cpJ σ0 v0 v1 s (m + 1) (gb_su σ (v0 + gb_o s m) (va_cpy (σ.1 (v1 + gb_o s m)) (σ.1 (v0 + gb_o s m)) 0 0 (gb_gz s))) := by
  obtain ⟨h1, h2, h3⟩ := h
  refine ⟨fun k hk => ?_, fun s' m' g1 g2 g3 j hj => ?_, fun j hj => ?_⟩
  · rw [gb_sun (by unfold gb_o; omega)]
    exact h1 k hk
  · by_cases e : s' = s ∧ m' = m
    · obtain ⟨rfl, rfl⟩ := e
      rw [gb_sus]
      unfold va_cpy
      rw [if_pos ⟨Nat.zero_le _, by omega⟩, Nat.zero_add, Nat.sub_zero, h1 _ (by unfold gb_o; omega)]
    · rw [gb_sun (by unfold gb_o; omega)]
      exact h2 s' m' g1 g2 (by omega) j hj
  · rw [gb_sun (by unfold gb_o; omega)]
    exact h3 j hj
theorem cJ_held {σ0 σ : gb_S} {v0 v1 s : Nat} (hd : v0 + 22 < v1 ∨ v1 + 22 < v0) (hs : s < 4) (h : gb_cpJ σ0 v0 v1 s 2 σ) : gb_cpJ σ0 v0 v1 (s + 1) 0 (gb_su σ (v0 + 21) (upd (σ.1 (v0 + 21)) s (σ.1 (v1 + 21) s))) := by
  obtain ⟨h1, h2, h3⟩ := h
  refine ⟨fun k hk => ?_, fun s' m' g1 g2 g3 j hj => ?_, fun j hj => ?_⟩
  · rw [gb_sun (by omega)]
    exact h1 k hk
  · rw [gb_sun (by unfold gb_o; omega)]
    exact h2 s' m' g1 g2 (by omega) j hj
  · rw [gb_sus]
    by_cases e : j = s
    · rw [e, pk_us, h1 _ (by omega)]
    · rw [pk_un e]
      exact h3 j (by omega)
theorem gi_eq {x : Int32} {y : Int32} {k : Int} (h : x.toInt = k) (hy : y.toInt = k) : x = y := gb_ieq (h.trans hy.symm)
theorem ch_sheetOf {n : Nat} {σ : gb_S} {k0 : Nat} {p1 p2 : Int32} {s m : Nat} (e1 : p1.toInt = s) (hs : s < 4) (e2 : p2.toInt = m) : gb_hc (cs_Told_sheetOf_T n σ k0 p1 p2) (fun σ2 r => σ2 = σ ∧ r + 1 = k0 + gb_o s m ∧ m < 2 ∧ (s = 0 ∧ gb_kB r = true ∨ s = 1 ∧ gb_kN r = true ∨ s = 2 ∧ gb_kL r = true ∨ s = 3 ∧ gb_kD r = true)) := by
  unfold cs_Told_sheetOf_T
  have c0 : (0 : Int32).toInt = 0 := by decide
  have c1 : (1 : Int32).toInt = 1 := by decide
  have c2 : (2 : Int32).toInt = 2 := by decide
  have t := gi_tn e2
  have key : ∀ x y a : Nat, m < 2 → a = ([x, y] : List Nat).getD (Int32.toNatClampNeg p2) 0 → y = x + 2 → a + 1 = x + 1 + 2 * m := by
    intro x y a hm ha hy
    rw [t] at ha
    have hm2 : m = 0 ∨ m = 1 := by omega
    rcases hm2 with rfl | rfl
    · have : a = x := ha
      omega
    · have : a = y := ha
      omega
  refine hc_kk (fun _ => hc_if (fun c => ?_) (fun n0 => hc_if (fun c => ?_) (fun n1 => hc_if (fun c => ?_) (fun n2 => ?_))))
  · refine hc_ck (fun _ b => hc_lt (fun a ha => hc_kk (fun hk => hc_some ⟨rfl, ?_, by omega, Or.inl ⟨?_, hk⟩⟩)))
    · have := key _ _ a (by omega) ha rfl
      rw [c, c0] at e1
      unfold gb_o
      omega
    · rw [c, c0] at e1
      omega
  · refine hc_ck (fun _ b => hc_lt (fun a ha => hc_kk (fun hk => hc_some ⟨rfl, ?_, by omega, Or.inr (Or.inl ⟨?_, hk⟩)⟩)))
    · have := key _ _ a (by omega) ha rfl
      rw [c, c1] at e1
      unfold gb_o
      omega
    · rw [c, c1] at e1
      omega
  · refine hc_ck (fun _ b => hc_lt (fun a ha => hc_kk (fun hk => hc_some ⟨rfl, ?_, by omega, Or.inr (Or.inr (Or.inl ⟨?_, hk⟩))⟩)))
    · have := key _ _ a (by omega) ha rfl
      rw [c, c2] at e1
      unfold gb_o
      omega
    · rw [c, c2] at e1
      omega
  · have hs3 : s = 3 := by
      have q0 : ¬ s = 0 := fun q => n0 (gi_eq e1 (by rw [q]; decide))
      have q1 : ¬ s = 1 := fun q => n1 (gi_eq e1 (by rw [q]; decide))
      have q2 : ¬ s = 2 := fun q => n2 (gi_eq e1 (by rw [q]; decide))
      omega
    refine hc_ck (fun _ b => hc_lt (fun a ha => hc_kk (fun hk => hc_some ⟨rfl, ?_, by omega, Or.inr (Or.inr (Or.inr ⟨hs3, hk⟩))⟩)))
    have := key _ _ a (by omega) ha rfl
    unfold gb_o
    omega
theorem ch_cpB {n : Nat} {σ : gb_S} {k0 p1 : Nat} : gb_hc (cs_Sheet_copyFrom_B_B n σ k0 p1) (fun s _ => s = gb_su σ (k0 + 1) (va_cpy (σ.1 (p1 + 1)) (σ.1 (k0 + 1)) 0 0 58)) := by
  unfold cs_Sheet_copyFrom_B_B
  refine hc_kk (fun _ => hc_kk (fun _ => hc_lt (fun x ex => hc_ac (hc_lt (fun s es => hc_some ?_)))))
  have : Int32.toNatClampNeg x = 58 := by rw [ex]; decide
  rw [es, this]
  rfl
theorem ch_cpN {n : Nat} {σ : gb_S} {k0 p1 : Nat} : gb_hc (cs_Sheet_copyFrom_N_N n σ k0 p1) (fun s _ => s = gb_su σ (k0 + 1) (va_cpy (σ.1 (p1 + 1)) (σ.1 (k0 + 1)) 0 0 97)) := by
  unfold cs_Sheet_copyFrom_N_N
  refine hc_kk (fun _ => hc_kk (fun _ => hc_lt (fun x ex => hc_ac (hc_lt (fun s es => hc_some ?_)))))
  have : Int32.toNatClampNeg x = 97 := by rw [ex]; decide
  rw [es, this]
  rfl
theorem ch_cpL {n : Nat} {σ : gb_S} {k0 p1 : Nat} : gb_hc (cs_Sheet_copyFrom_L_L n σ k0 p1) (fun s _ => s = gb_su σ (k0 + 1) (va_cpy (σ.1 (p1 + 1)) (σ.1 (k0 + 1)) 0 0 25)) := by
  unfold cs_Sheet_copyFrom_L_L
  refine hc_kk (fun _ => hc_kk (fun _ => hc_lt (fun x ex => hc_ac (hc_lt (fun s es => hc_some ?_)))))
  have : Int32.toNatClampNeg x = 25 := by rw [ex]; decide
  rw [es, this]
  rfl
theorem ch_cpD {n : Nat} {σ : gb_S} {k0 p1 : Nat} : gb_hc (cs_Sheet_copyFrom_D_D n σ k0 p1) (fun s _ => s = gb_su σ (k0 + 1) (va_cpy (σ.1 (p1 + 1)) (σ.1 (k0 + 1)) 0 0 16)) := by
  unfold cs_Sheet_copyFrom_D_D
  refine hc_kk (fun _ => hc_kk (fun _ => hc_lt (fun x ex => hc_ac (hc_lt (fun s es => hc_some ?_)))))
  have : Int32.toNatClampNeg x = 16 := by rw [ex]; decide
  rw [es, this]
  rfl
theorem ch_copy9 {n : Nat} {σ0 : gb_S} {v0 v1 s : Nat} {v2 : Int32} {Q : gb_S → Unit → Prop} {k2 : gb_S → Nat → Nat → Int32 → gb_CR Unit} (hd : v0 + 22 < v1 ∨ v1 + 22 < v0) (e2 : v2.toInt = s) (hs : s < 4) (hk : ∀ (σ : gb_S) (x : Int32), x.toInt = ((s + 1 : Nat) : Int) → gb_cpJ σ0 v0 v1 (s + 1) 0 σ → gb_hc (k2 σ v0 v1 x) Q) : ∀ (mm : Nat) (σ : gb_S) (v3 : Int32) (m : Nat), v3.toInt = m → m ≤ 2 → gb_cpJ σ0 v0 v1 s m σ → gb_hc (cs_Told_copyFrom_T_T_9 n k2 mm σ v0 v1 v2 v3) Q := by
  intro mm
  induction mm with
  | zero =>
    intros
    exact hc_none
  | succ mm ih =>
    intro σ v3 m e3 hm hJ
    unfold cs_Told_copyFrom_T_T_9
    have c2 : (2 : Int32).toInt = 2 := by decide
    refine hc_kk (fun _ => hc_kk (fun _ => hc_if (fun c => ?_) (fun c => ?_)))
    · have := gi_le c
      have hm2 : m = 2 := by omega
      subst hm2
      refine hc_ck (fun _ _ => hc_lt (fun x ex => hc_ck (fun _ _ => hc_lt (fun s2 es2 => hc_lt (fun y ey => ?_)))))
      refine hk _ _ (by rw [ey]; exact gi_s1 e2 (by omega)) ?_
      rw [es2, ex, gi_tn e2]
      exact cJ_held hd hs hJ
    · have := gi_nle c
      refine hc_cd (ch_sheetOf e2 hs e3) (fun sA r hA => ?_)
      obtain ⟨rfl, er, hm2, hkd⟩ := hA
      refine hc_if (fun _ => ?_) (fun _ => ?_)
      · refine hc_cd (P := fun _ _ => True) (fun _ _ _ => trivial) (fun _ _ _ => hc_if (fun _ => hc_none) (fun _ => hc_none))
      · refine hc_cd (ch_sheetOf e2 hs e3) (fun sB r2 hB => ?_)
        obtain ⟨rfl, er2, -, hkd2⟩ := hB
        have stp : ∀ (z : Nat) (s3 : gb_S) (x : Int32), z = gb_gz s → s3 = gb_su sB (r + 1) (va_cpy (sB.1 (r2 + 1)) (sB.1 (r + 1)) 0 0 z) → x = v3 + 1 → gb_hc (cs_Told_copyFrom_T_T_9 n k2 mm s3 v0 v1 v2 x) Q := by
          intro z s3 x ez e3' ex
          refine ih s3 x (m + 1) (by rw [ex]; exact gi_s1 e3 (by omega)) (by omega) ?_
          rw [e3', ez, er, er2]
          exact cJ_sheet hd hs hm2 hJ
        refine hc_if (fun _ => hc_none) (fun _ => ?_)
        refine hc_if (fun b => hc_kk (fun _ => ?_)) (fun nb => hc_if (fun b => hc_kk (fun _ => ?_)) (fun nn => hc_if (fun b => hc_kk (fun _ => ?_)) (fun nl => hc_if (fun b => hc_kk (fun _ => ?_)) (fun nd => hc_none))))
        · have hs0 : s = 0 := by
            rcases hkd with q | q | q | q
            · exact q.1
            · exact absurd b (gc_BN q.2)
            · exact absurd b (gc_BL q.2).1
            · exact absurd b (gc_BD q.2).1
          refine hc_cd ch_cpB (fun s3 _ h3 => hc_lt (fun x ex => stp 58 s3 x ?_ h3 ex))
          rw [hs0]
          rfl
        · have hs0 : s = 1 := by
            rcases hkd with q | q | q | q
            · exact absurd q.2 nb
            · exact q.1
            · exact absurd b (gc_BL q.2).2
            · exact absurd b (gc_BD q.2).2.1
          refine hc_cd ch_cpN (fun s3 _ h3 => hc_lt (fun x ex => stp 97 s3 x ?_ h3 ex))
          rw [hs0]
          rfl
        · have hs0 : s = 2 := by
            rcases hkd with q | q | q | q
            · exact absurd q.2 nb
            · exact absurd q.2 nn
            · exact q.1
            · exact absurd b (gc_BD q.2).2.2
          refine hc_cd ch_cpL (fun s3 _ h3 => hc_lt (fun x ex => stp 25 s3 x ?_ h3 ex))
          rw [hs0]
          rfl
        · have hs0 : s = 3 := by
            rcases hkd with q | q | q | q
            · exact absurd q.2 nb
            · exact absurd q.2 nn
            · exact absurd q.2 nl
            · exact q.1
          refine hc_cd ch_cpD (fun s3 _ h3 => hc_lt (fun x ex => stp 16 s3 x ?_ h3 ex))
          rw [hs0]
          rfl
/-! what a copy of all that is told leaves: the cells ahead and behind as they were; sheets, counts, tape, fields those of the other -/
def gb_cpd (σ0 : gb_S) (v0 v1 : Nat) (σ : gb_S) : Prop := (∀ k, k < v0 ∨ v0 + 22 < k → σ.1 k = σ0.1 k) ∧ (∀ s m, s < 4 → m < 2 → ∀ j, j < gb_gz s → σ.1 (v0 + gb_o s m) j = σ0.1 (v1 + gb_o s m) j) ∧ (∀ j, j < 4 → σ.1 (v0 + 21) j = σ0.1 (v1 + 21) j) ∧ (∀ j, j < 600 → σ.1 (v0 + 22) j = σ0.1 (v1 + 22) j) ∧ σ.1 v0 6 = σ0.1 v1 6 ∧ σ.1 v0 7 = σ0.1 v1 7 ∧ σ.1 v0 8 = σ0.1 v1 8
theorem ch_copy2 {n : Nat} {σ0 : gb_S} {v0 v1 : Nat} (hd : v0 + 22 < v1 ∨ v1 + 22 < v0) : ∀ (mm : Nat) (σ : gb_S) (v2 : Int32) (s : Nat), v2.toInt = s → s ≤ 4 → gb_cpJ σ0 v0 v1 s 0 σ → gb_hc (cs_Told_copyFrom_T_T_2 n mm σ v0 v1 v2) (fun s2 _ => gb_cpd σ0 v0 v1 s2) := by
  intro mm
  induction mm with
  | zero =>
    intros
    exact hc_none
  | succ mm ih =>
    intro σ v2 s e2 hs hJ
    unfold cs_Told_copyFrom_T_T_2
    have c4 : (4 : Int32).toInt = 4 := by decide
    refine hc_kk (fun _ => hc_kk (fun _ => hc_if (fun c => ?_) (fun c => ?_)))
    · have := gi_le c
      obtain ⟨h1, h2, h3⟩ := hJ
      refine hc_ac (hc_kk (fun _ => hc_lt (fun sA eA => hc_lt (fun sB eB => hc_lt (fun sC eC => hc_lt (fun sD eD => hc_some ?_))))))
      have n0 : v1 ≠ v0 := by omega
      have q1 : ∀ k, k ≠ v0 → k ≠ v0 + 22 → sD.1 k = σ.1 k := fun k a b => by
        rw [eD, gb_sun a, eC, gb_sun a, eB, gb_sun a, eA, gb_sun b]
      have qA : ∀ k, k ≠ v0 + 22 → sA.1 k = σ.1 k := fun k b => by rw [eA, gb_sun b]
      have qB : ∀ k, k ≠ v0 → k ≠ v0 + 22 → sB.1 k = σ.1 k := fun k a b => by rw [eB, gb_sun a, qA k b]
      have qC : ∀ k, k ≠ v0 → k ≠ v0 + 22 → sC.1 k = σ.1 k := fun k a b => by rw [eC, gb_sun a, qB k a b]
      have z1 : σ.1 v1 = σ0.1 v1 := h1 _ (by omega)
      refine ⟨fun k hk => ?_, fun s' m' g1 g2 j hj => ?_, fun j hj => ?_, fun j hj => ?_, ?_, ?_, ?_⟩
      · rw [q1 k (by omega) (by omega)]
        exact h1 k hk
      · rw [q1 _ (by unfold gb_o; omega) (by unfold gb_o; omega)]
        exact h2 s' m' g1 g2 (by omega) j hj
      · rw [q1 _ (by omega) (by omega)]
        exact h3 j (by omega)
      · have t600 : Int32.toNatClampNeg 600 = 600 := by decide
        have t0 : Int32.toNatClampNeg 0 = 0 := by decide
        rw [eD, gb_sun (by omega), eC, gb_sun (by omega), eB, gb_sun (by omega), eA, gb_sus, t600, t0]
        unfold va_cpy
        rw [if_pos ⟨Nat.zero_le _, by omega⟩, Nat.zero_add, Nat.sub_zero, h1 _ (by omega)]
      · rw [eD, gb_sus, pk_un (by decide), eC, gb_sus, pk_un (by decide), eB, gb_sus, pk_us, qA _ (by omega), z1]
      · rw [eD, gb_sus, pk_un (by decide), eC, gb_sus, pk_us, qB _ n0 (by omega), z1]
      · rw [eD, gb_sus, pk_us, qC _ n0 (by omega), z1]
    · have := gi_nle c
      have c0 : (0 : Int32).toInt = ((0 : Nat) : Int) := by decide
      exact ch_copy9 hd e2 (by omega) (fun σ3 x ex h3 => ih σ3 x (s + 1) ex (by omega) h3) n σ 0 0 c0 (by omega) hJ
theorem ch_copy {n : Nat} {σ : gb_S} {v0 v1 : Nat} (hd : v0 + 22 < v1 ∨ v1 + 22 < v0) : gb_hc (cs_Told_copyFrom_T_T n σ v0 v1) (fun s2 _ => gb_cpd σ v0 v1 s2) := by
  unfold cs_Told_copyFrom_T_T
  have c0 : (0 : Int32).toInt = ((0 : Nat) : Int) := by decide
  exact hc_kk (fun _ => hc_kk (fun _ => ch_copy2 hd n σ 0 0 c0 (by omega) ⟨fun _ _ => rfl, fun s' m' _ _ h => absurd h (by omega), fun j h => absurd h (Nat.not_lt_zero _)⟩))
/-! the reference's copies -/
theorem gb_992e {v1 v2 : Int32} {k i : Nat} (e1 : v1.toInt = k) (h1 : k < 3) (e2 : v2.toInt = i) (h2 : i < 992) : Int32.toNatClampNeg ((992 * (v1 + 1)) + v2) = 992 * (k + 1) + i := by
  have c1 : (992 : Int32).toInt = 992 := by decide
  have a1 := gi_s1 e1 (by omega)
  have a2 : (992 * (v1 + 1)).toInt = 992 * ((k + 1 : Nat) : Int) := by
    rw [gb_tmul (by rw [c1, a1]; omega) (by rw [c1, a1]; omega), c1, a1]
  refine gi_tn ?_
  rw [gb_tadd (by rw [a2]; omega) (by rw [a2]; omega), a2, e2]
  omega
def gb_img (F0 : Nat → Int32) (k i : Nat) (F : Nat → Int32) : Prop := (∀ j, j < i → F (992 * (k + 1) + j) = F0 j) ∧ ∀ j, j < 992 * (k + 1) ∨ 992 * (k + 1) + 992 ≤ j → F j = F0 j
theorem mh_image_20 {n : Nat} {F0 : Nat → Int32} {f0 : gb_F} {v1 : Int32} {k : Nat} (e1 : v1.toInt = k) (h1 : k < 3) : ∀ (mm : Nat) (f : gb_F) (w : Int64) (v2 : Int32) (i : Nat), v2.toInt = i → i ≤ 992 → gb_img F0 k i (f 1) → (∀ q, q ≠ 1 → f q = f0 q) → gb_hm (ms_image_20 n mm f w v1 v2) (fun f2 _ r => gb_img F0 k 992 (f2 1) ∧ (∀ q, q ≠ 1 → f2 q = f0 q) ∧ r = 1) := by
  intro mm
  induction mm with
  | zero =>
    intros
    exact hm_none
  | succ mm ih =>
    intro f w v2 i e2 hi hJ hf
    unfold ms_image_20
    have c9 : (992 : Int32).toInt = 992 := by decide
    refine hm_if (fun c => ?_) (fun c => ?_)
    · have := gi_le c
      have hi2 : i = 992 := by omega
      rw [hi2] at hJ
      exact hm_some ⟨hJ, hf, rfl⟩
    · have := gi_nle c
      have hi2 : i < 992 := by omega
      refine hm_ck (fun _ _ => hm_lt (fun x ex => hm_ck (fun _ _ => hm_lt (fun f2 e2' => hm_lt (fun y ey => ?_)))))
      refine ih f2 w y (i + 1) (by rw [ey]; exact gi_s1 e2 (by omega)) (by omega) ?_ (fun q hq => ?_)
      · obtain ⟨j1, j2⟩ := hJ
        rw [e2', gb_us, gb_992e e1 h1 e2 hi2, ex, gi_tn e2]
        refine ⟨fun j hj => ?_, fun j hj => ?_⟩
        · by_cases q : j = i
          · rw [q, pk_us, j2 _ (by omega)]
          · rw [pk_un (by omega)]
            exact j1 j (by omega)
        · rw [pk_un (by omega)]
          exact j2 j hj
      · rw [e2', gb_un hq]
        exact hf q hq
def gb_agn (F0 : Nat → Int32) (k i : Nat) (F : Nat → Int32) : Prop := (∀ j, j < i → F j = F0 (992 * (k + 1) + j)) ∧ ∀ j, i ≤ j → F j = F0 j
theorem mh_again_22 {n : Nat} {F0 : Nat → Int32} {f0 : gb_F} {v1 : Int32} {k : Nat} (e1 : v1.toInt = k) (h1 : k < 3) : ∀ (mm : Nat) (f : gb_F) (w : Int64) (v2 : Int32) (i : Nat), v2.toInt = i → i ≤ 992 → gb_agn F0 k i (f 1) → (∀ q, q ≠ 1 → f q = f0 q) → gb_hm (ms_again_22 n mm f w v1 v2) (fun f2 _ r => gb_agn F0 k 992 (f2 1) ∧ (∀ q, q ≠ 1 → f2 q = f0 q) ∧ r = 1) := by
  intro mm
  induction mm with
  | zero =>
    intros
    exact hm_none
  | succ mm ih =>
    intro f w v2 i e2 hi hJ hf
    unfold ms_again_22
    have c9 : (992 : Int32).toInt = 992 := by decide
    refine hm_if (fun c => ?_) (fun c => ?_)
    · have := gi_le c
      have hi2 : i = 992 := by omega
      rw [hi2] at hJ
      exact hm_some ⟨hJ, hf, rfl⟩
    · have := gi_nle c
      have hi2 : i < 992 := by omega
      refine hm_ck (fun _ _ => hm_lt (fun x ex => hm_ck (fun _ _ => hm_lt (fun f2 e2' => hm_lt (fun y ey => ?_)))))
      refine ih f2 w y (i + 1) (by rw [ey]; exact gi_s1 e2 (by omega)) (by omega) ?_ (fun q hq => ?_)
      · obtain ⟨j1, j2⟩ := hJ
        rw [e2', gb_us, gi_tn e2, ex, gb_992e e1 h1 e2 hi2]
        refine ⟨fun j hj => ?_, fun j hj => ?_⟩
        · by_cases q : j = i
          · rw [q, pk_us, j2 _ (by omega)]
          · rw [pk_un (by omega)]
            exact j1 j (by omega)
        · rw [pk_un (by omega)]
          exact j2 j (by omega)
      · rw [e2', gb_un hq]
        exact hf q hq
theorem mh_isIn {n : Nat} {f : gb_F} {w : Int64} {p1 p2 p3 : Int32} : gb_hm (ms_isIn n f w p1 p2 p3) (fun f2 w2 r => f2 = f ∧ w2 = w ∧ (r = 1 ∧ p2.toInt ≤ p1.toInt ∧ p1.toInt ≤ p3.toInt ∨ r = 0 ∧ (p1.toInt < p2.toInt ∨ p3.toInt < p1.toInt))) := by
  unfold ms_isIn
  refine hm_if (fun c => hm_some ⟨rfl, rfl, Or.inr ⟨rfl, Or.inl (gi_lt c)⟩⟩) (fun c => hm_if (fun d => hm_some ⟨rfl, rfl, Or.inr ⟨rfl, Or.inr (gi_lt d)⟩⟩) (fun d => hm_some ⟨rfl, rfl, Or.inl ⟨rfl, gi_nlt c, gi_nlt d⟩⟩))
theorem mh_image {n : Nat} {f : gb_F} {w : Int64} {p1 : Int32} : gb_hm (ms_image n f w p1) (fun f2 _ r => (r = 0 ∧ f2 = f ∧ (p1.toInt < 0 ∨ 2 < p1.toInt)) ∨ ∃ k : Nat, r = 1 ∧ p1.toInt = k ∧ k < 3 ∧ gb_img (f 1) k 992 (f2 1) ∧ f2 2 = upd (f 2) k 1) := by
  unfold ms_image
  have c0 : (0 : Int32).toInt = 0 := by decide
  have c2 : (2 : Int32).toInt = 2 := by decide
  refine hm_bd mh_isIn (fun f1 w1 r h => ?_)
  obtain ⟨rfl, rfl, h⟩ := h
  refine hm_if (fun c => ?_) (fun c => ?_)
  · rcases h with ⟨h, -⟩ | ⟨-, h⟩
    · rw [c] at h
      exact absurd h (by decide)
    · exact hm_some (Or.inl ⟨rfl, rfl, by omega⟩)
  · rcases h with ⟨-, h1, h2⟩ | ⟨h, -⟩
    · obtain ⟨k, e1, t1⟩ := gi_nn (x := p1) (by omega)
      have hk : k < 3 := by omega
      have z : (0 : Int32).toInt = ((0 : Nat) : Int) := by decide
      have nb : vp_nar .boolean 1 = 1 := by decide
      refine hm_ck (fun _ _ => hm_lt (fun f3 e3 => ?_))
      have f31 : f3 1 = f1 1 := by
        rw [e3]
        exact gb_un (by decide)
      have f32 : f3 2 = upd (f1 2) k 1 := by
        rw [e3, gb_us, t1, nb]
      refine hm_mono (mh_image_20 (F0 := f1 1) (f0 := f3) e1 hk n f3 w1 0 0 z (by omega) ⟨fun j h => absurd h (Nat.not_lt_zero _), fun j _ => by rw [f31]⟩ (fun _ _ => rfl)) (fun f4 _ r h => Or.inr ⟨k, h.2.2, e1, hk, h.1, ?_⟩)
      rw [h.2.1 2 (by decide), f32]
    · exact absurd h c
theorem mh_again {n : Nat} {f : gb_F} {w : Int64} {p1 : Int32} : gb_hm (ms_again n f w p1) (fun f2 _ r => (r = 0 ∧ f2 = f ∧ (p1.toInt < 0 ∨ 2 < p1.toInt ∨ ∃ k : Nat, p1.toInt = k ∧ k < 3 ∧ f 2 k = 0)) ∨ ∃ k : Nat, r = 1 ∧ p1.toInt = k ∧ k < 3 ∧ ¬ f 2 k = 0 ∧ gb_agn (f 1) k 992 (f2 1) ∧ f2 2 = f 2) := by
  unfold ms_again
  have c0 : (0 : Int32).toInt = 0 := by decide
  have c2 : (2 : Int32).toInt = 2 := by decide
  refine hm_bd mh_isIn (fun f1 w1 r h => ?_)
  obtain ⟨rfl, rfl, h⟩ := h
  refine hm_if (fun c => ?_) (fun c => ?_)
  · rcases h with ⟨h, -⟩ | ⟨-, h⟩
    · rw [c] at h
      exact absurd h (by decide)
    · exact hm_some (Or.inl ⟨rfl, rfl, by omega⟩)
  · rcases h with ⟨-, h1, h2⟩ | ⟨h, -⟩
    · obtain ⟨k, e1, t1⟩ := gi_nn (x := p1) (by omega)
      have hk : k < 3 := by omega
      have z : (0 : Int32).toInt = ((0 : Nat) : Int) := by decide
      refine hm_ck (fun _ _ => hm_lt (fun x ex => hm_if (fun d => ?_) (fun d => ?_)))
      · refine hm_some (Or.inl ⟨rfl, rfl, Or.inr (Or.inr ⟨k, e1, hk, ?_⟩)⟩)
        rw [← d, ex, t1]
      · refine hm_mono (mh_again_22 (F0 := f1 1) (f0 := f1) e1 hk n f1 w1 0 0 z (by omega) ⟨fun j h => absurd h (Nat.not_lt_zero _), fun j _ => rfl⟩ (fun _ _ => rfl)) (fun f4 _ r h => Or.inr ⟨k, h.2.2, e1, hk, ?_, h.1, h.2.1 2 (by decide)⟩)
        rw [← t1, ← ex]
        exact d
    · exact absurd h c
theorem gb_gT3 {p : Int32} {k : Nat} (e : p.toInt = k) (hk : k < 3) : ([25, 48, 71] : List Nat).getD (Int32.toNatClampNeg p) 0 = 25 + 23 * k := by
  rw [gi_tn e]
  have : k = 0 ∨ k = 1 ∨ k = 2 := by omega
  rcases this with rfl | rfl | rfl <;> rfl
theorem ch_image {n : Nat} {σ : gb_S} {p1 : Int32} : gb_hc (cs_Face_image n σ p1) (fun s r => (r = 0 ∧ s = σ ∧ (p1.toInt < 0 ∨ 2 < p1.toInt)) ∨ ∃ (k : Nat) (s2 : gb_S), r = 1 ∧ p1.toInt = k ∧ k < 3 ∧ gb_cpd σ (25 + 23 * k) 1 s2 ∧ s = gb_su s2 94 (upd (s2.1 94) k 1)) := by
  unfold cs_Face_image
  have c0 : (0 : Int32).toInt = 0 := by decide
  have c3 : (3 : Int32).toInt = 3 := by decide
  have nb : vp_nar .boolean 1 = 1 := by decide
  refine hc_if (fun c => hc_some (Or.inl ⟨rfl, rfl, Or.inl (by have := gi_lt c; omega)⟩)) (fun c => hc_if (fun d => ?_) (fun d => hc_some (Or.inl ⟨rfl, rfl, Or.inr (by have := gi_nlt d; omega)⟩)))
  have h1 := gi_nlt c
  have h2 := gi_lt d
  obtain ⟨k, e1, t1⟩ := gi_nn (x := p1) (by omega)
  have hk : k < 3 := by omega
  refine hc_ck (fun _ _ => hc_lt (fun a ea => hc_kk (fun _ => ?_)))
  rw [gb_gT3 e1 hk] at ea
  subst ea
  refine hc_cd (ch_copy (by omega)) (fun s2 _ h => hc_ck (fun _ _ => hc_lt (fun s3 e3 => hc_some (Or.inr ⟨k, s2, rfl, e1, hk, h, ?_⟩))))
  rw [e3, t1, nb]
theorem ch_again {n : Nat} {σ : gb_S} {p1 : Int32} : gb_hc (cs_Face_again n σ p1) (fun s r => (r = 0 ∧ s = σ ∧ (p1.toInt < 0 ∨ 2 < p1.toInt ∨ ∃ k : Nat, p1.toInt = k ∧ k < 3 ∧ σ.1 94 k = 0)) ∨ ∃ (k : Nat), r = 1 ∧ p1.toInt = k ∧ k < 3 ∧ ¬ σ.1 94 k = 0 ∧ gb_cpd σ 1 (25 + 23 * k) s) := by
  unfold cs_Face_again
  have c0 : (0 : Int32).toInt = 0 := by decide
  have c3 : (3 : Int32).toInt = 3 := by decide
  refine hc_if (fun c => hc_some (Or.inl ⟨rfl, rfl, Or.inl (by have := gi_lt c; omega)⟩)) (fun c => hc_if (fun d => hc_some (Or.inl ⟨rfl, rfl, Or.inr (Or.inl (by have := gi_le d; omega))⟩)) (fun d => ?_))
  have h1 := gi_nlt c
  have h2 := gi_nle d
  obtain ⟨k, e1, t1⟩ := gi_nn (x := p1) (by omega)
  have hk : k < 3 := by omega
  refine hc_ck (fun _ _ => hc_lt (fun x ex => ?_))
  rw [t1] at ex
  refine hc_if (fun z => hc_some (Or.inl ⟨rfl, rfl, Or.inr (Or.inr ⟨k, e1, hk, by rw [← ex]; exact z⟩)⟩)) (fun z => ?_)
  refine hc_ck (fun _ _ => hc_lt (fun a ea => hc_kk (fun _ => ?_)))
  rw [gb_gT3 e1 hk] at ea
  subst ea
  refine hc_cd (ch_copy (by omega)) (fun s2 _ h => hc_some (Or.inr ⟨k, rfl, e1, hk, ?_, h⟩))
  rw [← ex]
  exact z
