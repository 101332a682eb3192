/-! THE CLASS's Reader: numbers, lines -/
theorem ch_canBe {n : Nat} {σ : gb_S} {p1 p2 p3 : Int32} {l i : Nat} {v : Int} (e1 : p1.toInt = l) (hl : l < 18) (e2 : p2.toInt = i) (hi : i < 5) (e3 : p3.toInt = v) : gb_hc (cs_Reader_canBe n σ p1 p2 p3) (fun s r => s = σ ∧ ((r = 1 ∧ gb_can l i v (σ.1 107 0).toInt) ∨ (r = 0 ∧ ¬ gb_can l i v (σ.1 107 0).toInt))) := by
  have c0 : (0 : Int32).toInt = 0 := by decide
  have c1 : (1 : Int32).toInt = 1 := by decide
  have c5 : (5 : Int32).toInt = 5 := by decide
  have m1 : (p1 * 5).toInt = ((5 * l : Nat) : Int) := by
    rw [gb_tmul (by rw [e1, c5]; omega) (by rw [e1, c5]; omega), e1, c5]
    omega
  have m2 : ((p1 * 5) + p2).toInt = ((5 * l + i : Nat) : Int) := by
    rw [gb_tadd (by rw [m1, e2]; omega) (by rw [m1, e2]; omega), m1, e2]
    omega
  have tail : ∀ (t0 : Int32) (a : Int), t0.toInt = a → a = (if l = 0 ∧ i = 0 then (1 : Int) else 0) → ¬ (l = 6 ∧ i = 1 ∧ v = (σ.1 107 0).toInt) → gb_hc (cs_Reader_canBe_36 n σ p1 p2 p3 t0) (fun s r => s = σ ∧ ((r = 1 ∧ gb_can l i v (σ.1 107 0).toInt) ∨ (r = 0 ∧ ¬ gb_can l i v (σ.1 107 0).toInt))) := by
    intro t0 a ea ha hn
    unfold cs_Reader_canBe_36
    refine hc_if (fun c => hc_some ⟨rfl, Or.inr ⟨rfl, fun z => ?_⟩⟩) (fun c => hc_ck (fun _ _ => hc_lt (fun x ex => ?_)))
    · have := gi_lt c
      have := z.2.1
      omega
    · rw [gi_tn m2] at ex
      subst ex
      refine hc_if (fun d => hc_some ⟨rfl, Or.inr ⟨rfl, fun z => ?_⟩⟩) (fun d => hc_some ⟨rfl, Or.inl ⟨rfl, hn, ?_, ?_⟩⟩)
      · have := gi_lt d
        have := z.2.2
        omega
      · have := gi_nlt c
        omega
      · have := gi_nlt d
        omega
  have mid : ¬ (l = 6 ∧ i = 1 ∧ v = (σ.1 107 0).toInt) → gb_hc (cs_Reader_canBe_23 n σ p1 p2 p3) (fun s r => s = σ ∧ ((r = 1 ∧ gb_can l i v (σ.1 107 0).toInt) ∨ (r = 0 ∧ ¬ gb_can l i v (σ.1 107 0).toInt))) := by
    intro hn
    unfold cs_Reader_canBe_23
    refine hc_if (fun c => hc_if (fun d => tail 1 1 c1 ?_ hn) (fun d => ?_)) (fun c => ?_)
    · rw [c] at e1
      rw [d] at e2
      rw [if_pos ⟨by omega, by omega⟩]
    · unfold cs_Reader_canBe_35
      refine tail 0 0 c0 ?_ hn
      rw [if_neg (fun z => d (gi_eq e2 (by rw [z.2]; decide)))]
    · unfold cs_Reader_canBe_35
      refine tail 0 0 c0 ?_ hn
      rw [if_neg (fun z => c (gi_eq e1 (by rw [z.1]; decide)))]
  unfold cs_Reader_canBe
  have t0 : Int32.toNatClampNeg 0 = 0 := by decide
  rw [t0]
  refine hc_if (fun c => hc_if (fun d => hc_lt (fun x ex => ?_)) (fun d => mid (fun z => d (gi_eq e2 (by rw [z.2.1]; decide))))) (fun c => mid (fun z => c (gi_eq e1 (by rw [z.1]; decide))))
  subst ex
  refine hc_if (fun g => hc_some ⟨rfl, Or.inr ⟨rfl, fun z => z.1 ⟨?_, ?_, ?_⟩⟩⟩) (fun g => mid (fun z => g (gb_ieq (e3.trans z.2.2))))
  · have c6 : (6 : Int32).toInt = 6 := by decide
    rw [c] at e1
    omega
  · rw [d] at e2
    omega
  · rw [← g]
    exact e3.symm
theorem ch_note {n : Nat} {σ : gb_S} {k v : Int32} {q : Nat} (e : v.toInt = q) (hq : q ≤ 600) : gb_hc (cs_Reader_note n σ k v) (fun s _ => s.2 = σ.2 ∧ (∀ j, j ≠ 106 → s.1 j = σ.1 j) ∧ (∀ j, j ≠ 4 → j ≠ 5 → s.1 106 j = σ.1 106 j) ∧ (s.1 106 4, s.1 106 5) = gb_note (σ.1 106 4, σ.1 106 5) k q) := by
  unfold cs_Reader_note
  have ev : v = nI q := gb_ieq (by rw [e, nI_toInt (by omega)])
  refine hc_if (fun c => hc_lt (fun s1 h1 => hc_lt (fun s2 h2 => hc_some ⟨?_, fun j hj => ?_, fun j a b => ?_, ?_⟩))) (fun c => hc_some ⟨rfl, fun _ _ => rfl, fun _ _ _ => rfl, ?_⟩)
  · rw [h2, h1]
    rfl
  · rw [h2, gb_sun hj, h1, gb_sun hj]
  · rw [h2, gb_sus, pk_un b, h1, gb_sus, pk_un a]
  · unfold gb_note
    rw [if_pos c, h2, gb_sus, pk_us, pk_un (by decide), h1, gb_sus, pk_us, ev]
  · unfold gb_note
    rw [if_neg c]
def gb_tnd (σ σ2 : gb_S) (l i a e : Nat) (v : Int) : Prop := σ2.2 = σ.2 ∧ (∀ k, k ≠ 106 → k ≠ 107 → σ2.1 k = σ.1 k) ∧ σ2.1 106 2 = σ.1 106 2 ∧ (σ2.1 106 3).toInt = e ∧ (∃ w : Int32, w.toInt = v ∧ σ2.1 107 = upd (σ.1 107) i w) ∧ (σ2.1 106 4, σ2.1 106 5) = (if gb_can l i v (σ2.1 107 0).toInt then (σ.1 106 4, σ.1 106 5) else gb_note (σ.1 106 4, σ.1 106 5) 2 a)
def gb_tnp (T : Nat → Int32) (N : Nat) (σ σ2 : gb_S) (l i a : Nat) (r : Int32) : Prop := (r = 0 ∧ σ2 = σ ∧ ∀ e, gb_run (gb_di T N) a e → e = a ∨ 3 < e - a) ∨ (r = 1 ∧ ∃ (e : Nat) (v : Int), gb_run (gb_di T N) a e ∧ a < e ∧ e - a ≤ 3 ∧ v = gb_val T a (e - a) ∧ e ≤ N ∧ gb_tnd σ σ2 l i a e v)
theorem ch_tn61 {n : Nat} {T : Nat → Int32} {N l i a p : Nat} {σ : gb_S} {v1 v2 v3 v4 : Int32} (hN : N ≤ 600) (e1 : v1.toInt = l) (hl : l < 18) (e2 : v2.toInt = i) (hi : i < 5) (ha : (σ.1 106 3).toInt = a) (e3 : v3.toInt = p) (hap : a ≤ p) (hp : p ≤ N) (hrun : gb_run (gb_di T N) a p) (hv : p - a ≤ 3 → v4.toInt = gb_val T a (p - a)) : gb_hc (cs_Reader_takeNumber_61 n σ v1 v2 v3 v4) (fun σ2 r => gb_tnp T N σ σ2 l i a r) := by
  unfold cs_Reader_takeNumber_61
  have c3 : (3 : Int32).toInt = 3 := by decide
  have hsub : (v3 - (σ.1 106 3)).toInt = ((p - a : Nat) : Int) := by
    rw [gb_tsub (by omega) (by omega), e3, ha]
    omega
  refine hc_if (fun c => hc_some (Or.inl ⟨rfl, rfl, fun e he => Or.inl ?_⟩)) (fun c => hc_if (fun d => ?_) (fun d => hc_some (Or.inl ⟨rfl, rfl, fun e he => Or.inr ?_⟩)))
  · have := run_uq he hrun
    rw [c, ha] at e3
    omega
  · have h3 := gi_le d
    have hlt : a < p := by
      rcases Nat.lt_or_ge a p with z | z
      · exact z
      · exact absurd (gb_ieq (by rw [e3, ha]; omega)) c
    refine hc_ck (fun _ _ => hc_lt (fun s6 e6 => ?_))
    have q106 : s6.1 106 = σ.1 106 := by rw [e6]; exact gb_sun (by decide)
    have q107 : s6.1 107 = upd (σ.1 107) i v4 := by rw [e6, gb_sus, gi_tn e2]
    have qn : ∀ k, k ≠ 107 → s6.1 k = σ.1 k := fun k hk => by rw [e6]; exact gb_sun hk
    have q2 : s6.2 = σ.2 := by rw [e6]; rfl
    have hv2 := hv (by omega)
    refine hc_cd (ch_canBe (σ := s6) e1 hl e2 hi hv2) (fun s7 r h7 => ?_)
    obtain ⟨rfl, h7⟩ := h7
    refine hc_if (fun g => ?_) (fun g => hc_lt (fun s8 e8 => hc_some (Or.inr ⟨rfl, p, _, hrun, hlt, by omega, rfl, hp, ?_⟩)))
    · have hcan : ¬ gb_can l i (gb_val T a (p - a)) (s7.1 107 0).toInt := by
        rcases h7 with z | z
        · rw [g] at z
          exact absurd z.1 (by decide)
        · exact z.2
      refine hc_cd (ch_note (q := a) (by rw [q106]; exact ha) (by omega)) (fun s8 _ h8 => hc_lt (fun s9 e9 => hc_some (Or.inr ⟨rfl, p, _, hrun, hlt, by omega, rfl, hp, ?_⟩)))
      obtain ⟨n1, n2, n3, n4⟩ := h8
      refine ⟨?_, fun k k1 k2 => ?_, ?_, ?_, ⟨v4, hv2, ?_⟩, ?_⟩
      · rw [e9]
        exact n1.trans q2
      · rw [e9, gb_sun k1, n2 k k1, qn k k2]
      · rw [e9, gb_sus, pk_un (by decide), n3 2 (by decide) (by decide), q106]
      · rw [e9, gb_sus, pk_us]
        exact e3
      · rw [e9, gb_sun (by decide), n2 107 (by decide), q107]
      · have z107 : s9.1 107 = s7.1 107 := by rw [e9, gb_sun (by decide), n2 107 (by decide)]
        rw [z107, if_neg hcan, e9, gb_sus, pk_un (by decide), pk_un (by decide), n4, q106]
    · have hcan : gb_can l i (gb_val T a (p - a)) (s7.1 107 0).toInt := by
        rcases h7 with z | z
        · exact z.2
        · exact absurd z.1 g
      refine ⟨?_, fun k k1 k2 => ?_, ?_, ?_, ⟨v4, hv2, ?_⟩, ?_⟩
      · rw [e8]
        exact q2
      · rw [e8, gb_sun k1, qn k k2]
      · rw [e8, gb_sus, pk_un (by decide), q106]
      · rw [e8, gb_sus, pk_us]
        exact e3
      · rw [e8, gb_sun (by decide), q107]
      · have z107 : s8.1 107 = s7.1 107 := by rw [e8, gb_sun (by decide)]
        rw [z107, if_pos hcan, e8, gb_sus, pk_un (by decide), pk_un (by decide), q106]
  · have := run_uq he hrun
    have := gi_nle d
    omega
theorem ch_tn8 {n : Nat} {T : Nat → Int32} {N l i a : Nat} {σ : gb_S} {v1 v2 : Int32} (hx : gb_rc T N σ) (e1 : v1.toInt = l) (hl : l < 18) (e2 : v2.toInt = i) (hi : i < 5) (ha : (σ.1 106 3).toInt = a) : ∀ (mm : Nat) (v3 v4 : Int32) (p : Nat), v3.toInt = p → a ≤ p → p ≤ N → (∀ j, a ≤ j → j < p → gb_di T N j) → (p - a ≤ 3 → v4.toInt = gb_val T a (p - a)) → gb_hc (cs_Reader_takeNumber_8 n mm σ v1 v2 v3 v4) (fun σ2 r => gb_tnp T N σ σ2 l i a r) := by
  have hN := hx.2.2.1
  have hlen := hx.2.1
  have c48 : (48 : Int32).toInt = 48 := by decide
  have c57 : (57 : Int32).toInt = 57 := by decide
  have c10 : (10 : Int32).toInt = 10 := by decide
  intro mm
  induction mm with
  | zero =>
    intros
    exact hc_none
  | succ mm ih =>
    intro v3 v4 p e3 hap hp hD hv
    rw [cs_Reader_takeNumber_8]
    have stop : ¬ gb_di T N p → gb_hc (cs_Reader_takeNumber_61 n σ v1 v2 v3 v4) (fun σ2 r => gb_tnp T N σ σ2 l i a r) := fun hn => ch_tn61 hN e1 hl e2 hi ha e3 hap hp ⟨hap, hD, hn⟩ hv
    refine hc_if (fun c => stop (fun z => ?_)) (fun c => ?_)
    · have := gi_le c
      have := z.1
      omega
    · have hpN : p < N := by
        have := gi_nle c
        omega
      have hb := hx.2.2.2 p hpN
      have rg := byr_rg (lo := 48) (hi := 57) hb (by decide) (by decide)
      rw [hx.1, gi_tn e3]
      refine hc_kk (fun _ => hc_ck (fun _ _ => hc_lt (fun x ex => ?_)))
      subst ex
      refine hc_if (fun d => stop (fun z => ?_)) (fun d => ?_)
      · have := gi_lt d
        have := (rg.mpr z.2).1
        omega
      · refine hc_kk (fun _ => hc_ck (fun _ _ => hc_lt (fun x ex => ?_)))
        subst ex
        refine hc_if (fun g => stop (fun z => ?_)) (fun g => ?_)
        · have := gi_lt g
          have := (rg.mpr z.2).2
          omega
        · have h1 := gi_nlt d
          have h2 := gi_nlt g
          have hdp : gb_di T N p := ⟨hpN, rg.mp ⟨by omega, by omega⟩⟩
          have eb : T p = σ.1 23 p := byr_in hb (by have := hdp.2; omega)
          refine hc_kk (fun _ => hc_ck (fun _ _ => hc_lt (fun x ex => hc_lt (fun y ey => hc_lt (fun z ez => ?_)))))
          subst ex
          refine ih z y (p + 1) (by rw [ez]; exact gi_s1 e3 (by omega)) (by omega) (by omega) (fun j j1 j2 => ?_) (fun h3 => ?_)
          · by_cases q : j = p
            · rw [q]; exact hdp
            · exact hD j j1 (by omega)
          · have hv2 := hv (by omega)
            have bd := val_b (T := T) (q := a) (p - a) (fun j hj => (hD (a + j) (by omega) (by omega)).2)
            have p3 : (10 : Int) ^ (p - a) ≤ 100 := by
              have : p - a = 0 ∨ p - a = 1 ∨ p - a = 2 := by omega
              rcases this with q | q | q <;> (rw [q]; decide)
            have e4 : p + 1 - a = (p - a) + 1 := by omega
            have e5 : a + (p - a) = p := by omega
            have m1 : (v4 * 10).toInt = gb_val T a (p - a) * 10 := by
              rw [gb_tmul (by rw [hv2, c10]; omega) (by rw [hv2, c10]; omega), hv2, c10]
            have m2 : (σ.1 23 p - 48).toInt = (T p).toInt - 48 := by
              rw [gb_tsub (by omega) (by omega), c48, eb]
            have tp := hdp.2
            have m3 : (v4 * 10 + (σ.1 23 p - 48)).toInt = gb_val T a (p - a) * 10 + ((T p).toInt - 48) := by
              rw [gb_tadd (by rw [m1, m2]; omega) (by rw [m1, m2]; omega), m1, m2]
            rw [ey, m3, e4]
            show _ = 10 * gb_val T a (p - a) + (T (a + (p - a))).toInt - 48
            rw [e5]
            omega
theorem ch_takeNumber {n : Nat} {T : Nat → Int32} {N l i a : Nat} {σ : gb_S} {p1 p2 : Int32} (hx : gb_rc T N σ) (e1 : p1.toInt = l) (hl : l < 18) (e2 : p2.toInt = i) (hi : i < 5) (ha : (σ.1 106 3).toInt = a) (haN : a ≤ N) : gb_hc (cs_Reader_takeNumber n σ p1 p2) (fun σ2 r => gb_tnp T N σ σ2 l i a r) := by
  unfold cs_Reader_takeNumber
  refine hc_lt (fun x ex => ch_tn8 hx e1 hl e2 hi ha n x 0 a (by rw [ex]; exact ha) (Nat.le_refl _) haN (fun j a b => absurd b (by omega)) (fun _ => ?_))
  rw [Nat.sub_self]
  rfl
/-! what a line adds to a sheet -/
def gb_wid (s : Nat) : Nat := if s = 1 then 4 else 3
def gb_mst (s : Nat) : Int := if s = 1 then 24 else if s = 2 then 8 else 5
def gb_room (s l : Nat) (G : Nat → Int32) : Prop := if s = 0 then (l = 2 ∨ (l = 0 ∧ (G 0).toInt < 5) ∨ (l = 1 ∧ (G 1).toInt < 8)) else (G 0).toInt < gb_mst s
def gb_addB (l : Nat) (V G G2 : Nat → Int32) : Prop := (l = 2 ∧ G2 = upd G 2 (V 0)) ∨ (l = 0 ∧ G2 = upd (va_cpy V G 0 (3 + 3 * (G 0).toInt.toNat) 3) 0 (G 0 + 1)) ∨ (l = 1 ∧ G2 = upd (va_cpy V G 0 (18 + 5 * (G 1).toInt.toNat) 5) 1 (G 1 + 1))
def gb_addL (s l : Nat) (V G G2 : Nat → Int32) (i : Nat) : Prop := G2 0 = G 0 ∧ (G2 (1 + gb_wid s * (G 0).toInt.toNat)).toInt = (l : Int) - gb_fl s ∧ (∀ j, j < i → G2 (2 + gb_wid s * (G 0).toInt.toNat + j) = if j < gb_kn l then V j else -1) ∧ ∀ j, j ≠ 0 → (j < 1 + gb_wid s * (G 0).toInt.toNat ∨ 1 + gb_wid s * (G 0).toInt.toNat + gb_wid s ≤ j) → G2 j = G j
def gb_added (s l : Nat) (V G G2 : Nat → Int32) : Prop := (¬ gb_room s l G ∧ G2 = G) ∨ (gb_room s l G ∧ ((s = 0 ∧ gb_addB l V G G2) ∨ (s ≠ 0 ∧ ∃ G1, gb_addL s l V G G1 (gb_wid s - 1) ∧ G2 = upd G1 0 (G 0 + 1))))
theorem gb_knt : ∀ l : Fin 18, (gb_tb1 l.val).toInt = gb_kn l.val ∧ gb_kn l.val ≤ 5 := by decide +kernel
theorem gb_knE {v : Int32} {l : Nat} (e : v.toInt = l) (hl : l < 18) : (gb_tb1 (Int32.toNatClampNeg v)).toInt = gb_kn l := by
  rw [gi_tn e]
  exact (gb_knt ⟨l, hl⟩).1
theorem gb_kn5 {l : Nat} (hl : l < 18) : gb_kn l ≤ 5 := (gb_knt ⟨l, hl⟩).2
theorem ch_roomB {n : Nat} {σ : gb_S} {k0 : Nat} {p1 : Int32} {l : Nat} (e1 : p1.toInt = l) (hl : l < 3) : gb_hc (cs_Border_hasRoomFor_B n σ k0 p1) (fun s r => s = σ ∧ ((r = 1 ∧ gb_room 0 l (σ.1 (k0 + 1))) ∨ (r = 0 ∧ ¬ gb_room 0 l (σ.1 (k0 + 1))))) := by
  unfold cs_Border_hasRoomFor_B
  have c0 : (0 : Int32).toInt = 0 := by decide
  have c2 : (2 : Int32).toInt = 2 := by decide
  have c5 : (5 : Int32).toInt = 5 := by decide
  have c8 : (8 : Int32).toInt = 8 := by decide
  have rE : gb_room 0 l (σ.1 (k0 + 1)) ↔ (l = 2 ∨ (l = 0 ∧ (σ.1 (k0 + 1) 0).toInt < 5) ∨ (l = 1 ∧ (σ.1 (k0 + 1) 1).toInt < 8)) := by
    unfold gb_room
    rw [if_pos rfl]
  rw [rE]
  refine hc_kk (fun _ => hc_if (fun c => hc_some ⟨rfl, Or.inl ⟨rfl, Or.inl ?_⟩⟩) (fun c => hc_if (fun d => ?_) (fun d => ?_)))
  · rw [c] at e1
    omega
  · refine hc_cd (P := fun s r => s = σ ∧ r = σ.1 (k0 + 1) 0) ?_ (fun s r h => ?_)
    · unfold cs_Border_paths_B
      exact hc_kk (fun _ => hc_lt (fun x ex => hc_some ⟨rfl, ex⟩))
    · obtain ⟨rfl, rfl⟩ := h
      rw [d] at e1
      refine hc_if (fun g => hc_some ⟨rfl, Or.inr ⟨rfl, ?_⟩⟩) (fun g => hc_some ⟨rfl, Or.inl ⟨rfl, ?_⟩⟩)
      · have := gi_le g
        omega
      · have := gi_nle g
        omega
  · refine hc_cd (P := fun s r => s = σ ∧ r = σ.1 (k0 + 1) 1) ?_ (fun s r h => ?_)
    · unfold cs_Border_geese_B
      exact hc_kk (fun _ => hc_lt (fun x ex => hc_some ⟨rfl, ex⟩))
    · obtain ⟨rfl, rfl⟩ := h
      have l1 : l = 1 := by
        have a : l ≠ 2 := fun q => c (gi_eq e1 (by rw [q]; decide))
        have b : l ≠ 0 := fun q => d (gi_eq e1 (by rw [q]; decide))
        omega
      refine hc_if (fun g => hc_some ⟨rfl, Or.inr ⟨rfl, ?_⟩⟩) (fun g => hc_some ⟨rfl, Or.inl ⟨rfl, ?_⟩⟩)
      · have := gi_le g
        omega
      · have := gi_nle g
        omega
def gb_dD (σ σ2 : gb_S) (D : Nat) : Prop := σ2.2 = σ.2 ∧ ∀ k, k ≠ D → σ2.1 k = σ.1 k
set_option maxHeartbeats 2000000 in
theorem ch_addB {n : Nat} {σ : gb_S} {k0 : Nat} {p1 : Int32} {l : Nat} (hk : k0 ≠ 106) (e1 : p1.toInt = l) (hl : l < 3) (h0 : 0 ≤ (σ.1 (k0 + 1) 0).toInt) (h1 : 0 ≤ (σ.1 (k0 + 1) 1).toInt) : gb_hc (cs_Border_addLine_B_c107 n σ k0 p1) (fun s _ => gb_dD σ s (k0 + 1) ∧ gb_added 0 l (σ.1 107) (σ.1 (k0 + 1)) (s.1 (k0 + 1))) := by
  unfold cs_Border_addLine_B_c107
  have c0 : (0 : Int32).toInt = 0 := by decide
  have c1 : (1 : Int32).toInt = 1 := by decide
  have c2 : (2 : Int32).toInt = 2 := by decide
  have c3 : (3 : Int32).toInt = 3 := by decide
  have c5 : (5 : Int32).toInt = 5 := by decide
  have c18 : (18 : Int32).toInt = 18 := by decide
  have t0 : Int32.toNatClampNeg 0 = 0 := by decide
  have t1 : Int32.toNatClampNeg 1 = 1 := by decide
  have t2 : Int32.toNatClampNeg 2 = 2 := by decide
  have t3 : Int32.toNatClampNeg 3 = 3 := by decide
  have t5 : Int32.toNatClampNeg 5 = 5 := by decide
  rw [t0, t1, t2, t3, t5]
  refine hc_kk (fun _ => hc_cd (ch_roomB e1 hl) (fun s r h => ?_))
  obtain ⟨rfl, h⟩ := h
  refine hc_if (fun c => hc_some ⟨⟨rfl, fun _ _ => rfl⟩, Or.inl ⟨?_, rfl⟩⟩) (fun c => ?_)
  · rcases h with z | z
    · rw [c] at z
      exact absurd z.1 (by decide)
    · exact z.2
  · have hr : gb_room 0 l (s.1 (k0 + 1)) := by
      rcases h with z | z
      · exact z.2
      · exact absurd z.1 c
    have hr2 : l = 2 ∨ (l = 0 ∧ (s.1 (k0 + 1) 0).toInt < 5) ∨ (l = 1 ∧ (s.1 (k0 + 1) 1).toInt < 8) := by
      have := hr
      unfold gb_room at this
      rw [if_pos rfl] at this
      exact this
    refine hc_if (fun d => hc_lt (fun x ex => hc_lt (fun s2 e2 => hc_some ⟨⟨by rw [e2]; rfl, fun k hk => by rw [e2]; exact gb_sun hk⟩, Or.inr ⟨hr, Or.inl ⟨rfl, Or.inl ⟨?_, ?_⟩⟩⟩⟩))) (fun d => hc_if (fun g => ?_) (fun g => hc_if (fun g2 => ?_) (fun g2 => ?_)))
    · rw [d] at e1
      omega
    · rw [e2, gb_sus, ex]
    · rw [g] at e1
      have l0 : l = 0 := by omega
      refine hc_cd (P := fun s2 r => s2 = s ∧ r = s.1 (k0 + 1) 0) ?_ (fun s2 r h2 => ?_)
      · unfold cs_Border_paths_B
        exact hc_kk (fun _ => hc_lt (fun x ex => hc_some ⟨rfl, by rw [ex, t0]⟩))
      · obtain ⟨rfl, rfl⟩ := h2
        have m1 : (s2.1 (k0 + 1) 0 * 3).toInt = ((3 * (s2.1 (k0 + 1) 0).toInt.toNat : Nat) : Int) := by
          rw [gb_tmul (by rw [c3]; omega) (by rw [c3]; omega), c3]
          omega
        have m2 : ((3 : Int32) + s2.1 (k0 + 1) 0 * 3).toInt = ((3 + 3 * (s2.1 (k0 + 1) 0).toInt.toNat : Nat) : Int) := by
          rw [gb_tadd (by rw [m1, c3]; omega) (by rw [m1, c3]; omega), m1, c3]
          omega
        rw [gi_tn m2]
        refine hc_ac (hc_lt (fun s3 e3 => hc_lt (fun x ex => hc_lt (fun s4 e4 => hc_some ⟨⟨by rw [e4, e3]; rfl, fun k hk => by rw [e4, gb_sun hk, e3, gb_sun hk]⟩, Or.inr ⟨hr, Or.inl ⟨rfl, Or.inr (Or.inl ⟨l0, ?_⟩)⟩⟩⟩))))
        have x0 : x = s2.1 (k0 + 1) 0 := by
          rw [ex, e3, gb_sus]
          unfold va_cpy
          rw [if_neg (by omega)]
        rw [e4, gb_sus, e3, gb_sus, x0]
    · rw [g2] at e1
      have l0 : l = 1 := by omega
      refine hc_cd (P := fun s2 r => s2 = s ∧ r = s.1 (k0 + 1) 1) ?_ (fun s2 r h2 => ?_)
      · unfold cs_Border_geese_B
        exact hc_kk (fun _ => hc_lt (fun x ex => hc_some ⟨rfl, by rw [ex, t1]⟩))
      · obtain ⟨rfl, rfl⟩ := h2
        have m1 : (s2.1 (k0 + 1) 1 * 5).toInt = ((5 * (s2.1 (k0 + 1) 1).toInt.toNat : Nat) : Int) := by
          rw [gb_tmul (by rw [c5]; omega) (by rw [c5]; omega), c5]
          omega
        have m2 : ((18 : Int32) + s2.1 (k0 + 1) 1 * 5).toInt = ((18 + 5 * (s2.1 (k0 + 1) 1).toInt.toNat : Nat) : Int) := by
          rw [gb_tadd (by rw [m1, c18]; omega) (by rw [m1, c18]; omega), m1, c18]
          omega
        rw [gi_tn m2]
        refine hc_ac (hc_lt (fun s3 e3 => hc_lt (fun x ex => hc_lt (fun s4 e4 => hc_some ⟨⟨by rw [e4, e3]; rfl, fun k hk => by rw [e4, gb_sun hk, e3, gb_sun hk]⟩, Or.inr ⟨hr, Or.inl ⟨rfl, Or.inr (Or.inr ⟨l0, ?_⟩)⟩⟩⟩))))
        have x0 : x = s2.1 (k0 + 1) 1 := by
          rw [ex, e3, gb_sus]
          unfold va_cpy
          rw [if_neg (by omega)]
        rw [e4, gb_sus, e3, gb_sus, x0]
    · have a : l ≠ 0 := fun q => g (gi_eq e1 (by rw [q]; decide))
      have b : l ≠ 1 := fun q => g2 (gi_eq e1 (by rw [q]; decide))
      have b2 : l ≠ 2 := fun q => d (gi_eq e1 (by rw [q]; decide))
      omega
theorem ch_roomN {n : Nat} {σ : gb_S} {k0 : Nat} {p1 : Int32} {l : Nat} : gb_hc (cs_Lines_hasRoomFor_N n σ k0 p1) (fun s r => s = σ ∧ ((r = 1 ∧ gb_room 1 l (σ.1 (k0 + 1))) ∨ (r = 0 ∧ ¬ gb_room 1 l (σ.1 (k0 + 1))))) := by
  unfold cs_Lines_hasRoomFor_N
  have cm : (24 : Int32).toInt = 24 := by decide
  have rE : gb_room 1 l (σ.1 (k0 + 1)) ↔ (σ.1 (k0 + 1) 0).toInt < 24 := Iff.rfl
  rw [rE]
  refine hc_kk (fun _ => hc_cd (P := fun s r => s = σ ∧ r = σ.1 (k0 + 1) 0) ?_ (fun s r h => ?_))
  · unfold cs_Lines_size_N
    exact hc_kk (fun _ => hc_lt (fun x ex => hc_some ⟨rfl, ex⟩))
  · obtain ⟨rfl, rfl⟩ := h
    refine hc_if (fun g => hc_some ⟨rfl, Or.inr ⟨rfl, ?_⟩⟩) (fun g => hc_some ⟨rfl, Or.inl ⟨rfl, ?_⟩⟩)
    · have := gi_le g
      omega
    · have := gi_nle g
      omega
set_option maxHeartbeats 2000000 in
theorem ch_add48N {n : Nat} {σ0 : gb_S} {k0 l c : Nat} {v1 v3 : Int32} (hk : k0 ≠ 106) (e1 : v1.toInt = l) (hl : l < 18) (hc : (σ0.1 (k0 + 1) 0).toInt.toNat = c) (hc2 : c < 24) (e3 : v3.toInt = ((1 + 4 * c : Nat) : Int)) : ∀ (mm : Nat) (σ : gb_S) (v4 : Int32) (i : Nat), v4.toInt = i → i ≤ 3 → gb_dD σ0 σ (k0 + 1) → gb_addL 1 l (σ0.1 107) (σ0.1 (k0 + 1)) (σ.1 (k0 + 1)) i → gb_hc (cs_Lines_addLine_N_c107_48 n mm σ k0 v1 v3 v4) (fun s _ => gb_dD σ0 s (k0 + 1) ∧ ∃ G1, gb_addL 1 l (σ0.1 107) (σ0.1 (k0 + 1)) G1 3 ∧ s.1 (k0 + 1) = upd G1 0 (σ0.1 (k0 + 1) 0 + 1)) := by
  have c1 : (1 : Int32).toInt = 1 := by decide
  have cn : (3 : Int32).toInt = 3 := by decide
  have t0 : Int32.toNatClampNeg 0 = 0 := by decide
  have h107 : (107 : Nat) ≠ k0 + 1 := by omega
  have wE : gb_wid 1 = 4 := rfl
  intro mm
  induction mm with
  | zero =>
    intros
    exact hc_none
  | succ mm ih =>
    intro σ v4 i e4 hi hD hA
    rw [cs_Lines_addLine_N_c107_48]
    have kE := gb_knE e1 hl
    obtain ⟨a1, a2, a3, a4⟩ := hA
    rw [wE, hc] at a2 a3 a4
    refine hc_kk (fun _ => hc_if (fun g => ?_) (fun g => ?_))
    · have := gi_le g
      have hin : i = 3 := by omega
      subst hin
      rw [t0]
      refine hc_lt (fun x ex => hc_lt (fun s es => hc_some ⟨⟨by rw [es]; exact hD.1, fun k hk => by rw [es, gb_sun hk]; exact hD.2 k hk⟩, σ.1 (k0 + 1), ⟨a1, by rw [wE, hc]; exact a2, by rw [wE, hc]; exact a3, by rw [wE, hc]; exact a4⟩, ?_⟩))
      rw [es, gb_sus, ex, a1]
    · have hi2 : i < 3 := by
        have := gi_nle g
        omega
      have m1 : (v3 + 1).toInt = ((2 + 4 * c : Nat) : Int) := by
        rw [gb_tadd (by omega) (by omega), c1, e3]
        omega
      have m2 : ((v3 + 1) + v4).toInt = ((2 + 4 * c + i : Nat) : Int) := by
        rw [gb_tadd (by omega) (by omega), m1, e4]
        omega
      rw [gi_tn m2, gi_tn e4]
      have step : ∀ (u : Int32) (s : gb_S) (x : Int32), u = (if i < gb_kn l then σ0.1 107 i else -1) → s = gb_su σ (k0 + 1) (upd (σ.1 (k0 + 1)) (2 + 4 * c + i) u) → x = v4 + 1 → gb_hc (cs_Lines_addLine_N_c107_48 n mm s k0 v1 v3 x) (fun s _ => gb_dD σ0 s (k0 + 1) ∧ ∃ G1, gb_addL 1 l (σ0.1 107) (σ0.1 (k0 + 1)) G1 3 ∧ s.1 (k0 + 1) = upd G1 0 (σ0.1 (k0 + 1) 0 + 1)) := by
        intro u s x eu es ex
        refine ih s x (i + 1) (by rw [ex]; exact gi_s1 e4 (by omega)) (by omega) ⟨by rw [es]; exact hD.1, fun k hk => by rw [es, gb_sun hk]; exact hD.2 k hk⟩ ⟨?_, ?_, fun j hj => ?_, fun j h1 h2 => ?_⟩
        · rw [es, gb_sus, pk_un (by omega)]
          exact a1
        · rw [wE, hc, es, gb_sus, pk_un (by omega)]
          exact a2
        · rw [wE, hc, es, gb_sus]
          by_cases q : j = i
          · rw [q, pk_us, eu]
          · rw [pk_un (by omega)]
            exact a3 j (by omega)
        · rw [wE, hc] at h2
          rw [es, gb_sus, pk_un (by omega)]
          exact a4 j h1 h2
      refine hc_ck (fun _ _ => hc_lt (fun x ex => ?_))
      rw [← ex] at kE
      refine hc_if (fun d => hc_ck (fun _ _ => hc_lt (fun s es => hc_lt (fun y ey => step (-1) s y ?_ es ey)))) (fun d => hc_ck (fun _ _ => hc_lt (fun u eu => hc_ck (fun _ _ => hc_lt (fun s es => hc_lt (fun y ey => step u s y ?_ es ey))))))
      · have := gi_le d
        rw [if_neg (by omega)]
      · have := gi_nle d
        rw [if_pos (by omega), eu, hD.2 107 h107]
set_option maxHeartbeats 2000000 in
theorem ch_addN {n : Nat} {σ : gb_S} {k0 : Nat} {p1 : Int32} {l : Nat} (hk : k0 ≠ 106) (e1 : p1.toInt = l) (hl : l < 18) (h0 : 0 ≤ (σ.1 (k0 + 1) 0).toInt) : gb_hc (cs_Lines_addLine_N_c107 n σ k0 p1) (fun s _ => gb_dD σ s (k0 + 1) ∧ gb_added 1 l (σ.1 107) (σ.1 (k0 + 1)) (s.1 (k0 + 1))) := by
  unfold cs_Lines_addLine_N_c107
  have c0 : (0 : Int32).toInt = 0 := by decide
  have c1 : (1 : Int32).toInt = 1 := by decide
  have cw : ((3 : Int32) + 1).toInt = 4 := by decide
  have c18 : (18 : Int32).toInt = 18 := by decide
  have cf : (3 : Int32).toInt = 3 := by decide
  refine hc_kk (fun _ => hc_cd (ch_roomN (l := l)) (fun s r h => ?_))
  obtain ⟨rfl, h⟩ := h
  refine hc_if (fun c => hc_some ⟨⟨rfl, fun _ _ => rfl⟩, Or.inl ⟨?_, rfl⟩⟩) (fun c => ?_)
  · rcases h with z | z
    · rw [c] at z
      exact absurd z.1 (by decide)
    · exact z.2
  · have hr : gb_room 1 l (s.1 (k0 + 1)) := by
      rcases h with z | z
      · exact z.2
      · exact absurd z.1 c
    have hr2 : (s.1 (k0 + 1) 0).toInt < 24 := hr
    refine hc_if (fun d => ?_) (fun d => hc_if (fun g => ?_) (fun g => ?_))
    · have := gi_lt d
      omega
    · refine hc_cd (P := fun s2 r => s2 = s ∧ r = s.1 (k0 + 1) 0) ?_ (fun s2 r h2 => ?_)
      · unfold cs_Lines_size_N
        exact hc_kk (fun _ => hc_lt (fun x ex => hc_some ⟨rfl, ex⟩))
      · obtain ⟨rfl, rfl⟩ := h2
        have m1 : (s2.1 (k0 + 1) 0 * ((3 : Int32) + 1)).toInt = ((4 * (s2.1 (k0 + 1) 0).toInt.toNat : Nat) : Int) := by
          rw [gb_tmul (by rw [cw]; omega) (by rw [cw]; omega), cw]
          omega
        have m2 : ((1 : Int32) + s2.1 (k0 + 1) 0 * ((3 : Int32) + 1)).toInt = ((1 + 4 * (s2.1 (k0 + 1) 0).toInt.toNat : Nat) : Int) := by
          rw [gb_tadd (by rw [m1, c1]; omega) (by rw [m1, c1]; omega), m1, c1]
          omega
        refine hc_lt (fun x ex => hc_ck (fun _ _ => hc_lt (fun s3 e3 => ?_)))
        rw [← ex] at m2
        rw [gi_tn m2] at e3
        refine hc_mono (ch_add48N (σ0 := s2) hk e1 hl rfl (by omega) m2 n s3 0 0 c0 (Nat.zero_le _) ⟨by rw [e3]; rfl, fun k hk => by rw [e3]; exact gb_sun hk⟩ ⟨?_, ?_, fun j hj => absurd hj (Nat.not_lt_zero _), fun j h1 h2 => ?_⟩) (fun s4 _ h4 => ⟨h4.1, Or.inr ⟨hr, Or.inr ⟨by decide, h4.2⟩⟩⟩)
        · rw [e3, gb_sus, pk_un (by omega)]
        · show (s3.1 (k0 + 1) (1 + 4 * _)).toInt = (l : Int) - (3 : Nat)
          rw [e3, gb_sus, pk_us, gb_tsub (by rw [cf]; omega) (by rw [cf]; omega), e1, cf]
          rfl
        · have h2' : j < 1 + 4 * (s2.1 (k0 + 1) 0).toInt.toNat ∨ 1 + 4 * (s2.1 (k0 + 1) 0).toInt.toNat + 4 ≤ j := h2
          rw [e3, gb_sus, pk_un (by omega)]
    · have := gi_nlt g
      omega
theorem ch_roomL {n : Nat} {σ : gb_S} {k0 : Nat} {p1 : Int32} {l : Nat} : gb_hc (cs_Lines_hasRoomFor_L n σ k0 p1) (fun s r => s = σ ∧ ((r = 1 ∧ gb_room 2 l (σ.1 (k0 + 1))) ∨ (r = 0 ∧ ¬ gb_room 2 l (σ.1 (k0 + 1))))) := by
  unfold cs_Lines_hasRoomFor_L
  have cm : (8 : Int32).toInt = 8 := by decide
  have rE : gb_room 2 l (σ.1 (k0 + 1)) ↔ (σ.1 (k0 + 1) 0).toInt < 8 := Iff.rfl
  rw [rE]
  refine hc_kk (fun _ => hc_cd (P := fun s r => s = σ ∧ r = σ.1 (k0 + 1) 0) ?_ (fun s r h => ?_))
  · unfold cs_Lines_size_L
    exact hc_kk (fun _ => hc_lt (fun x ex => hc_some ⟨rfl, ex⟩))
  · obtain ⟨rfl, rfl⟩ := h
    refine hc_if (fun g => hc_some ⟨rfl, Or.inr ⟨rfl, ?_⟩⟩) (fun g => hc_some ⟨rfl, Or.inl ⟨rfl, ?_⟩⟩)
    · have := gi_le g
      omega
    · have := gi_nle g
      omega
set_option maxHeartbeats 2000000 in
theorem ch_add48L {n : Nat} {σ0 : gb_S} {k0 l c : Nat} {v1 v3 : Int32} (hk : k0 ≠ 106) (e1 : v1.toInt = l) (hl : l < 18) (hc : (σ0.1 (k0 + 1) 0).toInt.toNat = c) (hc2 : c < 24) (e3 : v3.toInt = ((1 + 3 * c : Nat) : Int)) : ∀ (mm : Nat) (σ : gb_S) (v4 : Int32) (i : Nat), v4.toInt = i → i ≤ 2 → gb_dD σ0 σ (k0 + 1) → gb_addL 2 l (σ0.1 107) (σ0.1 (k0 + 1)) (σ.1 (k0 + 1)) i → gb_hc (cs_Lines_addLine_L_c107_48 n mm σ k0 v1 v3 v4) (fun s _ => gb_dD σ0 s (k0 + 1) ∧ ∃ G1, gb_addL 2 l (σ0.1 107) (σ0.1 (k0 + 1)) G1 2 ∧ s.1 (k0 + 1) = upd G1 0 (σ0.1 (k0 + 1) 0 + 1)) := by
  have c1 : (1 : Int32).toInt = 1 := by decide
  have cn : (2 : Int32).toInt = 2 := by decide
  have t0 : Int32.toNatClampNeg 0 = 0 := by decide
  have h107 : (107 : Nat) ≠ k0 + 1 := by omega
  have wE : gb_wid 2 = 3 := rfl
  intro mm
  induction mm with
  | zero =>
    intros
    exact hc_none
  | succ mm ih =>
    intro σ v4 i e4 hi hD hA
    rw [cs_Lines_addLine_L_c107_48]
    have kE := gb_knE e1 hl
    obtain ⟨a1, a2, a3, a4⟩ := hA
    rw [wE, hc] at a2 a3 a4
    refine hc_kk (fun _ => hc_if (fun g => ?_) (fun g => ?_))
    · have := gi_le g
      have hin : i = 2 := by omega
      subst hin
      rw [t0]
      refine hc_lt (fun x ex => hc_lt (fun s es => hc_some ⟨⟨by rw [es]; exact hD.1, fun k hk => by rw [es, gb_sun hk]; exact hD.2 k hk⟩, σ.1 (k0 + 1), ⟨a1, by rw [wE, hc]; exact a2, by rw [wE, hc]; exact a3, by rw [wE, hc]; exact a4⟩, ?_⟩))
      rw [es, gb_sus, ex, a1]
    · have hi2 : i < 2 := by
        have := gi_nle g
        omega
      have m1 : (v3 + 1).toInt = ((2 + 3 * c : Nat) : Int) := by
        rw [gb_tadd (by omega) (by omega), c1, e3]
        omega
      have m2 : ((v3 + 1) + v4).toInt = ((2 + 3 * c + i : Nat) : Int) := by
        rw [gb_tadd (by omega) (by omega), m1, e4]
        omega
      rw [gi_tn m2, gi_tn e4]
      have step : ∀ (u : Int32) (s : gb_S) (x : Int32), u = (if i < gb_kn l then σ0.1 107 i else -1) → s = gb_su σ (k0 + 1) (upd (σ.1 (k0 + 1)) (2 + 3 * c + i) u) → x = v4 + 1 → gb_hc (cs_Lines_addLine_L_c107_48 n mm s k0 v1 v3 x) (fun s _ => gb_dD σ0 s (k0 + 1) ∧ ∃ G1, gb_addL 2 l (σ0.1 107) (σ0.1 (k0 + 1)) G1 2 ∧ s.1 (k0 + 1) = upd G1 0 (σ0.1 (k0 + 1) 0 + 1)) := by
        intro u s x eu es ex
        refine ih s x (i + 1) (by rw [ex]; exact gi_s1 e4 (by omega)) (by omega) ⟨by rw [es]; exact hD.1, fun k hk => by rw [es, gb_sun hk]; exact hD.2 k hk⟩ ⟨?_, ?_, fun j hj => ?_, fun j h1 h2 => ?_⟩
        · rw [es, gb_sus, pk_un (by omega)]
          exact a1
        · rw [wE, hc, es, gb_sus, pk_un (by omega)]
          exact a2
        · rw [wE, hc, es, gb_sus]
          by_cases q : j = i
          · rw [q, pk_us, eu]
          · rw [pk_un (by omega)]
            exact a3 j (by omega)
        · rw [wE, hc] at h2
          rw [es, gb_sus, pk_un (by omega)]
          exact a4 j h1 h2
      refine hc_ck (fun _ _ => hc_lt (fun x ex => ?_))
      rw [← ex] at kE
      refine hc_if (fun d => hc_ck (fun _ _ => hc_lt (fun s es => hc_lt (fun y ey => step (-1) s y ?_ es ey)))) (fun d => hc_ck (fun _ _ => hc_lt (fun u eu => hc_ck (fun _ _ => hc_lt (fun s es => hc_lt (fun y ey => step u s y ?_ es ey))))))
      · have := gi_le d
        rw [if_neg (by omega)]
      · have := gi_nle d
        rw [if_pos (by omega), eu, hD.2 107 h107]
set_option maxHeartbeats 2000000 in
theorem ch_addL {n : Nat} {σ : gb_S} {k0 : Nat} {p1 : Int32} {l : Nat} (hk : k0 ≠ 106) (e1 : p1.toInt = l) (hl : l < 18) (h0 : 0 ≤ (σ.1 (k0 + 1) 0).toInt) : gb_hc (cs_Lines_addLine_L_c107 n σ k0 p1) (fun s _ => gb_dD σ s (k0 + 1) ∧ gb_added 2 l (σ.1 107) (σ.1 (k0 + 1)) (s.1 (k0 + 1))) := by
  unfold cs_Lines_addLine_L_c107
  have c0 : (0 : Int32).toInt = 0 := by decide
  have c1 : (1 : Int32).toInt = 1 := by decide
  have cw : ((2 : Int32) + 1).toInt = 3 := by decide
  have c18 : (18 : Int32).toInt = 18 := by decide
  have cf : (12 : Int32).toInt = 12 := by decide
  refine hc_kk (fun _ => hc_cd (ch_roomL (l := l)) (fun s r h => ?_))
  obtain ⟨rfl, h⟩ := h
  refine hc_if (fun c => hc_some ⟨⟨rfl, fun _ _ => rfl⟩, Or.inl ⟨?_, rfl⟩⟩) (fun c => ?_)
  · rcases h with z | z
    · rw [c] at z
      exact absurd z.1 (by decide)
    · exact z.2
  · have hr : gb_room 2 l (s.1 (k0 + 1)) := by
      rcases h with z | z
      · exact z.2
      · exact absurd z.1 c
    have hr2 : (s.1 (k0 + 1) 0).toInt < 8 := hr
    refine hc_if (fun d => ?_) (fun d => hc_if (fun g => ?_) (fun g => ?_))
    · have := gi_lt d
      omega
    · refine hc_cd (P := fun s2 r => s2 = s ∧ r = s.1 (k0 + 1) 0) ?_ (fun s2 r h2 => ?_)
      · unfold cs_Lines_size_L
        exact hc_kk (fun _ => hc_lt (fun x ex => hc_some ⟨rfl, ex⟩))
      · obtain ⟨rfl, rfl⟩ := h2
        have m1 : (s2.1 (k0 + 1) 0 * ((2 : Int32) + 1)).toInt = ((3 * (s2.1 (k0 + 1) 0).toInt.toNat : Nat) : Int) := by
          rw [gb_tmul (by rw [cw]; omega) (by rw [cw]; omega), cw]
          omega
        have m2 : ((1 : Int32) + s2.1 (k0 + 1) 0 * ((2 : Int32) + 1)).toInt = ((1 + 3 * (s2.1 (k0 + 1) 0).toInt.toNat : Nat) : Int) := by
          rw [gb_tadd (by rw [m1, c1]; omega) (by rw [m1, c1]; omega), m1, c1]
          omega
        refine hc_lt (fun x ex => hc_ck (fun _ _ => hc_lt (fun s3 e3 => ?_)))
        rw [← ex] at m2
        rw [gi_tn m2] at e3
        refine hc_mono (ch_add48L (σ0 := s2) hk e1 hl rfl (by omega) m2 n s3 0 0 c0 (Nat.zero_le _) ⟨by rw [e3]; rfl, fun k hk => by rw [e3]; exact gb_sun hk⟩ ⟨?_, ?_, fun j hj => absurd hj (Nat.not_lt_zero _), fun j h1 h2 => ?_⟩) (fun s4 _ h4 => ⟨h4.1, Or.inr ⟨hr, Or.inr ⟨by decide, h4.2⟩⟩⟩)
        · rw [e3, gb_sus, pk_un (by omega)]
        · show (s3.1 (k0 + 1) (1 + 3 * _)).toInt = (l : Int) - (12 : Nat)
          rw [e3, gb_sus, pk_us, gb_tsub (by rw [cf]; omega) (by rw [cf]; omega), e1, cf]
          rfl
        · have h2' : j < 1 + 3 * (s2.1 (k0 + 1) 0).toInt.toNat ∨ 1 + 3 * (s2.1 (k0 + 1) 0).toInt.toNat + 3 ≤ j := h2
          rw [e3, gb_sus, pk_un (by omega)]
    · have := gi_nlt g
      omega
theorem ch_roomD {n : Nat} {σ : gb_S} {k0 : Nat} {p1 : Int32} {l : Nat} : gb_hc (cs_Lines_hasRoomFor_D n σ k0 p1) (fun s r => s = σ ∧ ((r = 1 ∧ gb_room 3 l (σ.1 (k0 + 1))) ∨ (r = 0 ∧ ¬ gb_room 3 l (σ.1 (k0 + 1))))) := by
  unfold cs_Lines_hasRoomFor_D
  have cm : (5 : Int32).toInt = 5 := by decide
  have rE : gb_room 3 l (σ.1 (k0 + 1)) ↔ (σ.1 (k0 + 1) 0).toInt < 5 := Iff.rfl
  rw [rE]
  refine hc_kk (fun _ => hc_cd (P := fun s r => s = σ ∧ r = σ.1 (k0 + 1) 0) ?_ (fun s r h => ?_))
  · unfold cs_Lines_size_D
    exact hc_kk (fun _ => hc_lt (fun x ex => hc_some ⟨rfl, ex⟩))
  · obtain ⟨rfl, rfl⟩ := h
    refine hc_if (fun g => hc_some ⟨rfl, Or.inr ⟨rfl, ?_⟩⟩) (fun g => hc_some ⟨rfl, Or.inl ⟨rfl, ?_⟩⟩)
    · have := gi_le g
      omega
    · have := gi_nle g
      omega
set_option maxHeartbeats 2000000 in
theorem ch_add48D {n : Nat} {σ0 : gb_S} {k0 l c : Nat} {v1 v3 : Int32} (hk : k0 ≠ 106) (e1 : v1.toInt = l) (hl : l < 18) (hc : (σ0.1 (k0 + 1) 0).toInt.toNat = c) (hc2 : c < 24) (e3 : v3.toInt = ((1 + 3 * c : Nat) : Int)) : ∀ (mm : Nat) (σ : gb_S) (v4 : Int32) (i : Nat), v4.toInt = i → i ≤ 2 → gb_dD σ0 σ (k0 + 1) → gb_addL 3 l (σ0.1 107) (σ0.1 (k0 + 1)) (σ.1 (k0 + 1)) i → gb_hc (cs_Lines_addLine_D_c107_48 n mm σ k0 v1 v3 v4) (fun s _ => gb_dD σ0 s (k0 + 1) ∧ ∃ G1, gb_addL 3 l (σ0.1 107) (σ0.1 (k0 + 1)) G1 2 ∧ s.1 (k0 + 1) = upd G1 0 (σ0.1 (k0 + 1) 0 + 1)) := by
  have c1 : (1 : Int32).toInt = 1 := by decide
  have cn : (2 : Int32).toInt = 2 := by decide
  have t0 : Int32.toNatClampNeg 0 = 0 := by decide
  have h107 : (107 : Nat) ≠ k0 + 1 := by omega
  have wE : gb_wid 3 = 3 := rfl
  intro mm
  induction mm with
  | zero =>
    intros
    exact hc_none
  | succ mm ih =>
    intro σ v4 i e4 hi hD hA
    rw [cs_Lines_addLine_D_c107_48]
    have kE := gb_knE e1 hl
    obtain ⟨a1, a2, a3, a4⟩ := hA
    rw [wE, hc] at a2 a3 a4
    refine hc_kk (fun _ => hc_if (fun g => ?_) (fun g => ?_))
    · have := gi_le g
      have hin : i = 2 := by omega
      subst hin
      rw [t0]
      refine hc_lt (fun x ex => hc_lt (fun s es => hc_some ⟨⟨by rw [es]; exact hD.1, fun k hk => by rw [es, gb_sun hk]; exact hD.2 k hk⟩, σ.1 (k0 + 1), ⟨a1, by rw [wE, hc]; exact a2, by rw [wE, hc]; exact a3, by rw [wE, hc]; exact a4⟩, ?_⟩))
      rw [es, gb_sus, ex, a1]
    · have hi2 : i < 2 := by
        have := gi_nle g
        omega
      have m1 : (v3 + 1).toInt = ((2 + 3 * c : Nat) : Int) := by
        rw [gb_tadd (by omega) (by omega), c1, e3]
        omega
      have m2 : ((v3 + 1) + v4).toInt = ((2 + 3 * c + i : Nat) : Int) := by
        rw [gb_tadd (by omega) (by omega), m1, e4]
        omega
      rw [gi_tn m2, gi_tn e4]
      have step : ∀ (u : Int32) (s : gb_S) (x : Int32), u = (if i < gb_kn l then σ0.1 107 i else -1) → s = gb_su σ (k0 + 1) (upd (σ.1 (k0 + 1)) (2 + 3 * c + i) u) → x = v4 + 1 → gb_hc (cs_Lines_addLine_D_c107_48 n mm s k0 v1 v3 x) (fun s _ => gb_dD σ0 s (k0 + 1) ∧ ∃ G1, gb_addL 3 l (σ0.1 107) (σ0.1 (k0 + 1)) G1 2 ∧ s.1 (k0 + 1) = upd G1 0 (σ0.1 (k0 + 1) 0 + 1)) := by
        intro u s x eu es ex
        refine ih s x (i + 1) (by rw [ex]; exact gi_s1 e4 (by omega)) (by omega) ⟨by rw [es]; exact hD.1, fun k hk => by rw [es, gb_sun hk]; exact hD.2 k hk⟩ ⟨?_, ?_, fun j hj => ?_, fun j h1 h2 => ?_⟩
        · rw [es, gb_sus, pk_un (by omega)]
          exact a1
        · rw [wE, hc, es, gb_sus, pk_un (by omega)]
          exact a2
        · rw [wE, hc, es, gb_sus]
          by_cases q : j = i
          · rw [q, pk_us, eu]
          · rw [pk_un (by omega)]
            exact a3 j (by omega)
        · rw [wE, hc] at h2
          rw [es, gb_sus, pk_un (by omega)]
          exact a4 j h1 h2
      refine hc_ck (fun _ _ => hc_lt (fun x ex => ?_))
      rw [← ex] at kE
      refine hc_if (fun d => hc_ck (fun _ _ => hc_lt (fun s es => hc_lt (fun y ey => step (-1) s y ?_ es ey)))) (fun d => hc_ck (fun _ _ => hc_lt (fun u eu => hc_ck (fun _ _ => hc_lt (fun s es => hc_lt (fun y ey => step u s y ?_ es ey))))))
      · have := gi_le d
        rw [if_neg (by omega)]
      · have := gi_nle d
        rw [if_pos (by omega), eu, hD.2 107 h107]
set_option maxHeartbeats 2000000 in
theorem ch_addD {n : Nat} {σ : gb_S} {k0 : Nat} {p1 : Int32} {l : Nat} (hk : k0 ≠ 106) (e1 : p1.toInt = l) (hl : l < 18) (h0 : 0 ≤ (σ.1 (k0 + 1) 0).toInt) : gb_hc (cs_Lines_addLine_D_c107 n σ k0 p1) (fun s _ => gb_dD σ s (k0 + 1) ∧ gb_added 3 l (σ.1 107) (σ.1 (k0 + 1)) (s.1 (k0 + 1))) := by
  unfold cs_Lines_addLine_D_c107
  have c0 : (0 : Int32).toInt = 0 := by decide
  have c1 : (1 : Int32).toInt = 1 := by decide
  have cw : ((2 : Int32) + 1).toInt = 3 := by decide
  have c18 : (18 : Int32).toInt = 18 := by decide
  have cf : (17 : Int32).toInt = 17 := by decide
  refine hc_kk (fun _ => hc_cd (ch_roomD (l := l)) (fun s r h => ?_))
  obtain ⟨rfl, h⟩ := h
  refine hc_if (fun c => hc_some ⟨⟨rfl, fun _ _ => rfl⟩, Or.inl ⟨?_, rfl⟩⟩) (fun c => ?_)
  · rcases h with z | z
    · rw [c] at z
      exact absurd z.1 (by decide)
    · exact z.2
  · have hr : gb_room 3 l (s.1 (k0 + 1)) := by
      rcases h with z | z
      · exact z.2
      · exact absurd z.1 c
    have hr2 : (s.1 (k0 + 1) 0).toInt < 5 := hr
    refine hc_if (fun d => ?_) (fun d => hc_if (fun g => ?_) (fun g => ?_))
    · have := gi_lt d
      omega
    · refine hc_cd (P := fun s2 r => s2 = s ∧ r = s.1 (k0 + 1) 0) ?_ (fun s2 r h2 => ?_)
      · unfold cs_Lines_size_D
        exact hc_kk (fun _ => hc_lt (fun x ex => hc_some ⟨rfl, ex⟩))
      · obtain ⟨rfl, rfl⟩ := h2
        have m1 : (s2.1 (k0 + 1) 0 * ((2 : Int32) + 1)).toInt = ((3 * (s2.1 (k0 + 1) 0).toInt.toNat : Nat) : Int) := by
          rw [gb_tmul (by rw [cw]; omega) (by rw [cw]; omega), cw]
          omega
        have m2 : ((1 : Int32) + s2.1 (k0 + 1) 0 * ((2 : Int32) + 1)).toInt = ((1 + 3 * (s2.1 (k0 + 1) 0).toInt.toNat : Nat) : Int) := by
          rw [gb_tadd (by rw [m1, c1]; omega) (by rw [m1, c1]; omega), m1, c1]
          omega
        refine hc_lt (fun x ex => hc_ck (fun _ _ => hc_lt (fun s3 e3 => ?_)))
        rw [← ex] at m2
        rw [gi_tn m2] at e3
        refine hc_mono (ch_add48D (σ0 := s2) hk e1 hl rfl (by omega) m2 n s3 0 0 c0 (Nat.zero_le _) ⟨by rw [e3]; rfl, fun k hk => by rw [e3]; exact gb_sun hk⟩ ⟨?_, ?_, fun j hj => absurd hj (Nat.not_lt_zero _), fun j h1 h2 => ?_⟩) (fun s4 _ h4 => ⟨h4.1, Or.inr ⟨hr, Or.inr ⟨by decide, h4.2⟩⟩⟩)
        · rw [e3, gb_sus, pk_un (by omega)]
        · show (s3.1 (k0 + 1) (1 + 3 * _)).toInt = (l : Int) - (17 : Nat)
          rw [e3, gb_sus, pk_us, gb_tsub (by rw [cf]; omega) (by rw [cf]; omega), e1, cf]
          rfl
        · have h2' : j < 1 + 3 * (s2.1 (k0 + 1) 0).toInt.toNat ∨ 1 + 3 * (s2.1 (k0 + 1) 0).toInt.toNat + 3 ≤ j := h2
          rw [e3, gb_sus, pk_un (by omega)]
    · have := gi_nlt g
      omega
