/-! BOTH SIDES: the reading of a whole tape -/
def gb_bit (x : Int32) : Int32 := (1 : Int32) <<< (x &&& 31)
theorem gb_or5 {x : Int32} (i : gb_iv 0 4 x) : x = 0 ∨ x = 1 ∨ x = 2 ∨ x = 3 ∨ x = 4 := by
  obtain ⟨i1, i2⟩ := i
  have c : x.toInt = 0 ∨ x.toInt = 1 ∨ x.toInt = 2 ∨ x.toInt = 3 ∨ x.toInt = 4 := by omega
  rcases c with c | c | c | c | c
  · exact Or.inl (gi_eq c (by decide))
  · exact Or.inr (Or.inl (gi_eq c (by decide)))
  · exact Or.inr (Or.inr (Or.inl (gi_eq c (by decide))))
  · exact Or.inr (Or.inr (Or.inr (Or.inl (gi_eq c (by decide)))))
  · exact Or.inr (Or.inr (Or.inr (Or.inr (gi_eq c (by decide)))))
theorem gb_bit1 {x y : Int32} (i : gb_iv 0 4 x) (j : gb_iv 0 4 y) : (gb_bit y &&& gb_bit x) = 0 ↔ ¬ x = y := by
  rcases gb_or5 i with rfl | rfl | rfl | rfl | rfl <;> rcases gb_or5 j with rfl | rfl | rfl | rfl | rfl <;> decide
theorem gb_bit2 {v x y : Int32} (i : gb_iv 0 4 x) (j : gb_iv 0 4 y) : ((v ||| gb_bit y) &&& gb_bit x) = 0 ↔ ((v &&& gb_bit x) = 0 ∧ ¬ x = y) := by
  have e : (v ||| gb_bit y) &&& gb_bit x = (v &&& gb_bit x) ||| (gb_bit y &&& gb_bit x) := by
    refine Int32.toBitVec_inj.1 ?_
    rw [Int32.toBitVec_and, Int32.toBitVec_or, Int32.toBitVec_or, Int32.toBitVec_and, Int32.toBitVec_and]
    exact BitVec.and_or_distrib_right
  rw [e, Int32.or_eq_zero_iff, gb_bit1 i j]
theorem ch_cellD {n : Nat} {σ : gb_S} {k0 : Nat} {p1 p2 : Int32} {k j : Nat} (e1 : p1.toInt = k) (hk : k ≤ 1000) (e2 : p2.toInt = j) (hj : j ≤ 10) : gb_hc (cs_Lines_cell_D n σ k0 p1 p2) (fun s r => s = σ ∧ r = σ.1 (k0 + 1) (1 + 3 * k + j)) := by
  unfold cs_Lines_cell_D
  have c1 : (1 : Int32).toInt = 1 := by decide
  have c3 : ((2 : Int32) + 1).toInt = 3 := by decide
  have m1 : (p1 * ((2 : Int32) + 1)).toInt = ((3 * k : Nat) : Int) := by
    rw [gb_tmul (by rw [e1, c3]; omega) (by rw [e1, c3]; omega), e1, c3]
    omega
  have m2 : ((1 : Int32) + p1 * ((2 : Int32) + 1)).toInt = ((1 + 3 * k : Nat) : Int) := by
    rw [gb_tadd (by rw [m1, c1]; omega) (by rw [m1, c1]; omega), m1, c1]
    omega
  have m3 : (((1 : Int32) + p1 * ((2 : Int32) + 1)) + p2).toInt = ((1 + 3 * k + j : Nat) : Int) := by
    rw [gb_tadd (by rw [m2, e2]; omega) (by rw [m2, e2]; omega), m2, e2]
    omega
  rw [gi_tn m3]
  exact hc_kk (fun _ => hc_ck (fun _ _ => hc_lt (fun x ex => hc_some ⟨rfl, ex⟩)))
theorem ch_pathSeen {n : Nat} {σ : gb_S} {k0 : Nat} {p1 : Int32} {k : Nat} (e1 : p1.toInt = k) (hk : k ≤ 1000) : gb_hc (cs_Dawn_pathSeen_D n σ k0 p1) (fun s r => s = σ ∧ r = σ.1 (k0 + 1) (2 + 3 * k)) := by
  unfold cs_Dawn_pathSeen_D
  refine hc_kk (fun _ => hc_cd (ch_cellD e1 hk (j := 1) (by decide) (by decide)) (fun s r h => hc_some ⟨h.1, ?_⟩))
  rw [h.2, show 1 + 3 * k + 1 = 2 + 3 * k by omega]
theorem ch_clash4 {n : Nat} {σ : gb_S} {k0 c : Nat} (hc : (σ.1 (k0 + 1) 0).toInt = c) (hc5 : c ≤ 5) (hp : ∀ k, k < c → gb_iv 0 4 (σ.1 (k0 + 1) (2 + 3 * k))) : ∀ (mm : Nat) (v1 v2 : Int32) (k : Nat), v2.toInt = k → k ≤ c → (∀ x, gb_iv 0 4 x → ((v1 &&& gb_bit x) = 0 ↔ ∀ i, i < k → ¬ σ.1 (k0 + 1) (2 + 3 * i) = x)) → (∀ i j, i < j → j < k → ¬ σ.1 (k0 + 1) (2 + 3 * i) = σ.1 (k0 + 1) (2 + 3 * j)) → gb_hc (cs_Dawn_clashes_D_4 n mm σ k0 v1 v2) (fun s r => s = σ ∧ ((¬ r = 0 ∧ ∃ i j, i < j ∧ j < c ∧ σ.1 (k0 + 1) (2 + 3 * i) = σ.1 (k0 + 1) (2 + 3 * j)) ∨ (r = 0 ∧ ¬ ∃ i j, i < j ∧ j < c ∧ σ.1 (k0 + 1) (2 + 3 * i) = σ.1 (k0 + 1) (2 + 3 * j)))) := by
  intro mm
  induction mm with
  | zero =>
    intros
    exact hc_none
  | succ mm ih =>
    intro v1 v2 k e2 hk hb hd
    rw [cs_Dawn_clashes_D_4]
    have t0 : Int32.toNatClampNeg 0 = 0 := by decide
    refine hc_kk (fun _ => hc_cd (P := fun s r => s = σ ∧ r = σ.1 (k0 + 1) 0) ?_ (fun s r h => ?_))
    · unfold cs_Lines_size_D
      exact hc_kk (fun _ => hc_lt (fun x ex => hc_some ⟨rfl, by rw [ex, t0]⟩))
    · obtain ⟨rfl, rfl⟩ := h
      refine hc_if (fun d => hc_some ⟨rfl, Or.inr ⟨rfl, fun z => ?_⟩⟩) (fun d => ?_)
      · have := gi_le d
        obtain ⟨i, j, z1, z2, z3⟩ := z
        exact hd i j z1 (by omega) z3
      · have hkc : k < c := by
          have := gi_nle d
          omega
        refine hc_cd (ch_pathSeen e2 (by omega)) (fun s2 r h2 => ?_)
        obtain ⟨rfl, rfl⟩ := h2
        refine hc_lt (fun x ex => ?_)
        have ex2 : x = gb_bit (s2.1 (k0 + 1) (2 + 3 * k)) := ex
        subst ex2
        have hpk := hp k hkc
        refine hc_if (fun g => hc_lt (fun y ey => hc_lt (fun z ez => ?_))) (fun g => hc_some ⟨rfl, Or.inl ⟨by decide, ?_⟩⟩)
        · have hno := (hb _ hpk).mp g
          refine ih y z (k + 1) (by rw [ez]; exact gi_s1 e2 (by omega)) (by omega) (fun x hx => ?_) (fun i j h1 h2 => ?_)
          · rw [ey, gb_bit2 hx hpk, hb x hx]
            constructor
            · intro q i hi
              by_cases qi : i = k
              · rw [qi]
                exact fun w => q.2 w.symm
              · exact q.1 i (by omega)
            · intro q
              exact ⟨fun i hi => q i (by omega), fun w => q k (by omega) w.symm⟩
          · by_cases qj : j = k
            · rw [qj]
              exact hno i (by omega)
            · exact hd i j h1 (by omega)
        · have hex : ∃ i, i < k ∧ s2.1 (k0 + 1) (2 + 3 * i) = s2.1 (k0 + 1) (2 + 3 * k) := Classical.byContradiction (fun q => g ((hb _ hpk).mpr (fun i hi w => q ⟨i, hi, w⟩)))
          obtain ⟨i, h1, h2⟩ := hex
          exact ⟨i, k, h1, hkc, h2⟩
theorem ch_clashD {n : Nat} {σ : gb_S} {k0 c : Nat} (hc : (σ.1 (k0 + 1) 0).toInt = c) (hc5 : c ≤ 5) (hp : ∀ k, k < c → gb_iv 0 4 (σ.1 (k0 + 1) (2 + 3 * k))) : gb_hc (cs_Dawn_clashes_D n σ k0) (fun s r => s = σ ∧ ((¬ r = 0 ∧ ∃ i j, i < j ∧ j < c ∧ σ.1 (k0 + 1) (2 + 3 * i) = σ.1 (k0 + 1) (2 + 3 * j)) ∨ (r = 0 ∧ ¬ ∃ i j, i < j ∧ j < c ∧ σ.1 (k0 + 1) (2 + 3 * i) = σ.1 (k0 + 1) (2 + 3 * j)))) := by
  unfold cs_Dawn_clashes_D
  refine hc_kk (fun _ => ch_clash4 hc hc5 hp n 0 0 0 (by decide) (Nat.zero_le _) (fun x hx => ⟨fun _ i hi => absurd hi (Nat.not_lt_zero _), fun _ => ?_⟩) (fun i j _ h => absurd h (Nat.not_lt_zero _)))
  rcases gb_or5 hx with rfl | rfl | rfl | rfl | rfl <;> decide
/-- at the first token of a line, on both sides -/
def gb_J (T : Nat → Int32) (N s a : Nat) (σ0 σ : gb_S) (f0 f : gb_F) : Prop := gb_rc T N σ ∧ (σ.1 106 3).toInt = a ∧ a ≤ N ∧ gb_ls T N a (σ.1 106 4, σ.1 106 5) f ∧ gb_RC s (σ.1 (96 + 2 * s + 1)) (f 3) ∧ gb_I s f ∧ (σ.1 106 4 = 0 → σ.1 106 5 = -1 ∧ gb_RS s (σ.1 (96 + 2 * s + 1)) (f 3) ∧ (s = 3 → (¬ f 0 9 = 0 ↔ gb_dup (f 3))) ∧ (s ≠ 3 → f 0 9 = 0)) ∧ gb_rfr s σ0 σ ∧ (f 2 = f0 2 ∧ ∀ j, j ≠ 5 → j ≠ 6 → f 1 j = f0 1 j)
/-- behind the last line -/
def gb_X (N s : Nat) (σ0 σ : gb_S) (f0 f : gb_F) : Prop := gb_rfr s σ0 σ ∧ (f 2 = f0 2 ∧ ∀ j, j ≠ 5 → j ≠ 6 → f 1 j = f0 1 j) ∧ gb_I s f ∧ ((¬ σ.1 106 4 = 0 ∧ σ.1 106 4 = f 1 5 ∧ σ.1 106 5 = f 1 6) ∨ (σ.1 106 4 = 4 ∧ σ.1 106 5 = f 0 4 ∧ f 1 5 = 0 ∧ ¬ f 0 9 = 0) ∨ (σ.1 106 4 = 0 ∧ σ.1 106 5 = -1 ∧ f 1 5 = 0 ∧ f 1 6 = -1 ∧ f 0 9 = 0 ∧ gb_RS s (σ.1 (96 + 2 * s + 1)) (f 3)))
theorem ff_e {l : Nat} {qs : Nat → Nat} {vs : Nat → Int} {fp : Int32 × Int32} : ∀ i, (gb_ff l qs vs fp i).1 = 0 → gb_ff l qs vs fp i = fp := by
  intro i
  induction i with
  | zero =>
    intro _
    rfl
  | succ i ih =>
    intro h
    have h' : (if gb_can l i (vs i) (vs 0) then gb_ff l qs vs fp i else gb_note (gb_ff l qs vs fp i) 2 (qs i)).1 = 0 := h
    show (if gb_can l i (vs i) (vs 0) then gb_ff l qs vs fp i else gb_note (gb_ff l qs vs fp i) 2 (qs i)) = fp
    by_cases c : gb_can l i (vs i) (vs 0)
    · rw [if_pos c] at h' ⊢
      exact ih h'
    · rw [if_neg c] at h'
      exact absurd h' (note_0 (by decide))
theorem mh_lineF {n : Nat} (hn : gb_N ≤ n) {s : Nat} {f : gb_F} {w : Int64} (hs : s ≤ 3) (hI : gb_I s f) : gb_hm (gb_line n s f w) (fun f2 _ _ => gb_L s f f2 ∧ f2 2 = f 2) := by
  have sm : gb_sm (fun g => g 2 = f 2) := ⟨fun g F h => h, fun g k F hk h => (gb_un (by omega)).trans h⟩
  have s5 : gb_w5c (fun g => g 2 = f 2) := fun g v h => ⟨h, h⟩
  unfold gb_line
  have hs4 : s = 0 ∨ s = 1 ∨ s = 2 ∨ s = 3 := by omega
  rcases hs4 with rfl | rfl | rfl | rfl
  · rw [if_pos rfl]
    exact hm_and (hm_of (mi_borderLine hn hI)) (hm_pm (cm_borderLine (P := fun g => g 2 = f 2) sm s5 rfl))
  · rw [if_neg (by decide), if_pos rfl]
    exact hm_and (hm_of (mi_deedLine hn hI)) (hm_pm (cm_deedLine (P := fun g => g 2 = f 2) sm s5 rfl))
  · rw [if_neg (by decide), if_neg (by decide), if_pos rfl]
    exact hm_and (hm_of (mi_termLine hn hI)) (hm_pm (cm_termLine (P := fun g => g 2 = f 2) sm s5 rfl))
  · rw [if_neg (by decide), if_neg (by decide), if_neg (by decide)]
    exact hm_and (hm_of (mi_seenLine hn hI)) (hm_pm (cm_seenLine (P := fun g => g 2 = f 2) sm s5 rfl))
theorem tk_end {T : Nat → Int32} {N q : Nat} {f : gb_F} (h : gb_tk T N f q) : f 0 5 = 0 ↔ q = N := by
  obtain ⟨t1, t2, t3, t4⟩ := h
  constructor
  · intro z
    rcases t4 with y | y | y | y
    · exact y.1
    · obtain ⟨e, -, -, -, y4⟩ := y
      rcases y4 with y4 | y4
      · obtain ⟨l, -, -, y5, -⟩ := y4
        rw [z] at y5
        exact absurd y5 (by decide)
      · rw [z] at y4
        exact absurd y4.2 (by decide)
    · obtain ⟨e, -, -, -, y4⟩ := y
      rcases y4 with y4 | y4
      · rw [z] at y4
        exact absurd y4.2 (by decide)
      · rw [z] at y4
        exact absurd y4.2.1 (by decide)
    · rcases y.2.2.2.2 with y4 | y4
      · rw [z] at y4
        exact absurd y4.2 (by decide)
      · rw [z] at y4
        exact absurd y4.2 (by decide)
  · intro z
    rcases t4 with y | y | y | y
    · exact y.2
    · obtain ⟨e, y1, y2, -⟩ := y
      have := (y1.2.1 _ (Nat.le_refl _) y2).1
      omega
    · obtain ⟨e, y1, y2, -⟩ := y
      have := (y1.2.1 _ (Nat.le_refl _) y2).1
      omega
    · omega
/-- the reference behind its loop: its state there, and what its end makes of it -/
def gb_E1 (n N s : Nat) (v1 v2 : Int32) (σ0 σ2 : gb_S) (f0 : gb_F) (f2 : gb_F) (w2 : Int64) (r : Int32) : Prop := ∃ (fE : gb_F) (wE : Int64), gb_X N s σ0 σ2 f0 fE ∧ ms_text_178 n fE wE v1 v2 = some (f2, w2, r)
theorem mh_122 {n : Nat} {s : Nat} {v1 v2 : Int32} {f : gb_F} {w : Int64} {Q : gb_F → Int64 → Int32 → Prop} (h1 : v1.toInt = s) (hs : s ≤ 3) (h8 : f 0 8 = 0) (h5 : ¬ f 0 5 = 0) (K : ∀ m, gb_hm (gb_bd (gb_line n s f w) (fun f2 w2 _ => ms_text_122 n m f2 w2 v1 v2)) Q) : ∀ mm, gb_hm (ms_text_122 n mm f w v1 v2) Q := by
  intro mm
  cases mm with
  | zero => exact hm_none
  | succ m =>
    rw [ms_text_122, if_pos h8, if_neg h5]
    have := K m
    unfold gb_line at this
    rcases gb_so h1 hs with ⟨e, rfl⟩ | ⟨e, rfl⟩ | ⟨e, rfl⟩ | ⟨e, rfl⟩
    · rw [if_pos rfl] at this
      rw [if_pos e]
      exact this
    · rw [if_neg (by decide), if_pos rfl] at this
      rw [if_neg (by rw [e]; decide), if_pos e]
      exact this
    · rw [if_neg (by decide), if_neg (by decide), if_pos rfl] at this
      rw [if_neg (by rw [e]; decide), if_neg (by rw [e]; decide), if_pos e]
      exact this
    · rw [if_neg (by decide), if_neg (by decide), if_neg (by decide)] at this
      rw [if_neg (by rw [e]; decide), if_neg (by rw [e]; decide), if_neg (by rw [e]; decide)]
      exact this
theorem mh_122e {n : Nat} {v1 v2 : Int32} {f : gb_F} {w : Int64} {Q : gb_F → Int64 → Int32 → Prop} (h : ¬ f 0 8 = 0 ∨ f 0 5 = 0) (K : gb_hm (ms_text_178 n f w v1 v2) Q) : ∀ mm, gb_hm (ms_text_122 n mm f w v1 v2) Q := by
  intro mm
  cases mm with
  | zero => exact hm_none
  | succ m =>
    rw [ms_text_122]
    by_cases h8 : f 0 8 = 0
    · rcases h with z | z
      · exact absurd h8 z
      · rw [if_pos h8, if_pos z]
        exact K
    · rw [if_neg h8]
      exact K
theorem gt_R0s {s : Nat} {x : Int32} (hs : s ≤ 3) (h : gb_iv (gt_R s 0).1 (gt_R s 0).2 x) : gb_iv 0 24 x ∧ (s = 3 → gb_iv 0 5 x) ∧ (s = 0 → gb_iv 0 5 x) := by
  have hs4 : s = 0 ∨ s = 1 ∨ s = 2 ∨ s = 3 := by omega
  rcases hs4 with rfl | rfl | rfl | rfl
  · exact ⟨gb_iw h (by decide), fun z => absurd z (by decide), fun _ => gb_iw h (by decide)⟩
  · exact ⟨gb_iw h (by decide), fun z => absurd z (by decide), fun z => absurd z (by decide)⟩
  · exact ⟨gb_iw h (by decide), fun z => absurd z (by decide), fun z => absurd z (by decide)⟩
  · exact ⟨gb_iw h (by decide), fun _ => gb_iw h (by decide), fun z => absurd z (by decide)⟩
/-- the end of the class's loop: is a PATH seen twice? -/
theorem ch_last {n : Nat} {T : Nat → Int32} {N s : Nat} {σ0 σ : gb_S} {f0 f : gb_F} (hs : s ≤ 3) (hJ : gb_J T N s N σ0 σ f0 f) : gb_hc (if (σ.1 106 4) = 0 then (if gb_kB (96 + 2 * s) = true then gb_cd (cs_Border_clashes_B n σ (96 + 2 * s)) (fun s_19 r_20 => (if r_20 = 0 then some (s_19, ()) else gb_cd (cs_Reader_note n s_19 4 (s_19.1 106 2)) (fun s_24 _ => some (s_24, ())))) else (if gb_kN (96 + 2 * s) = true then gb_cd (cs_Lines_clashes_N n σ (96 + 2 * s)) (fun s_29 r_30 => (if r_30 = 0 then some (s_29, ()) else gb_cd (cs_Reader_note n s_29 4 (s_29.1 106 2)) (fun s_34 _ => some (s_34, ())))) else (if gb_kL (96 + 2 * s) = true then gb_cd (cs_Lines_clashes_L n σ (96 + 2 * s)) (fun s_39 r_40 => (if r_40 = 0 then some (s_39, ()) else gb_cd (cs_Reader_note n s_39 4 (s_39.1 106 2)) (fun s_44 _ => some (s_44, ())))) else (if gb_kD (96 + 2 * s) = true then gb_cd (cs_Dawn_clashes_D n σ (96 + 2 * s)) (fun s_49 r_50 => (if r_50 = 0 then some (s_49, ()) else gb_cd (cs_Reader_note n s_49 4 (s_49.1 106 2)) (fun s_54 _ => some (s_54, ())))) else none)))) else (some (σ, ()) : gb_CR Unit)) (fun σ2 _ => gb_X N s σ0 σ2 f0 f) := by
  obtain ⟨hx, ha, hN, ⟨l1, l2, l3, l4, l5⟩, hC, hI, hS, hr, hk⟩ := hJ
  have p1 : σ.1 106 4 = f 1 5 := (congrArg Prod.fst l4).symm
  have p2 : σ.1 106 5 = f 1 6 := (congrArg Prod.snd l4).symm
  refine hc_if (fun c => ?_) (fun c => hc_some ⟨hr, hk, hI, Or.inl ⟨c, p1, p2⟩⟩)
  obtain ⟨q1, q2, q3, q4⟩ := hS c
  have plain : s ≠ 3 → ∀ (x : gb_CR Int32), gb_hc x (fun s2 r => s2 = σ ∧ r = 0) → gb_hc (gb_cd x (fun s_19 r_20 => (if r_20 = 0 then (some (s_19, ()) : gb_CR Unit) else gb_cd (cs_Reader_note n s_19 4 (s_19.1 106 2)) (fun s_24 _ => some (s_24, ()))))) (fun σ2 _ => gb_X N s σ0 σ2 f0 f) := fun h3 x hx => by
    refine hc_cd hx (fun s2 r g => ?_)
    obtain ⟨rfl, rfl⟩ := g
    rw [if_pos rfl]
    exact hc_some ⟨hr, hk, hI, Or.inr (Or.inr ⟨c, q1, by rw [← p1]; exact c, by rw [← p2]; exact q1, q4 h3, q2⟩)⟩
  rcases gb_kind hs with ⟨hs0, hkk⟩ | ⟨hs0, hkk⟩ | ⟨hs0, hkk⟩ | ⟨hs0, hkk⟩
  · rw [if_pos hkk]
    refine plain (by omega) _ ?_
    unfold cs_Border_clashes_B
    exact hc_kk (fun _ => hc_some ⟨rfl, rfl⟩)
  · rw [if_neg (gc_BN hkk), if_pos hkk]
    refine plain (by omega) _ ?_
    unfold cs_Lines_clashes_N
    exact hc_kk (fun _ => hc_some ⟨rfl, rfl⟩)
  · rw [if_neg (gc_BL hkk).1, if_neg (gc_BL hkk).2, if_pos hkk]
    refine plain (by omega) _ ?_
    unfold cs_Lines_clashes_L
    exact hc_kk (fun _ => hc_some ⟨rfl, rfl⟩)
  · rw [if_neg (gc_BD hkk).1, if_neg (gc_BD hkk).2.1, if_neg (gc_BD hkk).2.2, if_pos hkk]
    subst hs0
    have i5 := (gt_R0s (s := 3) (by decide) hI.2.1.1).2.1 rfl
    obtain ⟨cn, ec, -⟩ := gi_nn i5.1
    have i52 := i5.2
    have hRc : (f 3 0).toInt.toNat = cn := by omega
    have hG0 : (σ.1 (96 + 2 * 3 + 1) 0).toInt = cn := by rw [q2.1]; exact ec
    have rs3 := q2.2.2.2 rfl
    rw [hRc] at rs3
    have hrng : ∀ k, k < cn → gb_iv 0 4 (f 3 (1 + 2 * k)) := fun k hk => by
      have := hI.2.2.1 l1 (1 + 2 * k) (by omega)
      have e := gt_R3s (c := k) (i := 0) (by decide)
      rw [if_pos rfl, Nat.add_zero] at e
      rw [e] at this
      exact this
    have deq : (∃ i j, i < j ∧ j < cn ∧ σ.1 (96 + 2 * 3 + 1) (2 + 3 * i) = σ.1 (96 + 2 * 3 + 1) (2 + 3 * j)) ↔ gb_dup (f 3) := by
      unfold gb_dup
      rw [hRc]
      constructor
      · intro h
        obtain ⟨i, j, h1, h2, h3⟩ := h
        exact ⟨i, j, h1, h2, by rw [← (rs3 i (by omega)).1, ← (rs3 j h2).1]; exact h3⟩
      · intro h
        obtain ⟨i, j, h1, h2, h3⟩ := h
        exact ⟨i, j, h1, h2, by rw [(rs3 i (by omega)).1, (rs3 j h2).1]; exact h3⟩
    refine hc_cd (ch_clashD hG0 (by omega) (fun k hk => by rw [(rs3 k hk).1]; exact hrng k hk)) (fun s2 r g => ?_)
    obtain ⟨rfl, g⟩ := g
    rw [deq, ← q3 rfl] at g
    refine hc_if (fun z => hc_some ⟨hr, hk, hI, Or.inr (Or.inr ⟨c, q1, by rw [← p1]; exact c, by rw [← p2]; exact q1, ?_, q2⟩)⟩) (fun z => ?_)
    · rcases g with g | g
      · exact absurd z g.1
      · exact Classical.byContradiction (fun y => g.2 y)
    · have tw : ¬ f 0 9 = 0 := by
        rcases g with g | g
        · exact g.2
        · exact absurd g.1 z
      refine hc_cd (ch_note (q := N) hx.2.1 hx.2.2.1) (fun s3 _ g3 => hc_some ?_)
      obtain ⟨n1, n2, n3, n4⟩ := g3
      unfold gb_note at n4
      rw [if_pos c] at n4
      have n4a : s3.1 106 4 = 4 := congrArg Prod.fst n4
      have n4b : s3.1 106 5 = nI N := congrArg Prod.snd n4
      refine ⟨⟨n1.trans hr.1, fun k k1 k2 k3 => (n2 k k1).trans (hr.2.1 k k1 k2 k3), (n3 2 (by decide) (by decide)).trans hr.2.2⟩, hk, hI, Or.inr (Or.inl ⟨n4a, ?_, by rw [← p1]; exact c, tw⟩)⟩
      have hN6 := hx.2.2.1
      rw [n4b]
      exact gb_ieq (by rw [nI_toInt (by omega), l3.1])
