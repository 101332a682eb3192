/-! THE REFERENCE's lines -/
theorem S1_same {T : Nat → Int32} {N : Nat} {ps qs : Nat → Nat} {M Qb i : Nat} {fp : Int32 × Int32} {f f2 : gb_F} (h : gb_S1 T N ps qs M Qb i fp f) (h0 : f2 0 = f 0) (h1 : f2 1 = f 1) : gb_S1 T N ps qs M Qb i fp f2 := by
  rcases h with ⟨w1, w2, w3, w4⟩ | ⟨g1, g2, g3, g4, g5⟩
  · exact Or.inl ⟨by rw [h0]; exact w1, w2, by rw [h1]; exact w3, by rw [h1]; exact w4⟩
  · exact Or.inr ⟨by rw [h0]; exact g1, g2, rs_same g3 h0 (fun j _ _ => by rw [h1]), by rw [h1]; exact g4, g5⟩
theorem S1_9 {T : Nat → Int32} {N : Nat} {ps qs : Nat → Nat} {M Qb i : Nat} {fp : Int32 × Int32} {f f2 : gb_F} {v : Int32} (h : gb_S1 T N ps qs M Qb i fp f) (e : f2 = gb_u f 0 (upd (f 0) 9 v)) : gb_S1 T N ps qs M Qb i fp f2 := by
  have h0 : ∀ j, j ≠ 9 → f2 0 j = f 0 j := fun j hj => by rw [e, gb_us, pk_un hj]
  have h1 : f2 1 = f 1 := by rw [e]; exact gb_un (by decide)
  rcases h with ⟨w1, w2, w3, w4⟩ | ⟨g1, g2, g3, g4, g5⟩
  · exact Or.inl ⟨by rw [h0 8 (by decide)]; exact w1, w2, by rw [h1]; exact w3, by rw [h1]; exact w4⟩
  · refine Or.inr ⟨by rw [h0 8 (by decide)]; exact g1, g2, ?_, by rw [h1]; exact g4, g5⟩
    obtain ⟨⟨c1, c2, c3, c4⟩, q, r, t⟩ := g3
    refine ⟨⟨by rw [h0 2 (by decide)]; exact c1, c2, fun i hi => by rw [h1]; exact c3 i hi, c4⟩, q, r, ?_⟩
    unfold gb_tk at t ⊢
    rw [h0 3 (by decide), h0 4 (by decide), h0 5 (by decide), h0 6 (by decide), h0 7 (by decide)]
    exact t
theorem can_rg {l i : Nat} {v v0 lo hi : Int} (h6 : ¬ (l = 6 ∧ i = 1)) (hlo : (if l = 0 ∧ i = 0 then (1 : Int) else 0) = lo) (hhi : (gb_tb2 (5 * l + i)).toInt = hi) : gb_can l i v v0 ↔ lo ≤ v ∧ v ≤ hi := by
  constructor
  · intro h
    obtain ⟨-, h2, h3⟩ := h
    rw [hlo] at h2
    rw [hhi] at h3
    exact ⟨h2, h3⟩
  · intro h
    refine ⟨fun z => h6 ⟨z.1, z.2.1⟩, ?_, ?_⟩
    · rw [hlo]; exact h.1
    · rw [hhi]; exact h.2
theorem ff_1 {l i : Nat} {qs : Nat → Nat} {vs : Nat → Int} {fp : Int32 × Int32} {lo hi : Int} (h : gb_can l i (vs i) (vs 0) ↔ lo ≤ vs i ∧ vs i ≤ hi) : gb_ff l qs vs fp (i + 1) = if lo ≤ vs i ∧ vs i ≤ hi then gb_ff l qs vs fp i else gb_note (gb_ff l qs vs fp i) 2 (qs i) := by
  show (if gb_can l i (vs i) (vs 0) then gb_ff l qs vs fp i else gb_note (gb_ff l qs vs fp i) 2 (qs i)) = _
  by_cases c : gb_can l i (vs i) (vs 0)
  · rw [if_pos c, if_pos (h.mp c)]
  · rw [if_neg c, if_neg (fun z => c (h.mpr z))]
theorem note_0 {fp : Int32 × Int32} {k : Int32} {q : Nat} (hk : ¬ k = 0) : ¬ (gb_note fp k q).1 = 0 := by
  unfold gb_note
  by_cases c : fp.1 = 0
  · rw [if_pos c]
    exact hk
  · rw [if_neg c]
    exact c
theorem ff_0 {l : Nat} {qs : Nat → Nat} {vs : Nat → Int} {fp : Int32 × Int32} : ∀ i, (gb_ff l qs vs fp i).1 = 0 → fp.1 = 0 ∧ ∀ j, j < i → gb_can l j (vs j) (vs 0) := by
  intro i
  induction i with
  | zero =>
    intro h
    exact ⟨h, fun j hj => absurd hj (Nat.not_lt_zero _)⟩
  | succ i ih =>
    intro h
    have h' : (if gb_can l i (vs i) (vs 0) then gb_ff l qs vs fp i else gb_note (gb_ff l qs vs fp i) 2 (qs i)).1 = 0 := h
    by_cases c : gb_can l i (vs i) (vs 0)
    · rw [if_pos c] at h'
      obtain ⟨a, b⟩ := ih h'
      refine ⟨a, fun j hj => ?_⟩
      by_cases q : j = i
      · rw [q]; exact c
      · exact b j (by omega)
    · rw [if_neg c] at h'
      exact absurd h' (note_0 (by decide))
/-- a number, its bounds those of the table -/
theorem mh_nu {n : Nat} {T : Nat → Int32} {N l : Nat} {ps qs : Nat → Nat} {vs : Nat → Int} {M Qb i : Nat} {fp : Int32 × Int32} {f : gb_F} {w : Int64} {p1 p2 : Int32} {lo hi : Int} (hns : gb_nums T N ps qs vs M) (hB : i = M → gb_nonum T N (ps M) Qb) (e1 : p1.toInt = lo) (e2 : p2.toInt = hi) (hc : ∀ v0, gb_can l i (vs i) v0 ↔ lo ≤ vs i ∧ vs i ≤ hi) (h : gb_S1 T N ps qs M Qb i (gb_ff l qs vs fp i) f) : gb_hm (ms_numbered n f w p1 p2) (fun f2 _ r => gb_S1 T N ps qs M Qb (i + 1) (gb_ff l qs vs fp (i + 1)) f2 ∧ (i < M → gb_can l i (vs i) (vs 0) → r.toInt = vs i) ∧ gb_ke f f2) := by
  refine hm_mono (mh_num hns hB e1 e2 h) (fun f2 _ r g => ⟨?_, fun z z2 => ?_, g.2.2⟩)
  · rw [ff_1 (hc (vs 0))]
    exact g.1
  · rw [g.2.1 z, if_pos ((hc (vs 0)).mp z2)]
/-- the plan of a line: its word, so many numbers, then what can't go on -/
def gb_pl1 (T : Nat → Int32) (N l : Nat) (ps qs : Nat → Nat) (vs : Nat → Int) (M Qb : Nat) : Prop := gb_nums T N ps qs vs M ∧ M ≤ gb_kn l ∧ (M < gb_kn l → gb_nonum T N (ps M) Qb)
def gb_addS (U R R2 : Nat → Int32) : Prop := ∃ R1, R1 (1 + 2 * (R 0).toInt.toNat) = U 0 ∧ R1 (2 + 2 * (R 0).toInt.toNat) = U 1 ∧ (∀ j, j ≠ 0 → (j < 1 + 2 * (R 0).toInt.toNat ∨ 3 + 2 * (R 0).toInt.toNat ≤ j) → R1 j = R j) ∧ R2 = upd R1 0 (R 0 + 1)
def gb_addR (s l : Nat) (U R R2 : Nat → Int32) : Prop := (¬ gb_room s l R ∧ R2 = R) ∨ (gb_room s l R ∧ ((s = 0 ∧ gb_addB l U R R2) ∨ ((s = 1 ∨ s = 2) ∧ ∃ R1, gb_addL s l U R R1 (gb_wid s - 1) ∧ R2 = upd R1 0 (R 0 + 1)) ∨ (s = 3 ∧ gb_addS U R R2)))
/-- behind a line: wrong, or at the next one -/
def gb_ml (T : Nat → Int32) (N s l : Nat) (ps qs : Nat → Nat) (vs : Nat → Int) (M Qb : Nat) (fp : Int32 × Int32) (f f2 : gb_F) : Prop :=
  (M < gb_kn l ∧ ¬ f2 0 8 = 0 ∧ f2 1 5 = 1 ∧ f2 1 6 = nI Qb) ∨
  (M = gb_kn l ∧ ((∃ q, gb_semi T N (ps (gb_kn l)) q ∧ f2 0 8 = 0 ∧ gb_rs T N f2 (q + 1) ∧ (f2 1 5, f2 1 6) = gb_ff l qs vs fp (gb_kn l) ∧ (¬ (gb_ff l qs vs fp (gb_kn l)).1 = 0 → (gb_ff l qs vs fp (gb_kn l)).2.toInt < ((q + 1 : Nat) : Int)) ∧ ∃ U : Nat → Int32, ((gb_ff l qs vs fp (gb_kn l)).1 = 0 → ∀ j, j < gb_kn l → (U j).toInt = vs j) ∧ gb_addR s l U (f 3) (f2 3) ∧ ((s ≠ 3 ∧ f2 0 9 = f 0 9) ∨ (s = 3 ∧ (¬ f2 0 9 = 0 ↔ (¬ f 0 9 = 0 ∨ ∃ k, k < (f 3 0).toInt.toNat ∧ f 3 (1 + 2 * k) = U 0))))) ∨ (∃ q, gb_nosemi T N (ps (gb_kn l)) q ∧ ¬ f2 0 8 = 0 ∧ f2 1 5 = 1 ∧ f2 1 6 = nI q)))
/-- the end of a line, its row written -/
theorem mh_fin {n : Nat} {T : Nat → Int32} {N s l : Nat} {ps qs : Nat → Nat} {vs : Nat → Int} {M Qb : Nat} {fp : Int32 × Int32} {f0 f : gb_F} {w : Int64} {U : Nat → Int32} (hM : M ≤ gb_kn l) (h : gb_S1 T N ps qs M Qb (gb_kn l) (gb_ff l qs vs fp (gb_kn l)) f) (hU : M = gb_kn l → (gb_ff l qs vs fp (gb_kn l)).1 = 0 → ∀ j, j < gb_kn l → (U j).toInt = vs j) (hA : gb_addR s l U (f0 3) (f 3)) (h9 : (s ≠ 3 ∧ f 0 9 = f0 0 9) ∨ (s = 3 ∧ (¬ f 0 9 = 0 ↔ (¬ f0 0 9 = 0 ∨ ∃ k, k < (f0 3 0).toInt.toNat ∧ f0 3 (1 + 2 * k) = U 0)))) : gb_hm (gb_bd (ms_endsLine n f w) (fun f_45 wl_46 _ => (some (f_45, wl_46, ()) : gb_MR Unit))) (fun f2 _ _ => gb_ml T N s l ps qs vs M Qb fp f0 f2) := by
  refine hm_bd (mh_endsL h hM) (fun f2 w2 _ g => hm_some ?_)
  obtain ⟨k, g⟩ := g
  rcases g with g | ⟨g0, g | g⟩
  · exact Or.inl g
  · obtain ⟨q, q1, q2, q3, q4, q5⟩ := g
    refine Or.inr ⟨g0, Or.inl ⟨q, q1, q2, q3, q4, q5, U, hU g0, by rw [k.1]; exact hA, ?_⟩⟩
    rw [k.2.2.1]
    exact h9
  · exact Or.inr ⟨g0, Or.inr g⟩
theorem mh_inY {n : Nat} {f : gb_F} {w : Int64} {p1 p2 p3 : Int32} (h1 : p2.toInt ≤ p1.toInt) (h2 : p1.toInt ≤ p3.toInt) : gb_hm (ms_isIn n f w p1 p2 p3) (fun f2 w2 r => f2 = f ∧ w2 = w ∧ r = 1) := hm_mono mh_isIn (fun f2 w2 r h => ⟨h.1, h.2.1, by
  rcases h.2.2 with z | z
  · exact z.1
  · omega⟩)
theorem mh_inN {n : Nat} {f : gb_F} {w : Int64} {p1 p2 p3 : Int32} (h : p1.toInt < p2.toInt ∨ p3.toInt < p1.toInt) : gb_hm (ms_isIn n f w p1 p2 p3) (fun f2 w2 r => f2 = f ∧ w2 = w ∧ r = 0) := hm_mono mh_isIn (fun f2 w2 r g => ⟨g.1, g.2.1, by
  rcases g.2.2 with z | z
  · omega
  · exact z.1⟩)
/-! rows that are added -/
set_option maxHeartbeats 2000000 in
theorem mh_adds2 {n : Nat} {f : gb_F} {w : Int64} {a b c d : Int32} {m : Int32} {mi : Int} (em : m.toInt = mi) (hm : mi ≤ 24) (h0 : 0 ≤ (f 3 0).toInt) : gb_hm (ms_adds n f w m 2 a b c d) (fun f2 _ _ => (∀ q, q ≠ 3 → f2 q = f q) ∧ ((¬ (f 3 0).toInt < mi ∧ f2 3 = f 3) ∨ ((f 3 0).toInt < mi ∧ f2 3 = upd (upd (upd (f 3) (1 + 2 * (f 3 0).toInt.toNat) a) (2 + 2 * (f 3 0).toInt.toNat) b) 0 (f 3 0 + 1)))) := by
  unfold ms_adds
  have t0 : Int32.toNatClampNeg 0 = 0 := by decide
  have c1 : (1 : Int32).toInt = 1 := by decide
  have c2 : (2 : Int32).toInt = 2 := by decide
  have c3 : (3 : Int32).toInt = 3 := by decide
  have ck : (2 : Int32).toInt = 2 := by decide
  rw [t0]
  refine hm_lt (fun x ex => hm_if (fun z => ?_) (fun z => hm_some ⟨fun _ _ => rfl, Or.inl ⟨by have := gi_nlt z; rw [ex] at this; omega, rfl⟩⟩))
  have hlt := gi_lt z
  rw [ex, em] at hlt
  refine hm_lt (fun y ey => hm_lt (fun p ep => ?_))
  have m1 : (2 * y).toInt = ((2 * (f 3 0).toInt.toNat : Nat) : Int) := by
    rw [ey, gb_tmul (by rw [ck]; omega) (by rw [ck]; omega), ck]
    omega
  have p0 : p.toInt = ((1 + 2 * (f 3 0).toInt.toNat : Nat) : Int) := by
    rw [ep, gb_tadd (by rw [m1, c1]; omega) (by rw [m1, c1]; omega), m1, c1]
    omega
  have p1 : (p + 1).toInt = ((2 + 2 * (f 3 0).toInt.toNat : Nat) : Int) := by
    rw [gb_tadd (by omega) (by omega), c1, p0]
    omega
  refine hm_ck (fun _ _ => hm_lt (fun f1 e1 => hm_ck (fun _ _ => hm_lt (fun f2 e2 => ?_))))
  have q2 : f2 3 = upd (upd (f 3) (1 + 2 * (f 3 0).toInt.toNat) a) (2 + 2 * (f 3 0).toInt.toNat) b := by rw [e2, gb_us, e1, gb_us, gi_tn p0, gi_tn p1]
  have n2 : ∀ q, q ≠ 3 → f2 q = f q := fun q hq => by rw [e2, gb_un hq, e1, gb_un hq]
  rw [if_pos (by decide)]
  unfold ms_adds_58
  rw [if_pos (by decide), t0]
  refine hm_lt (fun u eu => hm_lt (fun f3 e3 => hm_some ⟨fun q hq => by rw [e3, gb_un hq]; exact n2 q hq, Or.inr ⟨hlt, ?_⟩⟩))
  rw [e3, gb_us, eu, q2, pk_un (j := 0) (by omega), pk_un (j := 0) (by omega)]
set_option maxHeartbeats 2000000 in
theorem mh_adds3 {n : Nat} {f : gb_F} {w : Int64} {a b c d : Int32} {m : Int32} {mi : Int} (em : m.toInt = mi) (hm : mi ≤ 24) (h0 : 0 ≤ (f 3 0).toInt) : gb_hm (ms_adds n f w m 3 a b c d) (fun f2 _ _ => (∀ q, q ≠ 3 → f2 q = f q) ∧ ((¬ (f 3 0).toInt < mi ∧ f2 3 = f 3) ∨ ((f 3 0).toInt < mi ∧ f2 3 = upd (upd (upd (upd (f 3) (1 + 3 * (f 3 0).toInt.toNat) a) (2 + 3 * (f 3 0).toInt.toNat) b) (3 + 3 * (f 3 0).toInt.toNat) c) 0 (f 3 0 + 1)))) := by
  unfold ms_adds
  have t0 : Int32.toNatClampNeg 0 = 0 := by decide
  have c1 : (1 : Int32).toInt = 1 := by decide
  have c2 : (2 : Int32).toInt = 2 := by decide
  have c3 : (3 : Int32).toInt = 3 := by decide
  have ck : (3 : Int32).toInt = 3 := by decide
  rw [t0]
  refine hm_lt (fun x ex => hm_if (fun z => ?_) (fun z => hm_some ⟨fun _ _ => rfl, Or.inl ⟨by have := gi_nlt z; rw [ex] at this; omega, rfl⟩⟩))
  have hlt := gi_lt z
  rw [ex, em] at hlt
  refine hm_lt (fun y ey => hm_lt (fun p ep => ?_))
  have m1 : (3 * y).toInt = ((3 * (f 3 0).toInt.toNat : Nat) : Int) := by
    rw [ey, gb_tmul (by rw [ck]; omega) (by rw [ck]; omega), ck]
    omega
  have p0 : p.toInt = ((1 + 3 * (f 3 0).toInt.toNat : Nat) : Int) := by
    rw [ep, gb_tadd (by rw [m1, c1]; omega) (by rw [m1, c1]; omega), m1, c1]
    omega
  have p1 : (p + 1).toInt = ((2 + 3 * (f 3 0).toInt.toNat : Nat) : Int) := by
    rw [gb_tadd (by omega) (by omega), c1, p0]
    omega
  have p2 : (p + 2).toInt = ((3 + 3 * (f 3 0).toInt.toNat : Nat) : Int) := by
    rw [gb_tadd (by omega) (by omega), c2, p0]
    omega
  refine hm_ck (fun _ _ => hm_lt (fun f1 e1 => hm_ck (fun _ _ => hm_lt (fun f2 e2 => ?_))))
  have q2 : f2 3 = upd (upd (f 3) (1 + 3 * (f 3 0).toInt.toNat) a) (2 + 3 * (f 3 0).toInt.toNat) b := by rw [e2, gb_us, e1, gb_us, gi_tn p0, gi_tn p1]
  have n2 : ∀ q, q ≠ 3 → f2 q = f q := fun q hq => by rw [e2, gb_un hq, e1, gb_un hq]
  rw [if_neg (by decide)]
  refine hm_ck (fun _ _ => hm_lt (fun f3 e3 => ?_))
  have q3 : f3 3 = upd (f2 3) (3 + 3 * (f 3 0).toInt.toNat) c := by rw [e3, gb_us, gi_tn p2]
  have n3 : ∀ q, q ≠ 3 → f3 q = f q := fun q hq => by rw [e3, gb_un hq]; exact n2 q hq
  unfold ms_adds_58
  rw [if_pos (by decide), t0]
  refine hm_lt (fun u eu => hm_lt (fun f4 e4 => hm_some ⟨fun q hq => by rw [e4, gb_un hq]; exact n3 q hq, Or.inr ⟨hlt, ?_⟩⟩))
  rw [e4, gb_us, eu, q3, q2, pk_un (j := 0) (by omega), pk_un (j := 0) (by omega), pk_un (j := 0) (by omega)]
set_option maxHeartbeats 2000000 in
theorem mh_adds4 {n : Nat} {f : gb_F} {w : Int64} {a b c d : Int32} {m : Int32} {mi : Int} (em : m.toInt = mi) (hm : mi ≤ 24) (h0 : 0 ≤ (f 3 0).toInt) : gb_hm (ms_adds n f w m 4 a b c d) (fun f2 _ _ => (∀ q, q ≠ 3 → f2 q = f q) ∧ ((¬ (f 3 0).toInt < mi ∧ f2 3 = f 3) ∨ ((f 3 0).toInt < mi ∧ f2 3 = upd (upd (upd (upd (upd (f 3) (1 + 4 * (f 3 0).toInt.toNat) a) (2 + 4 * (f 3 0).toInt.toNat) b) (3 + 4 * (f 3 0).toInt.toNat) c) (4 + 4 * (f 3 0).toInt.toNat) d) 0 (f 3 0 + 1)))) := by
  unfold ms_adds
  have t0 : Int32.toNatClampNeg 0 = 0 := by decide
  have c1 : (1 : Int32).toInt = 1 := by decide
  have c2 : (2 : Int32).toInt = 2 := by decide
  have c3 : (3 : Int32).toInt = 3 := by decide
  have ck : (4 : Int32).toInt = 4 := by decide
  rw [t0]
  refine hm_lt (fun x ex => hm_if (fun z => ?_) (fun z => hm_some ⟨fun _ _ => rfl, Or.inl ⟨by have := gi_nlt z; rw [ex] at this; omega, rfl⟩⟩))
  have hlt := gi_lt z
  rw [ex, em] at hlt
  refine hm_lt (fun y ey => hm_lt (fun p ep => ?_))
  have m1 : (4 * y).toInt = ((4 * (f 3 0).toInt.toNat : Nat) : Int) := by
    rw [ey, gb_tmul (by rw [ck]; omega) (by rw [ck]; omega), ck]
    omega
  have p0 : p.toInt = ((1 + 4 * (f 3 0).toInt.toNat : Nat) : Int) := by
    rw [ep, gb_tadd (by rw [m1, c1]; omega) (by rw [m1, c1]; omega), m1, c1]
    omega
  have p1 : (p + 1).toInt = ((2 + 4 * (f 3 0).toInt.toNat : Nat) : Int) := by
    rw [gb_tadd (by omega) (by omega), c1, p0]
    omega
  have p2 : (p + 2).toInt = ((3 + 4 * (f 3 0).toInt.toNat : Nat) : Int) := by
    rw [gb_tadd (by omega) (by omega), c2, p0]
    omega
  have p3 : (p + 3).toInt = ((4 + 4 * (f 3 0).toInt.toNat : Nat) : Int) := by
    rw [gb_tadd (by omega) (by omega), c3, p0]
    omega
  refine hm_ck (fun _ _ => hm_lt (fun f1 e1 => hm_ck (fun _ _ => hm_lt (fun f2 e2 => ?_))))
  have q2 : f2 3 = upd (upd (f 3) (1 + 4 * (f 3 0).toInt.toNat) a) (2 + 4 * (f 3 0).toInt.toNat) b := by rw [e2, gb_us, e1, gb_us, gi_tn p0, gi_tn p1]
  have n2 : ∀ q, q ≠ 3 → f2 q = f q := fun q hq => by rw [e2, gb_un hq, e1, gb_un hq]
  rw [if_neg (by decide)]
  refine hm_ck (fun _ _ => hm_lt (fun f3 e3 => ?_))
  have q3 : f3 3 = upd (f2 3) (3 + 4 * (f 3 0).toInt.toNat) c := by rw [e3, gb_us, gi_tn p2]
  have n3 : ∀ q, q ≠ 3 → f3 q = f q := fun q hq => by rw [e3, gb_un hq]; exact n2 q hq
  unfold ms_adds_58
  rw [if_neg (by decide), t0]
  refine hm_ck (fun _ _ => hm_lt (fun f4 e4 => ?_))
  have q4 : f4 3 = upd (f3 3) (4 + 4 * (f 3 0).toInt.toNat) d := by rw [e4, gb_us, gi_tn p3]
  have n4 : ∀ q, q ≠ 3 → f4 q = f q := fun q hq => by rw [e4, gb_un hq]; exact n3 q hq
  refine hm_lt (fun u eu => hm_lt (fun f5 e5 => hm_some ⟨fun q hq => by rw [e5, gb_un hq]; exact n4 q hq, Or.inr ⟨hlt, ?_⟩⟩))
  rw [e5, gb_us, eu, q4, q3, q2, pk_un (j := 0) (by omega), pk_un (j := 0) (by omega), pk_un (j := 0) (by omega), pk_un (j := 0) (by omega)]
theorem room_0 {s l : Nat} {R : Nat → Int32} (h : s ≠ 0) : gb_room s l R ↔ (R 0).toInt < gb_mst s := by
  unfold gb_room
  rw [if_neg h]
/-- what adds leaves: a deed, a term -/
theorem addR_1 {l : Nat} {U R R2 : Nat → Int32} {a b c d : Int32} (ha : a.toInt = (l : Int) - 3) (hb : b = if 0 < gb_kn l then U 0 else -1) (hc : c = if 1 < gb_kn l then U 1 else -1) (hd : d = if 2 < gb_kn l then U 2 else -1) (h : (¬ (R 0).toInt < 24 ∧ R2 = R) ∨ ((R 0).toInt < 24 ∧ R2 = upd (upd (upd (upd (upd R (1 + 4 * (R 0).toInt.toNat) a) (2 + 4 * (R 0).toInt.toNat) b) (3 + 4 * (R 0).toInt.toNat) c) (4 + 4 * (R 0).toInt.toNat) d) 0 (R 0 + 1))) : gb_addR 1 l U R R2 := by
  rcases h with h | h
  · exact Or.inl ⟨h.1, h.2⟩
  · refine Or.inr ⟨h.1, Or.inr (Or.inl ⟨Or.inl rfl, _, ⟨?_, ?_, fun j hj => ?_, fun j h1 h2 => ?_⟩, h.2⟩)⟩
    · rw [pk_un (by omega), pk_un (by omega), pk_un (by omega), pk_un (by omega)]
    · show (upd _ _ _ (1 + 4 * _)).toInt = (l : Int) - (3 : Nat)
      rw [pk_un (by omega), pk_un (by omega), pk_un (by omega), pk_us]
      exact ha
    · show upd _ _ _ (2 + 4 * _ + j) = _
      have hj' : j < 3 := hj
      have : j = 0 ∨ j = 1 ∨ j = 2 := by omega
      rcases this with rfl | rfl | rfl
      · rw [Nat.add_zero, pk_un (by omega), pk_un (by omega), pk_us]
        exact hb
      · rw [pk_un (by omega), show 2 + 4 * (R 0).toInt.toNat + 1 = 3 + 4 * (R 0).toInt.toNat by omega, pk_us]
        exact hc
      · rw [show 2 + 4 * (R 0).toInt.toNat + 2 = 4 + 4 * (R 0).toInt.toNat by omega, pk_us]
        exact hd
    · have h2' : j < 1 + 4 * (R 0).toInt.toNat ∨ 1 + 4 * (R 0).toInt.toNat + 4 ≤ j := h2
      rw [pk_un (by omega), pk_un (by omega), pk_un (by omega), pk_un (by omega)]
theorem addR_2 {l : Nat} {U R R2 : Nat → Int32} {a b c : Int32} (ha : a.toInt = (l : Int) - 12) (hb : b = if 0 < gb_kn l then U 0 else -1) (hc : c = if 1 < gb_kn l then U 1 else -1) (h : (¬ (R 0).toInt < 8 ∧ R2 = R) ∨ ((R 0).toInt < 8 ∧ R2 = upd (upd (upd (upd R (1 + 3 * (R 0).toInt.toNat) a) (2 + 3 * (R 0).toInt.toNat) b) (3 + 3 * (R 0).toInt.toNat) c) 0 (R 0 + 1))) : gb_addR 2 l U R R2 := by
  rcases h with h | h
  · exact Or.inl ⟨h.1, h.2⟩
  · refine Or.inr ⟨h.1, Or.inr (Or.inl ⟨Or.inr rfl, _, ⟨?_, ?_, fun j hj => ?_, fun j h1 h2 => ?_⟩, h.2⟩)⟩
    · rw [pk_un (by omega), pk_un (by omega), pk_un (by omega)]
    · show (upd _ _ _ (1 + 3 * _)).toInt = (l : Int) - (12 : Nat)
      rw [pk_un (by omega), pk_un (by omega), pk_us]
      exact ha
    · show upd _ _ _ (2 + 3 * _ + j) = _
      have hj' : j < 2 := hj
      have : j = 0 ∨ j = 1 := by omega
      rcases this with rfl | rfl
      · rw [Nat.add_zero, pk_un (by omega), pk_us]
        exact hb
      · rw [show 2 + 3 * (R 0).toInt.toNat + 1 = 3 + 3 * (R 0).toInt.toNat by omega, pk_us]
        exact hc
    · have h2' : j < 1 + 3 * (R 0).toInt.toNat ∨ 1 + 3 * (R 0).toInt.toNat + 3 ≤ j := h2
      rw [pk_un (by omega), pk_un (by omega), pk_un (by omega)]
theorem addR_3 {l : Nat} {U R R2 : Nat → Int32} {a b : Int32} (ha : a = U 0) (hb : b = U 1) (h : (¬ (R 0).toInt < 5 ∧ R2 = R) ∨ ((R 0).toInt < 5 ∧ R2 = upd (upd (upd R (1 + 2 * (R 0).toInt.toNat) a) (2 + 2 * (R 0).toInt.toNat) b) 0 (R 0 + 1))) : gb_addR 3 l U R R2 := by
  rcases h with h | h
  · exact Or.inl ⟨h.1, h.2⟩
  · refine Or.inr ⟨h.1, Or.inr (Or.inr ⟨rfl, _, ?_, ?_, fun j h1 h2 => ?_, h.2⟩)⟩
    · rw [pk_un (by omega), pk_us]
      exact ha
    · rw [pk_us]
      exact hb
    · rw [pk_un (by omega), pk_un (by omega)]
/-- a fault at the line's first token -/
theorem mh_al3 {n : Nat} {T : Nat → Int32} {N : Nat} {ps qs : Nat → Nat} {M Qb a : Nat} {fp : Int32 × Int32} {f : gb_F} {w : Int64} {v : Int32} (h : gb_S1 T N ps qs M Qb 0 fp f) (ev : v.toInt = a) (ha : a < ps 0) (hpN : ps 0 ≤ 600) (hp : ¬ fp.1 = 0 → fp.2.toInt < a) : gb_hm (ms_also n f w 3 v) (fun f2 _ _ => gb_S1 T N ps qs M Qb 0 (gb_note fp 3 a) f2 ∧ f2 3 = f 3 ∧ f2 0 = f 0) := by
  rcases h with ⟨w1, w2, w3, w4⟩ | ⟨g1, g2, g3, g4, g5⟩
  · exact absurd w2 (Nat.not_lt_zero _)
  · refine hm_mono (mh_also0 g1 ev (by omega) (fun z => Or.inl ?_)) (fun f2 _ _ g => ⟨Or.inr ⟨by rw [g.1 0 (by decide)]; exact g1, g2, rs_same g3 (g.1 0 (by decide)) g.2.1, by rw [g.2.2, g4], fun z => Or.inl ?_⟩, g.1 3 (by decide), g.1 0 (by decide)⟩)
    · have := hp (by rw [← g4]; exact z)
      rw [← g4] at this
      exact this
    · exact note_pl (fun y => by have := hp y; omega) ha (by omega) z
