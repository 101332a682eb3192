/-! THE CLASS's Reader: a line -/
theorem ff_cg {l : Nat} {qs qt : Nat → Nat} {vs vt : Nat → Int} {fp : Int32 × Int32} : ∀ i, (∀ j, j < i → qs j = qt j ∧ vs j = vt j) → gb_ff l qs vs fp i = gb_ff l qt vt fp i := by
  intro i
  induction i with
  | zero =>
    intro _
    rfl
  | succ i ih =>
    intro h
    have a := ih (fun j hj => h j (by omega))
    have b := h i (by omega)
    have c := h 0 (by omega)
    show (if gb_can l i (vs i) (vs 0) then gb_ff l qs vs fp i else gb_note (gb_ff l qs vs fp i) 2 (qs i)) = (if gb_can l i (vt i) (vt 0) then gb_ff l qt vt fp i else gb_note (gb_ff l qt vt fp i) 2 (qt i))
    rw [a, b.1, b.2, c.2]
def gb_rfr (s : Nat) (σ σ2 : gb_S) : Prop := σ2.2 = σ.2 ∧ (∀ k, k ≠ 106 → k ≠ 107 → k ≠ 96 + 2 * s + 1 → σ2.1 k = σ.1 k) ∧ σ2.1 106 2 = σ.1 106 2
def gb_lp (T : Nat → Int32) (N l : Nat) (σ0 : gb_S) (fp : Int32 × Int32) (e0 : Nat) (ps qs : Nat → Nat) (vs : Nat → Int) (i : Nat) (σ : gb_S) : Prop := gb_rc T N σ ∧ ps 0 = e0 ∧ (σ.1 106 3).toInt = ps i ∧ ps i ≤ N ∧ gb_nums T N ps qs vs i ∧ (∀ j, j < i → (σ.1 107 j).toInt = vs j) ∧ (σ.1 106 4, σ.1 106 5) = gb_ff l qs vs fp i ∧ (σ.2 = σ0.2 ∧ (∀ k, k ≠ 106 → k ≠ 107 → σ.1 k = σ0.1 k) ∧ σ.1 106 2 = σ0.1 106 2)
def gb_rl2 (T : Nat → Int32) (N s l : Nat) (σ0 : gb_S) (fp : Int32 × Int32) (e0 : Nat) (σ2 : gb_S) (r : Int32) : Prop :=
  (r = 0 ∧ ∃ (q : Nat) (ps qs : Nat → Nat) (vs : Nat → Int) (i : Nat), ps 0 = e0 ∧ gb_nums T N ps qs vs i ∧ ((i < gb_kn l ∧ gb_nonum T N (ps i) q) ∨ (i = gb_kn l ∧ gb_nosemi T N (ps i) q)) ∧ (σ2.1 106 3).toInt = q ∧ q ≤ N ∧ gb_rfr s σ0 σ2) ∨
  (r = 1 ∧ ∃ (ps qs : Nat → Nat) (vs : Nat → Int) (q : Nat) (V : Nat → Int32), ps 0 = e0 ∧ gb_nums T N ps qs vs (gb_kn l) ∧ gb_semi T N (ps (gb_kn l)) q ∧ (σ2.1 106 3).toInt = ((q + 1 : Nat) : Int) ∧ gb_rfr s σ0 σ2 ∧ (∀ j, j < gb_kn l → (V j).toInt = vs j) ∧ gb_added s l V (σ0.1 (96 + 2 * s + 1)) (σ2.1 (96 + 2 * s + 1)) ∧ (σ2.1 106 4, σ2.1 106 5) = gb_ff l qs vs fp (gb_kn l))
theorem gb_kind {s : Nat} (hs : s ≤ 3) : (s = 0 ∧ gb_kB (96 + 2 * s) = true) ∨ (s = 1 ∧ gb_kN (96 + 2 * s) = true) ∨ (s = 2 ∧ gb_kL (96 + 2 * s) = true) ∨ (s = 3 ∧ gb_kD (96 + 2 * s) = true) := by
  have : s = 0 ∨ s = 1 ∨ s = 2 ∨ s = 3 := by omega
  rcases this with rfl | rfl | rfl | rfl
  · exact Or.inl ⟨rfl, by decide⟩
  · exact Or.inr (Or.inl ⟨rfl, by decide⟩)
  · exact Or.inr (Or.inr (Or.inl ⟨rfl, by decide⟩))
  · exact Or.inr (Or.inr (Or.inr ⟨rfl, by decide⟩))
set_option maxHeartbeats 4000000 in
theorem ch_rl38 {n : Nat} {T : Nat → Int32} {N s l e0 : Nat} {σ0 : gb_S} {fp : Int32 × Int32} {v4 : Int32} (hs : s ≤ 3) (hl : gb_fl s ≤ l ∧ l < gb_fl (s + 1)) (e4 : v4.toInt = l) (h0 : 0 ≤ (σ0.1 (96 + 2 * s + 1) 0).toInt) (h1 : s = 0 → 0 ≤ (σ0.1 (96 + 2 * s + 1) 1).toInt) : ∀ (mm : Nat) (σ : gb_S) (v5 : Int32) (ps qs : Nat → Nat) (vs : Nat → Int) (i : Nat), v5.toInt = i → i ≤ gb_kn l → gb_lp T N l σ0 fp e0 ps qs vs i σ → gb_hc (cs_Reader_readLine_S_38 n mm σ (96 + 2 * s) v4 v5) (fun σ2 r => gb_rl2 T N s l σ0 fp e0 σ2 r) := by
  have hl18 : l < 18 := by
    have := gb_fl18 (s := s + 1) (by omega)
    omega
  have kE := gb_knE e4 hl18
  have k5 := gb_kn5 hl18
  intro mm
  induction mm with
  | zero =>
    intros
    exact hc_none
  | succ mm ih =>
    intro σ v5 ps qs vs i e5 hi hP
    rw [cs_Reader_readLine_S_38]
    obtain ⟨hx, p0, h3, hpN, hns, hV, hF, f1, f2, f3⟩ := hP
    have hN := hx.2.2.1
    refine hc_ck (fun _ _ => hc_lt (fun x ex => ?_))
    rw [← ex] at kE
    refine hc_if (fun c => ?_) (fun c => ?_)
    · have hik : i = gb_kn l := by
        have := gi_le c
        omega
      subst hik
      refine hc_cd (ch_skip hx h3 hpN) (fun s1 _ g1 => ?_)
      obtain ⟨q, r1, r2, a1⟩ := g1
      have hx1 := rc_at hx a1
      have frb : gb_rfr s σ0 s1 := ⟨a1.1.trans f1, fun k k1 k2 k3 => (a1.2.1 k k1).trans (f2 k k1 k2), (a1.2.2.1 2 (by decide)).trans f3⟩
      have bad : ¬ (q < N ∧ T q = 59) → gb_rl2 T N s l σ0 fp e0 s1 0 := fun z => Or.inl ⟨rfl, q, ps, qs, vs, gb_kn l, p0, hns, Or.inr ⟨rfl, r1, z⟩, a1.2.2.2, r2, frb⟩
      refine hc_if (fun d => hc_some (bad (fun z => ?_))) (fun d => ?_)
      · have := gi_le d
        have := a1.2.2.2
        have := hx1.2.1
        omega
      · have hqN : q < N := by
          have := gi_nle d
          have := a1.2.2.2
          have := hx1.2.1
          omega
        have hb := hx1.2.2.2 q hqN
        rw [hx1.1, gi_tn a1.2.2.2]
        refine hc_kk (fun _ => hc_ck (fun _ _ => hc_lt (fun y ey => ?_)))
        subst ey
        refine hc_if (fun d2 => ?_) (fun d2 => hc_some (bad (fun z => d2 ((byr_eq hb (by decide) (by decide)).mpr z.2))))
        have hT := (byr_eq hb (by decide) (by decide)).mp d2
        refine hc_lt (fun s2 es2 => ?_)
        have a2 : gb_at1 s1 (q + 1) s2 := by
          rw [es2]
          exact at_u (gi_s1 a1.2.2.2 (by omega))
        have a12 := at_t a1 a2
        have nD : 96 + 2 * s + 1 ≠ 106 ∧ 96 + 2 * s + 1 ≠ 107 := by omega
        have qD : s2.1 (96 + 2 * s + 1) = σ0.1 (96 + 2 * s + 1) := (a12.2.1 _ nD.1).trans (f2 _ nD.1 nD.2)
        have fin : ∀ s3 : gb_S, gb_dD s2 s3 (96 + 2 * s + 1) → gb_added s l (s2.1 107) (s2.1 (96 + 2 * s + 1)) (s3.1 (96 + 2 * s + 1)) → gb_rl2 T N s l σ0 fp e0 s3 1 := by
          intro s3 hd ha
          have z106 : s3.1 106 = s2.1 106 := hd.2 106 (by omega)
          refine Or.inr ⟨rfl, ps, qs, vs, q, s2.1 107, p0, hns, ⟨r1, hqN, hT⟩, ?_, ⟨hd.1.trans (a12.1.trans f1), fun k k1 k2 k3 => (hd.2 k k3).trans ((a12.2.1 k k1).trans (f2 k k1 k2)), ?_⟩, fun j hj => ?_, by rw [← qD]; exact ha, ?_⟩
          · rw [z106]
            exact a2.2.2.2
          · rw [z106, a12.2.2.1 2 (by decide)]
            exact f3
          · rw [a12.2.1 107 (by decide)]
            exact hV j hj
          · rw [z106, a12.2.2.1 4 (by decide), a12.2.2.1 5 (by decide)]
            exact hF
        have h0' : 0 ≤ (s2.1 (96 + 2 * s + 1) 0).toInt := by rw [qD]; exact h0
        rcases gb_kind hs with ⟨hs0, hk⟩ | ⟨hs0, hk⟩ | ⟨hs0, hk⟩ | ⟨hs0, hk⟩
        · rw [if_pos hk]
          subst hs0
          have hl3 : l < 3 := hl.2
          exact hc_cd (ch_addB (by decide) e4 hl3 h0' (by rw [qD]; exact h1 rfl)) (fun s3 _ g => hc_some (fin s3 g.1 g.2))
        · rw [if_neg (gc_BN hk), if_pos hk]
          subst hs0
          exact hc_cd (ch_addN (by decide) e4 hl18 h0') (fun s3 _ g => hc_some (fin s3 g.1 g.2))
        · rw [if_neg (gc_BL hk).1, if_neg (gc_BL hk).2, if_pos hk]
          subst hs0
          exact hc_cd (ch_addL (by decide) e4 hl18 h0') (fun s3 _ g => hc_some (fin s3 g.1 g.2))
        · rw [if_neg (gc_BD hk).1, if_neg (gc_BD hk).2.1, if_neg (gc_BD hk).2.2, if_pos hk]
          subst hs0
          exact hc_cd (ch_addD (by decide) e4 hl18 h0') (fun s3 _ g => hc_some (fin s3 g.1 g.2))
    · have hik : i < gb_kn l := by
        have := gi_nle c
        omega
      refine hc_cd (ch_skip hx h3 hpN) (fun s1 _ g1 => ?_)
      obtain ⟨q, r1, r2, a1⟩ := g1
      have hx1 := rc_at hx a1
      refine hc_cd (ch_takeNumber hx1 e4 hl18 e5 (by omega) a1.2.2.2 r2) (fun s2 r g2 => ?_)
      rcases g2 with ⟨rz, es, hno⟩ | ⟨rz, e, v, t1, t2, t3, t4, t5, t6⟩
      · subst es
        rw [if_pos rz]
        refine hc_some (Or.inl ⟨rfl, q, ps, qs, vs, i, p0, hns, Or.inl ⟨hik, r1, hno⟩, a1.2.2.2, r2, ⟨a1.1.trans f1, fun k k1 k2 k3 => (a1.2.1 k k1).trans (f2 k k1 k2), (a1.2.2.1 2 (by decide)).trans f3⟩⟩)
      · rw [if_neg (by rw [rz]; decide)]
        obtain ⟨u1, u2, u3, u4, ⟨wd, uw, u5⟩, u6⟩ := t6
        refine hc_lt (fun y ey => ih s2 y (fun j => if j = i + 1 then e else ps j) (fun j => if j = i then q else qs j) (fun j => if j = i then v else vs j) (i + 1) (by rw [ey]; exact gi_s1 e5 (by omega)) (by omega) ?_)
        have w107 : ∀ j, j < i → s2.1 107 j = σ.1 107 j := fun j hj => by
          rw [u5, pk_un (by omega), a1.2.1 107 (by decide)]
        refine ⟨⟨?_, ?_, hN, fun j hj => ?_⟩, ?_, ?_, ?_, fun j hj => ?_, fun j hj => ?_, ?_, ?_, fun k k1 k2 => ?_, ?_⟩
        · rw [u1]
          exact hx1.1
        · rw [u3]
          exact hx1.2.1
        · rw [u2 23 (by decide) (by decide)]
          exact hx1.2.2.2 j hj
        · show (if 0 = i + 1 then e else ps 0) = e0
          rw [if_neg (by omega)]
          exact p0
        · show _ = (((if i + 1 = i + 1 then e else ps (i + 1)) : Nat) : Int)
          rw [if_pos rfl]
          exact u4
        · show (if i + 1 = i + 1 then e else ps (i + 1)) ≤ N
          rw [if_pos rfl]
          exact t5
        · show gb_num T N (if j = i + 1 then e else ps j) (if j = i then q else qs j) (if j + 1 = i + 1 then e else ps (j + 1)) (if j = i then v else vs j)
          by_cases z : j = i
          · rw [if_neg (by omega), if_pos z, if_pos (by omega), if_pos z, z]
            exact ⟨r1, t1, t2, t3, t4⟩
          · rw [if_neg (by omega), if_neg z, if_neg (by omega), if_neg z]
            exact hns j (by omega)
        · show _ = (if j = i then v else vs j)
          by_cases z : j = i
          · rw [if_pos z, z, u5, pk_us]
            exact uw
          · rw [if_neg z, w107 j (by omega)]
            exact hV j (by omega)
        · have v0E : (s2.1 107 0).toInt = (if 0 = i then v else vs 0) := by
            by_cases z : 0 = i
            · rw [if_pos z, u5, z, pk_us]
              exact uw
            · rw [if_neg z, w107 0 (by omega)]
              exact hV 0 (by omega)
          rw [u6, v0E, a1.2.2.1 4 (by decide), a1.2.2.1 5 (by decide), hF]
          have cg := ff_cg (l := l) (fp := fp) (qs := qs) (qt := fun j => if j = i then q else qs j) (vs := vs) (vt := fun j => if j = i then v else vs j) i (fun j hj => ⟨(if_neg (by omega)).symm, (if_neg (by omega)).symm⟩)
          rw [cg]
          show _ = (if gb_can l i (if i = i then v else vs i) (if 0 = i then v else vs 0) then _ else gb_note _ 2 (if i = i then q else qs i))
          rw [if_pos (rfl : i = i), if_pos (rfl : i = i)]
        · exact u1.trans (a1.1.trans f1)
        · exact (u2 k k1 k2).trans ((a1.2.1 k k1).trans (f2 k k1 k2))
        · exact u3.trans ((a1.2.2.1 2 (by decide)).trans f3)
/-- a line of the class -/
def gb_rln (T : Nat → Int32) (N s a : Nat) (σ σ2 : gb_S) (r : Int32) : Prop :=
  (r = 0 ∧ ∃ q : Nat, gb_bad T N s a q ∧ (σ2.1 106 3).toInt = q ∧ q ≤ N ∧ gb_rfr s σ σ2) ∨
  (r = 1 ∧ ∃ (l : Nat) (ps qs : Nat → Nat) (vs : Nat → Int) (e : Nat) (V : Nat → Int32) (fp : Int32 × Int32), gb_goodl T N s a l ps qs vs e ∧ (σ2.1 106 3).toInt = e ∧ gb_rfr s σ σ2 ∧ (∀ j, j < gb_kn l → (V j).toInt = vs j) ∧ gb_added s l V (σ.1 (96 + 2 * s + 1)) (σ2.1 (96 + 2 * s + 1)) ∧ ((gb_room s l (σ.1 (96 + 2 * s + 1)) ∧ fp = (σ.1 106 4, σ.1 106 5)) ∨ (¬ gb_room s l (σ.1 (96 + 2 * s + 1)) ∧ fp = gb_note (σ.1 106 4, σ.1 106 5) 3 a)) ∧ (σ2.1 106 4, σ2.1 106 5) = gb_ff l qs vs fp (gb_kn l))
set_option maxHeartbeats 4000000 in
theorem ch_readLine {n : Nat} {T : Nat → Int32} {N s a : Nat} {σ : gb_S} {p1 : Int32} (hx : gb_rc T N σ) (e1 : p1.toInt = s) (hs : s ≤ 3) (ha : (σ.1 106 3).toInt = a) (haN : a ≤ N) (h0 : 0 ≤ (σ.1 (96 + 2 * s + 1) 0).toInt) (h1 : s = 0 → 0 ≤ (σ.1 (96 + 2 * s + 1) 1).toInt) : gb_hc (cs_Reader_readLine_S n σ p1 (96 + 2 * s)) (fun σ2 r => gb_rln T N s a σ σ2 r) := by
  unfold cs_Reader_readLine_S
  have hN := hx.2.2.1
  refine hc_lt (fun x ex => hc_cd (ch_takeWord hx e1 hs ha haN) (fun s1 r g1 => ?_))
  rcases g1 with ⟨rz, es, hno⟩ | ⟨l, e, rl, hw, heN, a1⟩
  · rw [if_pos rz]
    subst es
    exact hc_some (Or.inl ⟨rfl, a, Or.inl ⟨rfl, hno⟩, ha, haN, rfl, fun _ _ _ _ => rfl, rfl⟩)
  · have hr1 : ¬ r = -1 := fun q => by
      have : (-1 : Int32).toInt = -1 := by decide
      rw [q] at rl
      omega
    rw [if_neg hr1]
    have hx1 := rc_at hx a1
    have hl18 : l < 18 := by
      have := gb_fl18 (s := s + 1) (by omega)
      have := hw.2.1
      omega
    have nD : 96 + 2 * s + 1 ≠ 106 ∧ 96 + 2 * s + 1 ≠ 107 := by omega
    have qD : s1.1 (96 + 2 * s + 1) = σ.1 (96 + 2 * s + 1) := a1.2.1 _ nD.1
    have z0 : (0 : Int32).toInt = ((0 : Nat) : Int) := by decide
    have go : ∀ (s2 : gb_S) (fp : Int32 × Int32), s2.2 = s1.2 → (∀ k, k ≠ 106 → s2.1 k = s1.1 k) → (∀ j, j ≠ 4 → j ≠ 5 → s2.1 106 j = s1.1 106 j) → (s2.1 106 4, s2.1 106 5) = fp → ((gb_room s l (σ.1 (96 + 2 * s + 1)) ∧ fp = (σ.1 106 4, σ.1 106 5)) ∨ (¬ gb_room s l (σ.1 (96 + 2 * s + 1)) ∧ fp = gb_note (σ.1 106 4, σ.1 106 5) 3 a)) → gb_hc (cs_Reader_readLine_S_38 n n s2 (96 + 2 * s) r 0) (fun σ2 r => gb_rln T N s a σ σ2 r) := by
      intro s2 fp q1 q2 q3 q4 q5
      have qD2 : s2.1 (96 + 2 * s + 1) = σ.1 (96 + 2 * s + 1) := (q2 _ nD.1).trans qD
      have hx2 : gb_rc T N s2 := ⟨by rw [q1]; exact hx1.1, by rw [q3 2 (by decide) (by decide)]; exact hx1.2.1, hN, fun i hi => by rw [q2 23 (by decide)]; exact hx1.2.2.2 i hi⟩
      have frm : ∀ σ3 : gb_S, gb_rfr s s2 σ3 → gb_rfr s σ σ3 := fun σ3 g => ⟨g.1.trans (q1.trans a1.1), fun k k1 k2 k3 => (g.2.1 k k1 k2 k3).trans ((q2 k k1).trans (a1.2.1 k k1)), g.2.2.trans ((q3 2 (by decide) (by decide)).trans (a1.2.2.1 2 (by decide)))⟩
      refine hc_mono (ch_rl38 (T := T) (N := N) (σ0 := s2) (fp := fp) (e0 := e) hs ⟨hw.1, hw.2.1⟩ rl (by rw [qD2]; exact h0) (fun q => by rw [qD2]; exact h1 q) n s2 0 (fun _ => e) (fun _ => 0) (fun _ => 0) 0 z0 (Nat.zero_le _) ⟨hx2, rfl, by rw [q3 3 (by decide) (by decide)]; exact a1.2.2.2, heN, fun i hi => absurd hi (Nat.not_lt_zero _), fun i hi => absurd hi (Nat.not_lt_zero _), q4, rfl, fun _ _ _ => rfl, rfl⟩) (fun σ3 r3 g => ?_)
      rcases g with ⟨g0, q, ps, qs, vs, i, g1, g2, g3, g4, g5, g6⟩ | ⟨g0, ps, qs, vs, q, V, g1, g2, g3, g4, g5, g6, g7, g8⟩
      · exact Or.inl ⟨g0, q, Or.inr ⟨l, ps, qs, vs, i, by rw [g1]; exact hw, g2, g3⟩, g4, g5, frm σ3 g6⟩
      · exact Or.inr ⟨g0, l, ps, qs, vs, q + 1, V, fp, ⟨by rw [g1]; exact hw, g2, q, g3, rfl⟩, g4, frm σ3 g5, g6, by rw [← qD2]; exact g7, q5, g8⟩
    have yes : ∀ s2 : gb_S, s2 = s1 → gb_room s l (s1.1 (96 + 2 * s + 1)) → gb_hc (cs_Reader_readLine_S_38 n n s2 (96 + 2 * s) r 0) (fun σ2 r => gb_rln T N s a σ σ2 r) := fun s2 es hr => by
      subst es
      exact go s2 (σ.1 106 4, σ.1 106 5) rfl (fun _ _ => rfl) (fun _ _ _ => rfl) (by rw [a1.2.2.1 4 (by decide), a1.2.2.1 5 (by decide)]) (Or.inl ⟨by rw [← qD]; exact hr, rfl⟩)
    have no : ∀ s2 : gb_S, s2 = s1 → ¬ gb_room s l (s1.1 (96 + 2 * s + 1)) → gb_hc (gb_cd (cs_Reader_note n s2 3 x) (fun s_56 _ => cs_Reader_readLine_S_38 n n s_56 (96 + 2 * s) r 0)) (fun σ2 r => gb_rln T N s a σ σ2 r) := fun s2 es hr => by
      subst es
      refine hc_cd (ch_note (q := a) (by rw [ex]; exact ha) (by omega)) (fun s3 _ g => ?_)
      obtain ⟨n1, n2, n3, n4⟩ := g
      refine go s3 _ n1 n2 n3 n4 (Or.inr ⟨by rw [← qD]; exact hr, ?_⟩)
      rw [a1.2.2.1 4 (by decide), a1.2.2.1 5 (by decide)]
    have pick : ∀ (s2 : gb_S) (r2 : Int32), s2 = s1 ∧ ((r2 = 1 ∧ gb_room s l (s1.1 (96 + 2 * s + 1))) ∨ (r2 = 0 ∧ ¬ gb_room s l (s1.1 (96 + 2 * s + 1)))) → gb_hc (if r2 = 0 then gb_cd (cs_Reader_note n s2 3 x) (fun s_56 _ => cs_Reader_readLine_S_38 n n s_56 (96 + 2 * s) r 0) else cs_Reader_readLine_S_38 n n s2 (96 + 2 * s) r 0) (fun σ2 r => gb_rln T N s a σ σ2 r) := fun s2 r2 h => by
      obtain ⟨h1, h2⟩ := h
      refine hc_if (fun c => no s2 h1 ?_) (fun c => yes s2 h1 ?_)
      · rcases h2 with z | z
        · rw [c] at z
          exact absurd z.1 (by decide)
        · exact z.2
      · rcases h2 with z | z
        · exact z.2
        · exact absurd z.1 c
    rcases gb_kind hs with ⟨hs0, hk⟩ | ⟨hs0, hk⟩ | ⟨hs0, hk⟩ | ⟨hs0, hk⟩
    · rw [if_pos hk]
      subst hs0
      have hl3 : l < 3 := hw.2.1
      exact hc_cd (ch_roomB rl hl3) (fun s2 r2 g => pick s2 r2 g)
    · rw [if_neg (gc_BN hk), if_pos hk]
      subst hs0
      exact hc_cd (ch_roomN (l := l)) (fun s2 r2 g => pick s2 r2 g)
    · rw [if_neg (gc_BL hk).1, if_neg (gc_BL hk).2, if_pos hk]
      subst hs0
      exact hc_cd (ch_roomL (l := l)) (fun s2 r2 g => pick s2 r2 g)
    · rw [if_neg (gc_BD hk).1, if_neg (gc_BD hk).2.1, if_neg (gc_BD hk).2.2, if_pos hk]
      subst hs0
      exact hc_cd (ch_roomD (l := l)) (fun s2 r2 g => pick s2 r2 g)
