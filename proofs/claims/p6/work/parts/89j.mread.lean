/-! THE REFERENCE's reading of numbers: S, what stands behind so many of them -/
def gb_rs (T : Nat → Int32) (N : Nat) (f : gb_F) (p : Nat) : Prop := gb_cx T N f ∧ ∃ q, gb_run (gb_bl T N) p q ∧ gb_tk T N f q
/-- what reading leaves: all but the lexer's fields, the fault and its place -/
def gb_ke (f f2 : gb_F) : Prop := f2 3 = f 3 ∧ f2 2 = f 2 ∧ f2 0 9 = f 0 9 ∧ f2 0 2 = f 0 2 ∧ ∀ j, j ≠ 5 → j ≠ 6 → f2 1 j = f 1 j
theorem ke_r {f : gb_F} : gb_ke f f := ⟨rfl, rfl, rfl, rfl, fun _ _ _ => rfl⟩
theorem ke_t {f g h : gb_F} (a : gb_ke f g) (b : gb_ke g h) : gb_ke f h := ⟨b.1.trans a.1, b.2.1.trans a.2.1, b.2.2.1.trans a.2.2.1, b.2.2.2.1.trans a.2.2.2.1, fun j x y => (b.2.2.2.2 j x y).trans (a.2.2.2.2 j x y)⟩
theorem ke_v {f g : gb_F} (a : gb_vf f g) : gb_ke f g := ⟨a.2.2.1, a.2.1, a.2.2.2.2.1, a.2.2.2.2.2, fun j _ _ => by rw [a.1]⟩
theorem cx_k {T : Nat → Int32} {N : Nat} {f f2 : gb_F} (h : gb_cx T N f) (g : gb_ke f f2) : gb_cx T N f2 := by
  obtain ⟨h1, h2, h3, h4⟩ := h
  exact ⟨by rw [g.2.2.2.1]; exact h1, h2, fun i hi => by rw [g.2.2.2.2 _ (by omega) (by omega)]; exact h3 i hi, h4⟩
theorem mh_ends0 {n : Nat} {f : gb_F} {w : Int64} {q : Nat} (h8 : f 0 8 = 0) (h4 : (f 0 4).toInt = q) (hq : q ≤ 600) : gb_hm (ms_ends n f w) (fun f2 _ _ => gb_ke f f2 ∧ ¬ f2 0 8 = 0 ∧ f2 1 5 = 1 ∧ f2 1 6 = nI q) := by
  unfold ms_ends
  have t5 : Int32.toNatClampNeg 5 = 5 := by decide
  have t6 : Int32.toNatClampNeg 6 = 6 := by decide
  rw [if_pos h8, t5, t6]
  refine hm_lt (fun g1 e1 => hm_lt (fun g2 e2 => hm_lt (fun g3 e3 => hm_some ?_)))
  have a0 : g3 0 = upd (f 0) 8 1 := by rw [e3, gb_un (by decide), e2, gb_un (by decide), e1, gb_us]
  have b0 : g2 0 = upd (f 0) 8 1 := by rw [e2, gb_un (by decide), e1, gb_us]
  have a1 : g3 1 = upd (upd (f 1) 5 1) 6 (f 0 4) := by
    rw [e3, gb_us, b0, pk_un (by decide), e2, gb_us, e1, gb_un (by decide)]
  refine ⟨⟨?_, ?_, ?_, ?_, fun j x y => ?_⟩, ?_, ?_, ?_⟩
  · rw [e3, gb_un (by decide), e2, gb_un (by decide), e1, gb_un (by decide)]
  · rw [e3, gb_un (by decide), e2, gb_un (by decide), e1, gb_un (by decide)]
  · rw [a0, pk_un (by decide)]
  · rw [a0, pk_un (by decide)]
  · rw [a1, pk_un y, pk_un x]
  · rw [a0, pk_us]
    decide
  · rw [a1, pk_un (by decide), pk_us]
  · rw [a1, pk_us]
    exact gb_ieq (by rw [h4, nI_toInt (by omega)])
theorem mh_ends1 {n : Nat} {f : gb_F} {w : Int64} (h8 : ¬ f 0 8 = 0) : gb_hm (ms_ends n f w) (fun f2 w2 _ => f2 = f ∧ w2 = w) := by
  unfold ms_ends
  rw [if_neg h8]
  exact hm_some ⟨rfl, rfl⟩
theorem mh_also0 {n : Nat} {f : gb_F} {w : Int64} {k v : Int32} {q : Nat} (h8 : f 0 8 = 0) (e : v.toInt = q) (hq : q ≤ 600) (hp : ¬ f 1 5 = 0 → (f 1 6).toInt < q ∨ ((f 1 6).toInt = q ∧ (f 1 5).toInt ≤ k.toInt)) : gb_hm (ms_also n f w k v) (fun f2 _ _ => (∀ j, j ≠ 1 → f2 j = f j) ∧ (∀ j, j ≠ 5 → j ≠ 6 → f2 1 j = f 1 j) ∧ (f2 1 5, f2 1 6) = gb_note (f 1 5, f 1 6) k q) := by
  unfold ms_also
  have t5 : Int32.toNatClampNeg 5 = 5 := by decide
  have t6 : Int32.toNatClampNeg 6 = 6 := by decide
  have ev : v = nI q := gb_ieq (by rw [e, nI_toInt (by omega)])
  have keep : ¬ f 1 5 = 0 → (∀ j, j ≠ 1 → f j = f j) ∧ (∀ j, j ≠ 5 → j ≠ 6 → f 1 j = f 1 j) ∧ (f 1 5, f 1 6) = gb_note (f 1 5, f 1 6) k q := fun z => ⟨fun _ _ => rfl, fun _ _ _ => rfl, by unfold gb_note; rw [if_neg z]⟩
  rw [if_pos h8, t5, t6]
  refine hm_lt (fun x ex => hm_if (fun c => hm_lt (fun g1 e1 => hm_lt (fun g2 e2 => hm_some ⟨fun j hj => ?_, fun j a b => ?_, ?_⟩))) (fun c => ?_))
  · rw [e2, gb_un hj, e1, gb_un hj]
  · rw [e2, gb_us, pk_un b, e1, gb_us, pk_un a]
  · unfold gb_note
    rw [ex] at c
    rw [if_pos c, e2, gb_us, pk_us, pk_un (by decide), e1, gb_us, pk_us, ev]
  · rw [ex] at c
    have hp2 := hp c
    refine hm_lt (fun y ey => hm_if (fun d => hm_some (keep c)) (fun d => hm_lt (fun z ez => hm_if (fun d2 => hm_lt (fun u eu => hm_if (fun d3 => ?_) (fun d3 => hm_some (keep c)))) (fun d2 => ?_))))
    · exfalso
      have h3 := gi_lt d3
      have h4 := gi_nlt d
      rw [eu] at h3
      rw [ey] at h4
      omega
    · exfalso
      have h4 := gi_nlt d
      rw [ey] at h4
      rw [ez] at d2
      rcases hp2 with q1 | q1
      · omega
      · exact d2 (gb_ieq (by rw [e]; exact q1.1))
theorem mh_also1 {n : Nat} {f : gb_F} {w : Int64} {k v : Int32} (h8 : ¬ f 0 8 = 0) : gb_hm (ms_also n f w k v) (fun f2 w2 _ => f2 = f ∧ w2 = w) := by
  unfold ms_also
  rw [if_neg h8]
  exact hm_some ⟨rfl, rfl⟩
/-- the same token, the tape and the lexer's fields as they were -/
theorem rs_same {T : Nat → Int32} {N p : Nat} {f f2 : gb_F} (h : gb_rs T N f p) (h0 : f2 0 = f 0) (h1 : ∀ j, j ≠ 5 → j ≠ 6 → f2 1 j = f 1 j) : gb_rs T N f2 p := by
  obtain ⟨⟨c1, c2, c3, c4⟩, q, r, t⟩ := h
  refine ⟨⟨by rw [h0]; exact c1, c2, fun i hi => by rw [h1 _ (by omega) (by omega)]; exact c3 i hi, c4⟩, q, r, ?_⟩
  unfold gb_tk
  rw [h0]
  exact t
def gb_S1 (T : Nat → Int32) (N : Nat) (ps qs : Nat → Nat) (M Qb : Nat) (i : Nat) (fp : Int32 × Int32) (f : gb_F) : Prop :=
  (¬ f 0 8 = 0 ∧ M < i ∧ f 1 5 = 1 ∧ f 1 6 = nI Qb) ∨ (f 0 8 = 0 ∧ i ≤ M ∧ gb_rs T N f (ps i) ∧ (f 1 5, f 1 6) = fp ∧ (¬ fp.1 = 0 → fp.2.toInt < ps i ∨ (i < M ∧ fp.2.toInt = qs i ∧ fp.1.toInt ≤ 2)))
theorem note_pl {fp : Int32 × Int32} {k : Int32} {q p : Nat} (h : ¬ fp.1 = 0 → fp.2.toInt < p) (hq : q < p) (hp : p ≤ 601) : ¬ (gb_note fp k q).1 = 0 → (gb_note fp k q).2.toInt < p := by
  unfold gb_note
  intro z
  by_cases c : fp.1 = 0
  · rw [if_pos c]
    show (nI q).toInt < p
    rw [nI_toInt (by omega)]
    omega
  · rw [if_neg c]
    exact h c
theorem num_le {T : Nat → Int32} {N p q e : Nat} {v : Int} (h : gb_num T N p q e v) : p ≤ q ∧ q < e ∧ e ≤ N := by
  obtain ⟨h1, h2, h3, h4, h5⟩ := h
  have := (h2.2.1 (e - 1) (by omega) (by omega)).1
  exact ⟨h1.1, h3, by omega⟩
theorem di_nb {T : Nat → Int32} {N q : Nat} (h : gb_di T N q) : ¬ gb_lt1 T N q := fun z => by
  have := h.2
  have := z.2
  omega
set_option maxHeartbeats 2000000 in
theorem mh_num {n : Nat} {T : Nat → Int32} {N : Nat} {ps qs : Nat → Nat} {vs : Nat → Int} {M Qb i : Nat} {fp : Int32 × Int32} {f : gb_F} {w : Int64} {p1 p2 : Int32} {lo hi : Int} (hns : gb_nums T N ps qs vs M) (hB : i = M → gb_nonum T N (ps M) Qb) (e1 : p1.toInt = lo) (e2 : p2.toInt = hi) (h : gb_S1 T N ps qs M Qb i fp f) : gb_hm (ms_numbered n f w p1 p2) (fun f2 _ r => gb_S1 T N ps qs M Qb (i + 1) (if lo ≤ vs i ∧ vs i ≤ hi then fp else gb_note fp 2 (qs i)) f2 ∧ (i < M → r.toInt = if lo ≤ vs i ∧ vs i ≤ hi then vs i else lo) ∧ gb_ke f f2) := by
  unfold ms_numbered
  rcases h with ⟨w1, w2, w3, w4⟩ | ⟨g1, g2, g3, g4, g5⟩
  · rw [if_neg w1]
    refine hm_bd (mh_ends1 w1) (fun f2 w2' _ h => hm_some ?_)
    obtain ⟨rfl, rfl⟩ := h
    exact ⟨Or.inl ⟨w1, by omega, w3, w4⟩, fun z => absurd z (by omega), ke_r⟩
  · rw [if_pos g1]
    obtain ⟨hx, q, hr, ht⟩ := g3
    have hN := hx.2.1
    obtain ⟨t1, t2, t3, t4⟩ := ht
    by_cases hiM : i < M
    · have nm := hns i hiM
      obtain ⟨n1, n2, n3, n4, n5⟩ := nm
      have nle := num_le (hns i hiM)
      have eq := run_uq hr n1
      subst eq
      have hdq : gb_di T N (qs i) := n2.2.1 _ (Nat.le_refl _) n3
      obtain ⟨f5, f3, f6⟩ : f 0 5 = 1 ∧ (f 0 3).toInt = ps (i + 1) ∧ (f 0 6).toInt = vs i := by
        rcases t4 with z | z | z | z
        · have := hdq.1
          omega
        · obtain ⟨e, y1, y2, -⟩ := z
          exact absurd (y1.2.1 _ (Nat.le_refl _) y2) (di_nb hdq)
        · obtain ⟨e, y1, y2, y3, y4⟩ := z
          have := run_uq y1 n2
          subst this
          rcases y4 with y4 | y4
          · omega
          · exact ⟨y4.2.1, y3, by rw [y4.2.2, n5]⟩
        · exact absurd hdq z.2.2.1
      rw [if_pos f5]
      have pl : ¬ f 1 5 = 0 → (f 1 6).toInt < qs i ∨ ((f 1 6).toInt = qs i ∧ (f 1 5).toInt ≤ (2 : Int32).toInt) := fun z => by
        have z2 : ¬ fp.1 = 0 := by rw [← g4]; exact z
        have c2 : (2 : Int32).toInt = 2 := by decide
        rcases g5 z2 with y | y
        · left
          rw [← g4] at y
          have y' : (f 1 6).toInt < ps i := y
          omega
        · right
          rw [← g4] at y
          have y1 : (f 1 6).toInt = qs i := y.2.1
          have y2 : (f 1 5).toInt ≤ 2 := y.2.2
          exact ⟨y1, by rw [c2]; exact y2⟩
      have pl2 : ¬ fp.1 = 0 → fp.2.toInt < ps (i + 1) := fun z => by
        rcases g5 z with y | y
        · omega
        · omega
      -- the advance and the end
      have fin : ∀ (g : gb_F) (u : Int64) (x : Int32), x = f 0 6 → (∀ j, j ≠ 1 → g j = f j) → (∀ j, j ≠ 5 → j ≠ 6 → g 1 j = f 1 j) → (g 1 5, g 1 6) = (if lo ≤ vs i ∧ vs i ≤ hi then fp else gb_note fp 2 (qs i)) → gb_hm (gb_bd (ms_advance n g u) (fun f_15 wl_16 _ => gb_bd (ms_isIn n f_15 wl_16 x p1 p2) (fun f_20 wl_21 r_22 => (if r_22 = 0 then some (f_20, wl_21, p1) else some (f_20, wl_21, x))))) (fun f2 _ r => gb_S1 T N ps qs M Qb (i + 1) (if lo ≤ vs i ∧ vs i ≤ hi then fp else gb_note fp 2 (qs i)) f2 ∧ (i < M → r.toInt = if lo ≤ vs i ∧ vs i ≤ hi then vs i else lo) ∧ gb_ke f f2) := by
        intro g u x exx k0 k1 k2
        have kfg : gb_ke f g := ⟨by rw [k0 3 (by decide)], by rw [k0 2 (by decide)], by rw [k0 0 (by decide)], by rw [k0 0 (by decide)], k1⟩
        have hxg := cx_k hx kfg
        refine hm_bd (mh_advance hxg (p := ps (i + 1)) (by rw [k0 0 (by decide)]; exact f3) nle.2.2) (fun f2 w2 _ hA => ?_)
        obtain ⟨hv, q2, hr2, ht2⟩ := hA
        have S2 : gb_S1 T N ps qs M Qb (i + 1) (if lo ≤ vs i ∧ vs i ≤ hi then fp else gb_note fp 2 (qs i)) f2 := by
          refine Or.inr ⟨by rw [hv.2.2.2.1, k0 0 (by decide)]; exact g1, by omega, ⟨cx_v hxg hv, q2, hr2, ht2⟩, by rw [hv.1]; exact k2, fun z => Or.inl ?_⟩
          by_cases c : lo ≤ vs i ∧ vs i ≤ hi
          · rw [if_pos c] at z ⊢
            exact pl2 z
          · rw [if_neg c] at z ⊢
            exact note_pl pl2 nle.2.1 (by omega) z
        refine hm_bd mh_isIn (fun f4 w4 r4 h4 => ?_)
        obtain ⟨rfl, rfl, h4⟩ := h4
        rw [exx, f6, e1, e2] at h4
        refine hm_if (fun c => hm_some ⟨S2, fun _ => ?_, ke_t kfg (ke_v hv)⟩) (fun c => hm_some ⟨S2, fun _ => ?_, ke_t kfg (ke_v hv)⟩)
        · rcases h4 with z | z
          · rw [c] at z
            exact absurd z.1 (by decide)
          · rw [if_neg (by omega)]
            exact e1
        · rcases h4 with z | z
          · rw [if_pos z.2, exx]
            exact f6
          · exact absurd z.1 c
      refine hm_lt (fun x ex => hm_bd mh_isIn (fun f1 w1 r1 h1 => ?_))
      obtain ⟨rfl, rfl, h1⟩ := h1
      rw [ex, f6, e1, e2] at h1
      refine hm_if (fun c => ?_) (fun c => ?_)
      · have nin : ¬ (lo ≤ vs i ∧ vs i ≤ hi) := by
          rcases h1 with z | z
          · rw [c] at z
            exact absurd z.1 (by decide)
          · omega
        refine hm_bd (mh_also0 g1 t1 (by omega) pl) (fun g u _ hg => ?_)
        refine fin g u x ex hg.1 hg.2.1 ?_
        rw [if_neg nin, hg.2.2, g4]
      · have yin : lo ≤ vs i ∧ vs i ≤ hi := by
          rcases h1 with z | z
          · exact z.2
          · exact absurd z.1 c
        refine fin f1 _ x ex (fun _ _ => rfl) (fun _ _ _ => rfl) ?_
        rw [if_pos yin]
        exact g4
    · have hi : i = M := by omega
      subst hi
      obtain ⟨b1, b2⟩ := hB rfl
      have eq := run_uq hr b1
      subst eq
      have f5 : ¬ f 0 5 = 1 := fun z => by
        rcases t4 with y | y | y | y
        · rw [z] at y
          exact absurd y.2 (by decide)
        · obtain ⟨e, -, -, -, y4⟩ := y
          rcases y4 with y4 | y4
          · obtain ⟨l, -, -, y5, -⟩ := y4
            rw [z] at y5
            exact absurd y5 (by decide)
          · rw [z] at y4
            exact absurd y4.2 (by decide)
        · obtain ⟨e, y1, y2, -, y4⟩ := y
          rcases y4 with y4 | y4
          · rw [z] at y4
            exact absurd y4.2 (by decide)
          · have := b2 e y1
            omega
        · rcases y.2.2.2.2 with y4 | y4
          · rw [z] at y4
            exact absurd y4.2 (by decide)
          · rw [z] at y4
            exact absurd y4.2 (by decide)
      rw [if_neg f5]
      refine hm_bd (mh_ends0 g1 t1 (by omega)) (fun f2 w2 _ h => hm_some ⟨Or.inl ⟨h.2.1, by omega, h.2.2.1, h.2.2.2⟩, fun z => absurd z hiM, h.1⟩)
theorem mh_endsL {n : Nat} {T : Nat → Int32} {N : Nat} {ps qs : Nat → Nat} {M Qb K : Nat} {fp : Int32 × Int32} {f : gb_F} {w : Int64} (h : gb_S1 T N ps qs M Qb K fp f) (hM : M ≤ K) : gb_hm (ms_endsLine n f w) (fun f2 _ _ => gb_ke f f2 ∧ ((M < K ∧ ¬ f2 0 8 = 0 ∧ f2 1 5 = 1 ∧ f2 1 6 = nI Qb) ∨ (M = K ∧ ((∃ q, gb_semi T N (ps K) q ∧ f2 0 8 = 0 ∧ gb_rs T N f2 (q + 1) ∧ (f2 1 5, f2 1 6) = fp ∧ (¬ fp.1 = 0 → fp.2.toInt < ((q + 1 : Nat) : Int))) ∨ (∃ q, gb_nosemi T N (ps K) q ∧ ¬ f2 0 8 = 0 ∧ f2 1 5 = 1 ∧ f2 1 6 = nI q))))) := by
  unfold ms_endsLine
  rcases h with ⟨w1, w2, w3, w4⟩ | ⟨g1, g2, g3, g4, g5⟩
  · rw [if_neg w1]
    refine hm_bd (mh_ends1 w1) (fun f2 w2' _ h => hm_some ?_)
    obtain ⟨rfl, rfl⟩ := h
    exact ⟨ke_r, Or.inl ⟨w2, w1, w3, w4⟩⟩
  · rw [if_pos g1]
    have hMK : M = K := by omega
    subst hMK
    obtain ⟨hx, q, hr, ht⟩ := g3
    have hN := hx.2.1
    obtain ⟨t1, t2, t3, t4⟩ := ht
    by_cases hsm : q < N ∧ T q = 59
    · have nl : ¬ gb_lt1 T N q := fun z => by
        have := z.2
        rw [hsm.2] at this
        exact absurd this (by decide)
      have nd : ¬ gb_di T N q := fun z => by
        have := z.2
        rw [hsm.2] at this
        exact absurd this (by decide)
      obtain ⟨f5, f3⟩ : f 0 5 = 2 ∧ (f 0 3).toInt = ((q + 1 : Nat) : Int) := by
        rcases t4 with z | z | z | z
        · omega
        · obtain ⟨e, y1, y2, -⟩ := z
          exact absurd (y1.2.1 _ (Nat.le_refl _) y2) nl
        · obtain ⟨e, y1, y2, -⟩ := z
          exact absurd (y1.2.1 _ (Nat.le_refl _) y2) nd
        · rcases z.2.2.2.2 with y | y
          · exact ⟨y.2, z.2.2.2.1⟩
          · exact absurd hsm.2 y.1
      rw [if_pos f5]
      refine hm_bd (mh_advance hx f3 (by omega)) (fun f2 w2 _ hA => hm_some ?_)
      obtain ⟨hv, q2, hr2, ht2⟩ := hA
      refine ⟨ke_v hv, Or.inr ⟨rfl, Or.inl ⟨q, ⟨hr, hsm⟩, by rw [hv.2.2.2.1]; exact g1, ⟨cx_v hx hv, q2, hr2, ht2⟩, by rw [hv.1]; exact g4, fun z => ?_⟩⟩⟩
      have := hr.1
      rcases g5 z with y | y
      · omega
      · omega
    · have f5 : ¬ f 0 5 = 2 := fun z => by
        rcases t4 with y | y | y | y
        · rw [z] at y
          exact absurd y.2 (by decide)
        · obtain ⟨e, -, -, -, y4⟩ := y
          rcases y4 with y4 | y4
          · obtain ⟨l, -, -, y5, -⟩ := y4
            rw [z] at y5
            exact absurd y5 (by decide)
          · rw [z] at y4
            exact absurd y4.2 (by decide)
        · obtain ⟨e, y1, y2, -, y4⟩ := y
          rcases y4 with y4 | y4
          · rw [z] at y4
            exact absurd y4.2 (by decide)
          · rw [z] at y4
            exact absurd y4.2.1 (by decide)
        · rcases y.2.2.2.2 with y4 | y4
          · exact hsm ⟨y.1, y4.1⟩
          · rw [z] at y4
            exact absurd y4.2 (by decide)
      rw [if_neg f5]
      refine hm_bd (mh_ends0 g1 t1 (by omega)) (fun f2 w2 _ h => hm_some ⟨h.1, Or.inr ⟨rfl, Or.inr ⟨q, ⟨hr, hsm⟩, h.2.1, h.2.2.1, h.2.2.2⟩⟩⟩)
/-- the word of a line -/
theorem mh_takes {n : Nat} {T : Nat → Int32} {N s a : Nat} {f : gb_F} {w : Int64} {p1 p2 : Int32} (hs : s ≤ 3) (e1 : p1.toInt = ((gb_fl s + 1 : Nat) : Int)) (e2 : p2.toInt = gb_fl (s + 1)) (h8 : f 0 8 = 0) (hx : gb_cx T N f) (ht : gb_tk T N f a) : gb_hm (ms_takes n f w p1 p2) (fun f2 _ r => gb_ke f f2 ∧ ((∃ l e : Nat, gb_word T N s a l e ∧ a < e ∧ e ≤ N ∧ r.toInt = ((l + 1 : Nat) : Int) ∧ f2 0 8 = 0 ∧ f2 1 = f 1 ∧ gb_rs T N f2 e) ∨ ((∀ l e, ¬ gb_word T N s a l e) ∧ r = 0 ∧ ¬ f2 0 8 = 0 ∧ f2 1 5 = 1 ∧ f2 1 6 = nI a))) := by
  unfold ms_takes
  rw [if_pos h8]
  have hN := hx.2.1
  obtain ⟨t1, t2, t3, t4⟩ := ht
  have bad : ∀ (g : gb_F) (u : Int64), g = f → (∀ l e, ¬ gb_word T N s a l e) → gb_hm (gb_bd (ms_ends n g u) (fun f_25 wl_26 _ => (some (f_25, wl_26, 0) : gb_MR Int32))) (fun f2 _ r => gb_ke f f2 ∧ ((∃ l e : Nat, gb_word T N s a l e ∧ a < e ∧ e ≤ N ∧ r.toInt = ((l + 1 : Nat) : Int) ∧ f2 0 8 = 0 ∧ f2 1 = f 1 ∧ gb_rs T N f2 e) ∨ ((∀ l e, ¬ gb_word T N s a l e) ∧ r = 0 ∧ ¬ f2 0 8 = 0 ∧ f2 1 5 = 1 ∧ f2 1 6 = nI a))) := by
    intro g u eg hno
    subst eg
    exact hm_bd (mh_ends0 h8 t1 (by omega)) (fun f2 w2 _ h => hm_some ⟨h.1, Or.inr ⟨hno, rfl, h.2.1, h.2.2.1, h.2.2.2⟩⟩)
  have h18 := gb_fl18 (s := s + 1) (by omega)
  by_cases c : f 0 5 = 3
  · rw [if_pos c]
    obtain ⟨e, y1, y2, y3, l, hl, hi, y7⟩ : ∃ e, gb_run (gb_lt1 T N) a e ∧ a < e ∧ (f 0 3).toInt = e ∧ ∃ l : Nat, l < 18 ∧ gb_isw T a e l ∧ (f 0 7).toInt = ((l + 1 : Nat) : Int) := by
      rcases t4 with y | y | y | y
      · rw [c] at y
        exact absurd y.2 (by decide)
      · obtain ⟨e, y1, y2, y3, y4⟩ := y
        rcases y4 with y4 | y4
        · obtain ⟨l, z1, z2, z3, z4⟩ := y4
          exact ⟨e, y1, y2, y3, l, z1, z2, z4⟩
        · rw [c] at y4
          exact absurd y4.2 (by decide)
      · obtain ⟨e, -, -, -, y4⟩ := y
        rcases y4 with y4 | y4
        · rw [c] at y4
          exact absurd y4.2 (by decide)
        · rw [c] at y4
          exact absurd y4.2.1 (by decide)
      · rcases y.2.2.2.2 with y4 | y4
        · rw [c] at y4
          exact absurd y4.2 (by decide)
        · rw [c] at y4
          exact absurd y4.2 (by decide)
    have heN : e ≤ N := by
      have := (y1.2.1 (e - 1) (by omega) (by omega)).1
      omega
    refine hm_bd mh_isIn (fun f1 w1 r1 h1 => ?_)
    obtain ⟨rfl, rfl, h1⟩ := h1
    rw [y7, e1, e2] at h1
    refine hm_if (fun d => bad _ _ rfl (fun l2 e2' hw => ?_)) (fun d => ?_)
    · rcases h1 with z | z
      · rw [d] at z
        exact absurd z.1 (by decide)
      · obtain ⟨v1, v2, v3, v4⟩ := hw
        have := run_uq v3 y1
        subst this
        have := isw_uq hl (by omega) hi v4
        subst this
        omega
    · rcases h1 with z | z
      · refine hm_lt (fun x ex => hm_bd (mh_advance hx y3 heN) (fun f2 w2 _ hA => hm_some ?_))
        obtain ⟨hv, q2, hr2, ht2⟩ := hA
        refine ⟨ke_v hv, Or.inl ⟨l, e, ⟨by omega, by omega, y1, hi⟩, y2, heN, by rw [ex]; exact y7, by rw [hv.2.2.2.1]; exact h8, hv.1, cx_v hx hv, q2, hr2, ht2⟩⟩
      · exact absurd z.1 d
  · rw [if_neg c]
    refine bad _ _ rfl (fun l e hw => ?_)
    obtain ⟨v1, v2, v3, v4⟩ := hw
    have hl : l < 18 := by omega
    have hlt : a < e := by
      have h1 := v4.1
      have h2 := gb_ln_le l hl
      omega
    have hla : gb_lt1 T N a := v3.2.1 _ (Nat.le_refl _) hlt
    rcases t4 with y | y | y | y
    · have := hla.1
      omega
    · obtain ⟨e', y1, -, -, y4⟩ := y
      have := run_uq y1 v3
      subst this
      rcases y4 with y4 | y4
      · obtain ⟨l', -, -, z3, -⟩ := y4
        exact c z3
      · exact y4.1 l hl v4
    · obtain ⟨e', y1, y2, -⟩ := y
      exact di_nb (y1.2.1 _ (Nat.le_refl _) y2) hla
    · exact y.2.1 hla
