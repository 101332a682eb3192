/-! text(): both sides -/
set_option maxHeartbeats 4000000 in
theorem R_text {σ σ2 : gb_S} {f f2 : gb_F} {w w2 : Int64} {p1 p2 ra qa : Int32} (hT : gb_TC σ) (hM : gb_TM f) (hM2 : gb_TM f2) (h : gb_R σ f) (ec : cs_Face_text gb_N σ p1 p2 = some (σ2, ra)) (em : ms_text gb_N f w p1 p2 = some (f2, w2, qa)) : ra = qa ∧ gb_R σ2 f2 := by
  have hn := gb_NN0
  obtain ⟨N, eN, hN⟩ := gb_len hT
  have h22 : ∀ s, s < 4 → σ.1 22 s = f 1 s := fun s hs => h.1.1 s hs
  have h16 : σ.1 1 6 = f 1 4 := h.1.2.1
  have f4N : (f 1 4).toInt = N := by rw [← h16]; exact eN
  -- the state at the start of text()
  have s1e : (gb_s1t σ).1 1 6 = 0 ∧ (gb_s1t σ).1 1 7 = 0 ∧ (gb_s1t σ).1 1 8 = -1 := by
    rw [gb_s1t1]
    exact ⟨by rw [pk_un (by decide), pk_un (by decide), pk_us], by rw [pk_un (by decide), pk_us], by rw [pk_us]⟩
  have F1e : gb_F1 (f 1) 4 = 0 ∧ gb_F1 (f 1) 5 = 0 ∧ gb_F1 (f 1) 6 = -1 := by
    unfold gb_F1
    exact ⟨by rw [pk_un (by decide), pk_un (by decide), pk_us], by rw [pk_un (by decide), pk_us], by rw [pk_us]⟩
  have F1n : ∀ j, j ≠ 4 → j ≠ 5 → j ≠ 6 → gb_F1 (f 1) j = f 1 j := fun j a b c => by
    unfold gb_F1
    rw [pk_un c, pk_un b, pk_un a]
  have main : gb_hc (cs_Face_text gb_N σ p1 p2) (fun σ3 r => ∀ (f3 : gb_F) (w3 : Int64) (q : Int32), gb_TM f3 → ms_text gb_N f w p1 p2 = some (f3, w3, q) → r = q ∧ gb_R σ3 f3) := by
    refine ch_text hT (fun s es hs cond => ?_) (fun ref f3 w3 q hM3 e3 => ?_)
    · -- a text is read
      refine hc_mono (ch_read (p2 := p2) (f := f) hn es hs eN hN f4N (fun i hi => by rw [gb_s1tn (by decide)]; exact h.1.2.2.2.2.1 i hi) hM) (fun sR _ hR s3 r hct f3 w3 q hM3 e3 => ?_)
      obtain ⟨σ0, z0, hR⟩ := hR
      have key : gb_hm (ms_text gb_N f w p1 p2) (fun f4 w4 q4 => ∃ g : gb_F, gb_go s p2 f g ∧ gb_E1 gb_N N s p1 p2 σ0 sR g f4 w4 q4) := by
        refine mh_text hM (fun s' g w' es' hs' _ hg hz => ?_) (fun g w' g1 g2 ref => ?_)
        · have : s' = s := by omega
          subst this
          exact hm_mono (hR g w' hg hz) (fun f4 w4 q4 hh => ⟨g, hg, hh⟩)
        · exfalso
          rw [h22 s (by omega)] at cond
          rcases ref with z | ⟨s', e1, e2, z⟩
          · omega
          · have : s' = s := by omega
            subst this
            rcases cond with c | c <;> rcases z with z | z
            · omega
            · exact z.1 c.1
            · exact c.1 z.1
            · omega
      obtain ⟨g, hg, fE, wE, hX, e178⟩ := key _ _ _ e3
      obtain ⟨fr, ⟨k2, kj⟩, hI, hcase⟩ := hX
      obtain ⟨g1, g2, g3, g4, g5, g6, g7, g8⟩ := hg
      -- the reference's cells behind its loop
      have fEj : ∀ j, j ≠ 4 → j ≠ 5 → j ≠ 6 → fE 1 j = f 1 j := fun j a b c => by
        rw [kj j b c, g7]
        exact F1n j a b c
      have fE4 : fE 1 4 = 0 := by
        rw [kj 4 (by decide) (by decide), g7]
        exact F1e.1
      have fEs : fE 1 s = f 1 s := fEj s (by omega) (by omega) (by omega)
      have fE2 : fE 2 = f 2 := k2.trans g8
      have cond2 : (p2 = -1 ∧ (f 1 s).toInt < 2) ∨ (¬ p2 = -1 ∧ 0 ≤ p2.toInt ∧ p2.toInt < (f 1 s).toInt) := by
        rw [h22 s (by omega)] at cond
        exact cond
      have i2 := hl_0 hM.2 (s := s) (by omega)
      have i21 := i2.1
      have i22 := i2.2
      have hnt : gb_nt s p2 fE = if p2 = -1 then f 1 s else p2 := by
        unfold gb_nt
        rw [fEs]
      obtain ⟨k, hk, hk1⟩ : ∃ k : Nat, (gb_nt s p2 fE).toInt = k ∧ k ≤ 1 := by
        rw [hnt]
        rcases cond2 with c | c
        · rw [if_pos c.1]
          exact ⟨(f 1 s).toInt.toNat, by omega, by omega⟩
        · rw [if_neg c.1]
          exact ⟨p2.toInt.toNat, by omega, by omega⟩
      have htx := mh_text_178 es hs hk hk1 hI.2.2.2.2 _ _ _ e178
      -- the class's cells behind the Reader
      have cR : ∀ k, k ≠ 106 → k ≠ 107 → k ≠ 96 + 2 * s + 1 → k ≠ 1 → sR.1 k = σ.1 k := fun k a b c d => by
        rw [fr.2.1 k a b c, z0 k a c, gb_s1tn d]
      have cR1 : sR.1 1 = (gb_s1t σ).1 1 := by
        rw [fr.2.1 1 (by decide) (by decide) (by omega), z0 1 (by decide) (by omega)]
      have t6 : (gb_s2t sR).1 1 6 = 0 := by
        rw [gb_s2t1, pk_un (by decide), pk_un (by decide), cR1]
        exact s1e.1
      have t7 : (gb_s2t sR).1 1 7 = sR.1 106 4 := by rw [gb_s2t1, pk_un (by decide), pk_us]
      have t8 : (gb_s2t sR).1 1 8 = sR.1 106 5 := by rw [gb_s2t1, pk_us]
      have tn : ∀ k, 1 < k → k ≤ 94 → (gb_s2t sR).1 k = σ.1 k := fun k a b => by
        rw [gb_s2tn (by omega)]
        exact cR k (by omega) (by omega) (by omega) (by omega)
      rcases hcase with ⟨x1, x2, x3⟩ | ⟨x1, x2, x3, x4⟩ | ⟨x1, x2, x3, x4, x5, x6⟩
      · -- a fault
        rcases hct with ⟨c1, c2, c3⟩ | ⟨c1, -⟩
        · have hf5 : ¬ fE 1 5 = 0 := by rw [← x2]; exact x1
          rcases htx with ⟨-, t2, t3⟩ | ⟨t1, -⟩ | ⟨t1, -⟩
          · refine ⟨c2.trans t2.symm, ?_⟩
            rw [c3, t3]
            refine R_now hM h tn fE2 fEj (t6.trans fE4.symm) (t7.trans x2) (t8.trans x3)
          · exact absurd t1 hf5
          · exact absurd t1 hf5
        · exact absurd c1 x1
      · -- a PATH that was seen twice
        have c4n : ¬ sR.1 106 4 = 0 := by rw [x1]; decide
        rcases hct with ⟨c1, c2, c3⟩ | ⟨c1, -⟩
        · rcases htx with ⟨t1, -⟩ | ⟨-, -, t2, t3, t4⟩ | ⟨-, t1, -⟩
          · exact absurd x3 t1
          · refine ⟨c2.trans t2.symm, ?_⟩
            rw [c3]
            refine R_now hM h tn ((t4 2 (by decide)).trans fE2) (fun j a b c => ?_) ?_ ?_ ?_
            · rw [t3, pk_un c, pk_un b]
              exact fEj j a b c
            · rw [t3, pk_un (by decide), pk_un (by decide)]
              exact t6.trans fE4.symm
            · rw [t3, pk_un (by decide), pk_us]
              exact t7.trans x1
            · rw [t3, pk_us]
              exact t8.trans x2
          · exact absurd t1 x4
        · exact absurd c1 c4n
      · -- the text is told
        rcases hct with ⟨c1, -⟩ | ⟨-, m, c2, c3, c4, c5⟩
        · exact absurd x1 c1
        · rcases htx with ⟨t1, -⟩ | ⟨-, t1, -⟩ | ⟨-, -, t2, t3, t4⟩
          · exact absurd x3 t1
          · exact absurd x5 t1
          · have hrq : r = q := by
              rw [c2, t2, hnt]
              rcases cond2 with c | c
              · have e1 : (if p2 = -1 then (1 : Int32) else 0) = 1 := if_pos c.1
                rw [e1, if_neg (by decide), if_pos c.1]
                exact h22 s (by omega)
              · have e1 : (if p2 = -1 then (1 : Int32) else 0) = 0 := if_neg c.1
                rw [e1, if_pos rfl, if_neg c.1]
            have hmk : m = k := by
              have : r.toInt = k := by rw [hrq, t2]; exact hk
              omega
            subst hmk
            have h8 : fE 0 8 = 0 := Classical.byContradiction (fun z => hI.2.2.2.2 z x3)
            refine ⟨hrq, ?_⟩
            rw [c5]
            refine R_new (f := f) (fE := fE) (p2 := p2) (k := 0) hs hk1 hM hM3.2 h hI h8 (fun k a b _ => tn k a b) t6 (t7.trans x1) (t8.trans x2) ?_ fEj fE4 x3 x4 ((t4 2 (by decide)).trans fE2) t3 ?_ (h22 s (by omega)) ?_ ?_
            · rw [gb_s2tn (by omega), show 97 + 2 * s = 96 + 2 * s + 1 by omega]
              exact x6
            · by_cases c : p2 = -1
              · rw [if_pos c]
                exact ⟨fun z => absurd z (by decide), fun z => absurd c z⟩
              · rw [if_neg c]
                exact ⟨fun _ => c, fun _ => rfl⟩
            · intro c
              rw [hnt, if_pos c] at hk
              exact hk
            · intro c
              rw [hnt, if_neg c] at hk
              rcases cond2 with d | d
              · exact absurd d.1 c
              · omega
    · -- no text is read
      have key : gb_hm (ms_text gb_N f w p1 p2) (fun f4 _ q4 => (-2 : Int32) = q4 ∧ f4 1 = gb_F1 (f 1) ∧ f4 2 = f 2) := by
        refine mh_text hM (fun s g w' es hs cond _ _ => ?_) (fun g w' g1 g2 _ => ⟨rfl, g1, g2⟩)
        exfalso
        rcases ref with z | ⟨s', e1, e2, z⟩
        · omega
        · have : s' = s := by omega
          subst this
          rw [h22 s' (by omega)] at z
          rcases cond with c | c <;> rcases z with z | z
          · omega
          · exact z.1 c.1
          · exact c.1 z.1
          · omega
      obtain ⟨y1, y2, y3⟩ := key _ _ _ e3
      refine ⟨y1, R_now hM h (fun k a b => gb_s1tn (by omega)) y3 (fun j a b c => by rw [y2]; exact F1n j a b c) ?_ ?_ ?_⟩
      · rw [y2]
        exact s1e.1.trans F1e.1.symm
      · rw [y2]
        exact s1e.2.1.trans F1e.2.1.symm
      · rw [y2]
        exact s1e.2.2.trans F1e.2.2.symm
  exact main _ _ ec _ _ _ hM2 em
