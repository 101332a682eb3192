/-! BOTH SIDES: the tape's length, also in images, and which images there are -/
def gb_ia (σ : gb_S) (f : gb_F) : Prop := (∀ k, k < 3 → (σ.1 94 k = 0 ↔ f 2 k = 0)) ∧ σ.1 1 6 = f 1 4 ∧ ∀ k, k < 3 → σ.1 (25 + 23 * k) 6 = f 1 (992 * (k + 1) + 4)
theorem ia_q {σ σ2 : gb_S} {f f2 : gb_F} (h : gb_ia σ f) (hc : gb_fs gb_Wq σ σ2) (hm : gb_k12 (f 1) (f 2) f2) : gb_ia σ2 f2 := by
  obtain ⟨h1, h2, h3⟩ := h
  refine ⟨fun k hk => ?_, ?_, fun k hk => ?_⟩
  · rw [hc 94 (by unfold gb_Wq; omega), hm.2]
    exact h1 k hk
  · rw [hc 1 (by unfold gb_Wq; omega), hm.1]
    exact h2
  · rw [hc _ (by unfold gb_Wq; omega), hm.1]
    exact h3 k hk
theorem gb_len {σ : gb_S} (hT : gb_TC σ) : ∃ L : Nat, (σ.1 1 6).toInt = L ∧ L ≤ 600 := by
  have i : gb_iv 0 600 (σ.1 1 6) := gc_rd (c := 7) hT rfl ⟨Int.le_refl 0, Int.le_refl 600⟩
  have := i.1
  have := i.2
  exact ⟨(σ.1 1 6).toInt.toNat, by omega, by omega⟩
theorem ia_feed {σ σ2 : gb_S} {f f2 : gb_F} {w w2 : Int64} {p1 p2 p3 p4 p5 ra qa : Int32} (hT : gb_TC σ) (h : gb_ia σ f) (ec : cs_Face_feed gb_N σ p1 p2 p3 p4 p5 = some (σ2, ra)) (em : ms_feed gb_N f w p1 p2 p3 p4 p5 = some (f2, w2, qa)) : ra = qa ∧ gb_ia σ2 f2 := by
  obtain ⟨L, eL, hL⟩ := gb_len hT
  obtain ⟨h1, h2, h3⟩ := h
  have hc := ch_feed eL _ _ ec
  have hm := mh_feed (by rw [← h2]; exact eL) hL _ _ _ em
  rcases hc with ⟨c1, c2, c3⟩ | ⟨c1, c2, c3⟩
  · rcases hm with ⟨m1, m2, m3⟩ | ⟨m1, m2, m3⟩
    · subst c3
      subst m3
      exact ⟨c2.trans m2.symm, h1, h2, h3⟩
    · omega
  · rcases hm with ⟨m1, m2, m3⟩ | ⟨m1, m2, m3⟩
    · omega
    · have e : σ2.1 1 6 = f2 1 4 := gb_ieq (c3.2.1.trans m3.1.symm)
      refine ⟨c2.trans (e.trans m2.symm), fun k hk => ?_, e, fun k hk => ?_⟩
      · rw [c3.2.2.1 94 (by decide) (by decide), m3.2.2 2 (by decide)]
        exact h1 k hk
      · rw [c3.2.2.1 _ (by omega) (by omega), m3.2.1 _ (by omega), if_neg (by omega)]
        exact h3 k hk
theorem ia_end {σ σ2 : gb_S} {f f2 : gb_F} {w w2 : Int64} {p1 ra qa : Int32} (h : gb_ia σ f) (ec : cs_Face_end gb_N σ p1 = some (σ2, ra)) (em : ms_end gb_N f w p1 = some (f2, w2, qa)) : ra = qa ∧ gb_ia σ2 f2 := by
  obtain ⟨h1, h2, h3⟩ := h
  have hc := ch_end _ _ ec
  have hm := mh_end _ _ _ em
  rw [h2] at hc
  rcases hc with ⟨c1, c2, c3⟩ | ⟨c1, c2, c3, c4⟩
  · rcases hm with ⟨m1, m2, m3⟩ | ⟨m1, m2, m3, m4⟩
    · subst c3
      subst m3
      exact ⟨c2.trans m2.symm, h1, h2, h3⟩
    · omega
  · rcases hm with ⟨m1, m2, m3⟩ | ⟨m1, m2, m3, m4⟩
    · omega
    · refine ⟨c3.trans m3.symm, fun k hk => ?_, ?_, fun k hk => ?_⟩
      · rw [c4, m4, gb_sun (by decide), gb_un (by decide)]
        exact h1 k hk
      · rw [c4, m4, gb_sus, gb_us, pk_us, pk_us]
      · rw [c4, m4, gb_sun (by omega), gb_us, pk_un (by omega)]
        exact h3 k hk
theorem ia_text {σ σ2 : gb_S} {f f2 : gb_F} {w w2 : Int64} {p1 p2 ra qa : Int32} (hT : gb_TC σ) (hM : gb_TM f) (h : gb_ia σ f) (ec : cs_Face_text gb_N σ p1 p2 = some (σ2, ra)) (em : ms_text gb_N f w p1 p2 = some (f2, w2, qa)) : gb_ia σ2 f2 := by
  obtain ⟨h1, h2, h3⟩ := h
  obtain ⟨c1, c2⟩ := ch_textz hT _ _ ec
  obtain ⟨m1, m2, m3⟩ := mh_textz gb_NN0 hM _ _ _ em
  refine ⟨fun k hk => ?_, c1.trans m1.symm, fun k hk => ?_⟩
  · rw [c2 94 (by decide) (by decide), m3]
    exact h1 k hk
  · rw [c2 _ (by omega) (by omega), m2 _ (by omega)]
    exact h3 k hk
theorem gb_p3 {p : Int32} {k j : Nat} (h : p.toInt = k) (g : p.toInt = j) : k = j := by omega
theorem ia_image {σ σ2 : gb_S} {f f2 : gb_F} {w w2 : Int64} {p1 ra qa : Int32} (h : gb_ia σ f) (ec : cs_Face_image gb_N σ p1 = some (σ2, ra)) (em : ms_image gb_N f w p1 = some (f2, w2, qa)) : ra = qa ∧ gb_ia σ2 f2 := by
  obtain ⟨h1, h2, h3⟩ := h
  have hc := ch_image _ _ ec
  have hm := mh_image _ _ _ em
  rcases hc with ⟨c1, c2, c3⟩ | ⟨k, s2, c1, c2, c3, c4, c5⟩
  · rcases hm with ⟨m1, m2, m3⟩ | ⟨j, m1, m2, m3, m4, m5⟩
    · subst c2
      subst m2
      exact ⟨c1.trans m1.symm, h1, h2, h3⟩
    · omega
  · rcases hm with ⟨m1, m2, m3⟩ | ⟨j, m1, m2, m3, m4, m5⟩
    · omega
    · have : k = j := gb_p3 c2 m2
      subst this
      have q94 : σ2.1 94 = upd (σ.1 94) k 1 := by
        rw [c5, gb_sus, c4.1 94 (by omega)]
      have qn : ∀ q, q ≠ 94 → σ2.1 q = s2.1 q := fun q hq => by rw [c5, gb_sun hq]
      refine ⟨c1.trans m1.symm, fun i hi => ?_, ?_, fun i hi => ?_⟩
      · rw [q94, m5]
        by_cases e : i = k
        · rw [e, pk_us, pk_us]
        · rw [pk_un e, pk_un e]
          exact h1 i hi
      · rw [qn 1 (by decide), c4.1 1 (by omega), m4.2 4 (by omega)]
        exact h2
      · rw [qn _ (by omega)]
        by_cases e : i = k
        · rw [e, c4.2.2.2.2.1, m4.1 4 (by omega)]
          exact h2
        · rw [c4.1 _ (by omega), m4.2 _ (by omega)]
          exact h3 i hi
theorem ia_again {σ σ2 : gb_S} {f f2 : gb_F} {w w2 : Int64} {p1 ra qa : Int32} (h : gb_ia σ f) (ec : cs_Face_again gb_N σ p1 = some (σ2, ra)) (em : ms_again gb_N f w p1 = some (f2, w2, qa)) : ra = qa ∧ gb_ia σ2 f2 := by
  obtain ⟨h1, h2, h3⟩ := h
  have hc := ch_again _ _ ec
  have hm := mh_again _ _ _ em
  rcases hc with ⟨c1, c2, c3⟩ | ⟨k, c1, c2, c3, c4, c5⟩
  · rcases hm with ⟨m1, m2, m3⟩ | ⟨j, m1, m2, m3, m4, m5, m6⟩
    · subst c2
      subst m2
      exact ⟨c1.trans m1.symm, h1, h2, h3⟩
    · rcases c3 with c3 | c3 | ⟨k, d1, d2, d3⟩
      · omega
      · omega
      · have : k = j := gb_p3 d1 m2
        subst this
        exact absurd ((h1 k d2).mp d3) m4
  · rcases hm with ⟨m1, m2, m3⟩ | ⟨j, m1, m2, m3, m4, m5, m6⟩
    · rcases m3 with m3 | m3 | ⟨j, d1, d2, d3⟩
      · omega
      · omega
      · have : k = j := gb_p3 c2 d1
        subst this
        exact absurd ((h1 k d2).mpr d3) c4
    · have : k = j := gb_p3 c2 m2
      subst this
      refine ⟨c1.trans m1.symm, fun i hi => ?_, ?_, fun i hi => ?_⟩
      · rw [c5.1 94 (by omega), m6]
        exact h1 i hi
      · rw [c5.2.2.2.2.1, m5.1 4 (by omega)]
        exact h3 k c3
      · rw [c5.1 _ (by omega), m5.2 _ (by omega)]
        exact h3 i hi
