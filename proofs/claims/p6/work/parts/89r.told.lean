/-! ALL THAT IS TOLD: the relation of both sides, kept by every call -/
def gb_RT (c : Nat → Nat → Int32) (F : Nat → Int32) : Prop := (∀ j, j < 4 → c 21 j = F j) ∧ c 0 6 = F 4 ∧ c 0 7 = F 5 ∧ c 0 8 = F 6 ∧ (∀ i, i < 600 → gb_byr (c 22 i) (F (10 + i))) ∧ ∀ s m, s < 4 → m < (F s).toInt.toNat → gb_RS s (c (gb_o s m)) (fun j => F (gb_pl s m + j))
def gb_R (σ : gb_S) (f : gb_F) : Prop := gb_RT (fun d => σ.1 (1 + d)) (f 1) ∧ (∀ k, k < 3 → (σ.1 94 k = 0 ↔ f 2 k = 0)) ∧ ∀ k, k < 3 → ¬ f 2 k = 0 → gb_RT (fun d => σ.1 (25 + 23 * k + d)) (fun i => f 1 (992 * (k + 1) + i))
def gb_rg (s : Nat) (R : Nat → Int32) : Prop := (s = 0 → gb_iv 0 5 (R 0) ∧ gb_iv 0 8 (R 1)) ∧ (s = 1 → gb_iv 0 24 (R 0)) ∧ (s = 2 → gb_iv 0 8 (R 0)) ∧ (s = 3 → gb_iv 0 5 (R 0))
theorem rs_ext {s : Nat} {G G2 R R2 : Nat → Int32} (hs : s ≤ 3) (h : gb_RS s G R) (rg : gb_rg s R) (hG : ∀ j, j < gb_gz s → G2 j = G j) (hR : ∀ j, j < gb_sz s → R2 j = R j) : gb_RS s G2 R2 := by
  obtain ⟨h0, h1, h2, h3⟩ := h
  have hs4 : s = 0 ∨ s = 1 ∨ s = 2 ∨ s = 3 := by omega
  rcases hs4 with rfl | rfl | rfl | rfl
  · have z : gb_gz 0 = 58 := rfl
    have z2 : gb_sz 0 = 58 := rfl
    obtain ⟨a1, a2, a3, a4⟩ := h1 rfl
    obtain ⟨⟨b1, b2⟩, b3, b4⟩ := rg.1 rfl
    refine ⟨by rw [hG 0 (by omega), hR 0 (by omega)]; exact h0, fun _ => ⟨by rw [hG 1 (by omega), hR 1 (by omega)]; exact a1, by rw [hG 2 (by omega), hR 2 (by omega)]; exact a2, fun p j p1 p2 => ?_, fun g j p1 p2 => ?_⟩, fun w => by omega, fun w => by omega⟩
    · rw [hR 0 (by omega)] at p1
      rw [hG _ (by omega), hR _ (by omega)]
      exact a3 p j p1 p2
    · rw [hR 1 (by omega)] at p1
      rw [hG _ (by omega), hR _ (by omega)]
      exact a4 g j p1 p2
  · have z : gb_gz 1 = 97 := rfl
    have z2 : gb_sz 1 = 97 := rfl
    have zw : gb_wid 1 = 4 := rfl
    obtain ⟨b1, b2⟩ := rg.2.1 rfl
    refine ⟨by rw [hG 0 (by omega), hR 0 (by omega)]; exact h0, fun w => by omega, fun _ i hi => ?_, fun w => by omega⟩
    rw [hR 0 (by omega), zw] at hi
    rw [hG _ (by omega), hR _ (by omega)]
    exact h2 (Or.inl rfl) i (by rw [zw]; exact hi)
  · have z : gb_gz 2 = 25 := rfl
    have z2 : gb_sz 2 = 25 := rfl
    have zw : gb_wid 2 = 3 := rfl
    obtain ⟨b1, b2⟩ := rg.2.2.1 rfl
    refine ⟨by rw [hG 0 (by omega), hR 0 (by omega)]; exact h0, fun w => by omega, fun _ i hi => ?_, fun w => by omega⟩
    rw [hR 0 (by omega), zw] at hi
    rw [hG _ (by omega), hR _ (by omega)]
    exact h2 (Or.inr rfl) i (by rw [zw]; exact hi)
  · have z : gb_gz 3 = 16 := rfl
    have z2 : gb_sz 3 = 11 := rfl
    obtain ⟨b1, b2⟩ := rg.2.2.2 rfl
    refine ⟨by rw [hG 0 (by omega), hR 0 (by omega)]; exact h0, fun w => by omega, fun w => by omega, fun _ k hk => ?_⟩
    rw [hR 0 (by omega)] at hk
    rw [hG _ (by omega), hG _ (by omega), hR _ (by omega), hR _ (by omega)]
    exact h3 rfl k hk
theorem rg_of {s : Nat} {R : Nat → Int32} (hs : s ≤ 3) (h : ∀ j, j < gb_sz s → gb_iv (gt_R s j).1 (gt_R s j).2 (R j)) : gb_rg s R := by
  refine ⟨fun z => ?_, fun z => ?_, fun z => ?_, fun z => ?_⟩
  · subst z
    exact ⟨gb_iw (h 0 (by decide)) (by decide), gb_iw (h 1 (by decide)) (by decide)⟩
  · subst z
    exact gb_iw (h 0 (by decide)) (by decide)
  · subst z
    exact gb_iw (h 0 (by decide)) (by decide)
  · subst z
    exact gb_iw (h 0 (by decide)) (by decide)
theorem rg_F {F : Nat → Int32} {s m q : Nat} (hT : gb_T1 F) (hs : s ≤ 3) (hm : m ≤ 1) : gb_rg s (fun j => F (992 * q + (gb_pl s m + j))) := by
  refine rg_of hs (fun j hj => ?_)
  have h := hT (992 * q + (gb_pl s m + j))
  have e : (992 * q + (gb_pl s m + j)) % 992 = (gb_pl s m + j) % 992 := by omega
  rw [e, (gt_1R hs hm hj).1] at h
  exact h
theorem hl_2 {F : Nat → Int32} {s q : Nat} (hT : gb_T1 F) (hs : s < 4) : gb_iv 0 2 (F (992 * q + s)) := by
  have h := hT (992 * q + s)
  have e : (992 * q + s) % 992 < 4 := by omega
  unfold gt_1 at h
  rw [if_pos e] at h
  exact h
/-- a copy of what is told is told alike -/
theorem rt_ext {c c2 : Nat → Nat → Int32} {F F2 : Nat → Int32} {q : Nat} {F0 : Nat → Int32} (hT : gb_T1 F0) (hF : ∀ i, F i = F0 (992 * q + i)) (h : gb_RT c F) (h1 : ∀ s m, s < 4 → m < 2 → ∀ j, j < gb_gz s → c2 (gb_o s m) j = c (gb_o s m) j) (h2 : ∀ j, j < 4 → c2 21 j = c 21 j) (h3 : ∀ j, j < 600 → c2 22 j = c 22 j) (h4 : c2 0 6 = c 0 6 ∧ c2 0 7 = c 0 7 ∧ c2 0 8 = c 0 8) (h5 : ∀ i, i < 992 → F2 i = F i) : gb_RT c2 F2 := by
  obtain ⟨a1, a2, a3, a4, a5, a6⟩ := h
  refine ⟨fun j hj => by rw [h2 j hj, h5 j (by omega)]; exact a1 j hj, by rw [h4.1, h5 4 (by omega)]; exact a2, by rw [h4.2.1, h5 5 (by omega)]; exact a3, by rw [h4.2.2, h5 6 (by omega)]; exact a4, fun i hi => by rw [h3 i hi, h5 _ (by omega)]; exact a5 i hi, fun s m hs hm => ?_⟩
  rw [h5 s (by omega)] at hm
  have i2 := hl_2 (q := q) hT hs
  rw [← hF s] at i2
  have i22 := i2.2
  have hm1 : m ≤ 1 := by omega
  refine rs_ext (by omega) (a6 s m hs hm) ?_ (h1 s m hs (by omega)) (fun j hj => ?_)
  · have := rg_F (q := q) hT (s := s) (m := m) (by omega) hm1
    have e : (fun j => F (gb_pl s m + j)) = (fun j => F0 (992 * q + (gb_pl s m + j))) := funext (fun j => hF _)
    rw [e]
    exact this
  · exact h5 _ (gt_1R (by omega) hm1 hj).2
theorem rt_cp {c c2 : Nat → Nat → Int32} {F : Nat → Int32} (he : ∀ d, d ≤ 22 → c2 d = c d) (hF : ∀ s, s < 4 → gb_iv 0 2 (F s)) (h : gb_RT c F) : gb_RT c2 F := by
  obtain ⟨a1, a2, a3, a4, a5, a6⟩ := h
  refine ⟨fun j hj => by rw [he 21 (by decide)]; exact a1 j hj, by rw [he 0 (by decide)]; exact a2, by rw [he 0 (by decide)]; exact a3, by rw [he 0 (by decide)]; exact a4, fun i hi => by rw [he 22 (by decide)]; exact a5 i hi, fun s m hs hm => ?_⟩
  have := (hF s hs).2
  rw [he _ (by unfold gb_o; omega)]
  exact a6 s m hs hm
theorem hl_0 {F : Nat → Int32} {s : Nat} (hT : gb_T1 F) (hs : s < 4) : gb_iv 0 2 (F s) := by
  have := hl_2 (q := 0) hT hs
  rw [show 992 * 0 + s = s by omega] at this
  exact this
theorem R_q {σ σ2 : gb_S} {f f2 : gb_F} (hM : gb_TM f) (h : gb_R σ f) (hc : gb_fs gb_Wq σ σ2) (hm : gb_k12 (f 1) (f 2) f2) : gb_R σ2 f2 := by
  obtain ⟨h1, h2, h3⟩ := h
  refine ⟨?_, fun k hk => ?_, fun k hk hn => ?_⟩
  · rw [hm.1]
    exact rt_cp (fun d hd => hc _ (by unfold gb_Wq; omega)) (fun s hs => hl_0 hM.2 hs) h1
  · rw [hc 94 (by unfold gb_Wq; omega), hm.2]
    exact h2 k hk
  · rw [hm.2] at hn
    rw [hm.1]
    exact rt_cp (fun d hd => hc _ (by unfold gb_Wq; omega)) (fun s hs => hl_2 hM.2 hs) (h3 k hk hn)
/-! bytes that are fed -/
theorem gb_byv (x : Int32) : gb_byr (vp_nar .byte (x.toInt8.toInt32)) (x &&& 255) := by
  have e1 : (vp_nar .byte (x.toInt8.toInt32)).toInt = x.toInt.bmod 256 := by
    have : vp_nar .byte (x.toInt8.toInt32) = x.toInt8.toInt32.toInt8.toInt32 := rfl
    rw [this, Int8.toInt_toInt32, Int32.toInt_toInt8, Int8.toInt_toInt32, Int32.toInt_toInt8]
    exact Int.bmod_bmod
  have e2 : (x &&& 255).toBitVec.toNat = x.toBitVec.toNat % 256 := by
    have : (255 : Int32).toBitVec.toNat = 2 ^ 8 - 1 := by decide
    rw [Int32.toBitVec_and, BitVec.toNat_and, this, Nat.and_two_pow_sub_one_eq_mod]
  have e3 : (x &&& 255).toInt = ((x.toBitVec.toNat % 256 : Nat) : Int) := by
    rw [← e2, ← Int32.toInt_toBitVec]
    exact BitVec.toInt_eq_toNat_of_lt (by omega)
  have e4 : x.toInt = x.toBitVec.toNat ∨ x.toInt = (x.toBitVec.toNat : Int) - 4294967296 := by
    have h4 := BitVec.toInt_eq_toNat_cond x.toBitVec
    rw [Int32.toInt_toBitVec] at h4
    split at h4
    · exact Or.inl h4
    · refine Or.inr (h4.trans ?_)
      rfl
  have e5 : x.toInt % 256 = ((x.toBitVec.toNat % 256 : Nat) : Int) := by omega
  have e6 : x.toInt.bmod 256 = if x.toInt % 256 < 128 then x.toInt % 256 else x.toInt % 256 - 256 := by
    rw [Int.bmod_def]
    rfl
  rw [e6] at e1
  by_cases c : x.toInt % 256 < 128
  · rw [if_pos c] at e1
    exact Or.inl ⟨by omega, gb_ieq (by omega)⟩
  · rw [if_neg c] at e1
    exact Or.inr ⟨by omega, by omega⟩
theorem R_feed {σ σ2 : gb_S} {f f2 : gb_F} {w w2 : Int64} {p1 p2 p3 p4 p5 ra qa : Int32} (hT : gb_TC σ) (hM : gb_TM f) (h : gb_R σ f) (ec : cs_Face_feed gb_N σ p1 p2 p3 p4 p5 = some (σ2, ra)) (em : ms_feed gb_N f w p1 p2 p3 p4 p5 = some (f2, w2, qa)) : ra = qa ∧ gb_R σ2 f2 := by
  obtain ⟨L, eL, hL⟩ := gb_len hT
  obtain ⟨h1, h2, h3⟩ := h
  have hl : σ.1 1 6 = f 1 4 := h1.2.1
  have hc := ch_feed eL _ _ ec
  have hm := mh_feed (by rw [← hl]; exact eL) hL _ _ _ em
  rcases hc with ⟨c1, c2, c3⟩ | ⟨c1, c2, c3⟩
  · rcases hm with ⟨m1, m2, m3⟩ | ⟨m1, m2, m3⟩
    · subst c3
      subst m3
      exact ⟨c2.trans m2.symm, h1, h2, h3⟩
    · omega
  · rcases hm with ⟨m1, m2, m3⟩ | ⟨m1, m2, m3⟩
    · omega
    · have e : σ2.1 1 6 = f2 1 4 := gb_ieq (c3.2.1.trans m3.1.symm)
      obtain ⟨k1, k2, k3, k4⟩ := c3
      obtain ⟨j1, j2, j3⟩ := m3
      have nf : ∀ i, i ≠ 4 → (i < 10 ∨ 610 ≤ i) → f2 1 i = f 1 i := fun i a b => by
        rw [j2 i a, if_neg (by omega)]
      obtain ⟨a1, a2, a3, a4, a5, a6⟩ := h1
      refine ⟨c2.trans (e.trans m2.symm), ⟨fun j hj => ?_, e, ?_, ?_, fun i hi => ?_, fun s m hs hm => ?_⟩, fun k hk => ?_, fun k hk hn => ?_⟩
      · show σ2.1 (1 + 21) j = _
        rw [k3 (1 + 21) (by decide) (by decide), nf j (by omega) (by omega)]
        exact a1 j hj
      · show σ2.1 1 7 = _
        rw [k1, pk_un (by decide), nf 5 (by decide) (by decide)]
        exact a3
      · show σ2.1 1 8 = _
        rw [k1, pk_un (by decide), nf 6 (by decide) (by decide)]
        exact a4
      · show gb_byr (σ2.1 23 i) _
        rw [k4 i, j2 _ (by omega)]
        by_cases q : L ≤ i ∧ i < L + 4 * 5
        · rw [if_pos q, if_pos (by omega)]
          have e1 : 10 + i - 10 - L = i - L := by omega
          rw [e1]
          exact gb_byv _
        · rw [if_neg q, if_neg (by omega)]
          exact a5 i hi
      · have hs0 : f2 1 s = f 1 s := nf s (by omega) (by omega)
        rw [hs0] at hm
        have i2 := (hl_0 hM.2 hs).2
        have hpl : 610 ≤ gb_pl s m := by
          unfold gb_pl
          repeat' split
          all_goals omega
        have e0 : (fun j => f2 1 (gb_pl s m + j)) = (fun j => f 1 (gb_pl s m + j)) := funext (fun j => nf _ (by omega) (by omega))
        show gb_RS s (σ2.1 (1 + gb_o s m)) _
        rw [e0, k3 _ (by unfold gb_o; omega) (by unfold gb_o; omega)]
        exact a6 s m hs hm
      · rw [k3 94 (by decide) (by decide), j3 2 (by decide)]
        exact h2 k hk
      · rw [j3 2 (by decide)] at hn
        have e0 : (fun i => f2 1 (992 * (k + 1) + i)) = (fun i => f 1 (992 * (k + 1) + i)) := funext (fun i => nf _ (by omega) (by omega))
        rw [e0]
        exact rt_cp (fun d hd => k3 _ (by omega) (by omega)) (fun s hs => hl_2 hM.2 hs) (h3 k hk hn)
theorem R_end {σ σ2 : gb_S} {f f2 : gb_F} {w w2 : Int64} {p1 ra qa : Int32} (hM : gb_TM f) (h : gb_R σ f) (ec : cs_Face_end gb_N σ p1 = some (σ2, ra)) (em : ms_end gb_N f w p1 = some (f2, w2, qa)) : ra = qa ∧ gb_R σ2 f2 := by
  obtain ⟨h1, h2, h3⟩ := h
  have hl : σ.1 1 6 = f 1 4 := h1.2.1
  have hc := ch_end _ _ ec
  have hm := mh_end _ _ _ em
  rw [hl] at hc
  rcases hc with ⟨c1, c2, c3⟩ | ⟨c1, c2, c3, c4⟩
  · rcases hm with ⟨m1, m2, m3⟩ | ⟨m1, m2, m3, m4⟩
    · subst c3
      subst m3
      exact ⟨c2.trans m2.symm, h1, h2, h3⟩
    · omega
  · rcases hm with ⟨m1, m2, m3⟩ | ⟨m1, m2, m3, m4⟩
    · omega
    · have nf : ∀ i, i ≠ 4 → f2 1 i = f 1 i := fun i a => by rw [m4, gb_us, pk_un a]
      have nc : ∀ k, k ≠ 1 → σ2.1 k = σ.1 k := fun k hk => by rw [c4, gb_sun hk]
      have n1 : ∀ j, j ≠ 6 → σ2.1 1 j = σ.1 1 j := fun j hj => by rw [c4, gb_sus, pk_un hj]
      have f22 : f2 2 = f 2 := by rw [m4, gb_un (by decide)]
      obtain ⟨a1, a2, a3, a4, a5, a6⟩ := h1
      refine ⟨c3.trans m3.symm, ⟨fun j hj => ?_, ?_, ?_, ?_, fun i hi => ?_, fun s m hs hm => ?_⟩, fun k hk => ?_, fun k hk hn => ?_⟩
      · show σ2.1 (1 + 21) j = _
        rw [nc _ (by decide), nf j (by omega)]
        exact a1 j hj
      · show σ2.1 1 6 = _
        rw [c4, m4, gb_sus, gb_us, pk_us, pk_us]
      · show σ2.1 1 7 = _
        rw [n1 7 (by decide), nf 5 (by decide)]
        exact a3
      · show σ2.1 1 8 = _
        rw [n1 8 (by decide), nf 6 (by decide)]
        exact a4
      · show gb_byr (σ2.1 (1 + 22) i) _
        rw [nc _ (by decide), nf _ (by omega)]
        exact a5 i hi
      · rw [nf s (by omega)] at hm
        have hpl : 610 ≤ gb_pl s m := by
          unfold gb_pl
          repeat' split
          all_goals omega
        have e0 : (fun j => f2 1 (gb_pl s m + j)) = (fun j => f 1 (gb_pl s m + j)) := funext (fun j => nf _ (by omega))
        show gb_RS s (σ2.1 (1 + gb_o s m)) _
        rw [e0, nc _ (by unfold gb_o; omega)]
        exact a6 s m hs hm
      · rw [nc 94 (by decide), f22]
        exact h2 k hk
      · rw [f22] at hn
        have e0 : (fun i => f2 1 (992 * (k + 1) + i)) = (fun i => f 1 (992 * (k + 1) + i)) := funext (fun i => nf _ (by omega))
        rw [e0]
        exact rt_cp (fun d hd => nc _ (by omega)) (fun s hs => hl_2 hM.2 hs) (h3 k hk hn)
theorem R_image {σ σ2 : gb_S} {f f2 : gb_F} {w w2 : Int64} {p1 ra qa : Int32} (hM : gb_TM f) (h : gb_R σ f) (ec : cs_Face_image gb_N σ p1 = some (σ2, ra)) (em : ms_image gb_N f w p1 = some (f2, w2, qa)) : ra = qa ∧ gb_R σ2 f2 := by
  have h0 := h
  obtain ⟨h1, h2, h3⟩ := h
  have hc := ch_image _ _ ec
  have hm := mh_image _ _ _ em
  rcases hc with ⟨c1, c2, c3⟩ | ⟨k, s2, c1, c2, c3, c4, c5⟩
  · rcases hm with ⟨m1, m2, m3⟩ | ⟨j, m1, m2, m3, m4, m5⟩
    · subst c2
      subst m2
      exact ⟨c1.trans m1.symm, h0⟩
    · omega
  · rcases hm with ⟨m1, m2, m3⟩ | ⟨j, m1, m2, m3, m4, m5⟩
    · omega
    · have : k = j := gb_p3 c2 m2
      subst this
      have q94 : σ2.1 94 = upd (σ.1 94) k 1 := by
        rw [c5, gb_sus, c4.1 94 (by omega)]
      have qn : ∀ q, q ≠ 94 → σ2.1 q = s2.1 q := fun q hq => by rw [c5, gb_sun hq]
      refine ⟨c1.trans m1.symm, ?_, fun i hi => ?_, fun i hi hn => ?_⟩
      · refine rt_ext (q := 0) (F0 := f 1) hM.2 (fun i => by rw [show 992 * 0 + i = i by omega]) h1 (fun s m hs hm j hj => ?_) (fun j hj => ?_) (fun j hj => ?_) ⟨?_, ?_, ?_⟩ (fun i hi => m4.2 i (by omega))
        · show σ2.1 (1 + gb_o s m) j = σ.1 (1 + gb_o s m) j
          rw [qn _ (by unfold gb_o; omega), c4.1 _ (by unfold gb_o; omega)]
        · show σ2.1 (1 + 21) j = σ.1 (1 + 21) j
          rw [qn _ (by decide), c4.1 _ (by omega)]
        · show σ2.1 (1 + 22) j = σ.1 (1 + 22) j
          rw [qn _ (by decide), c4.1 _ (by omega)]
        · show σ2.1 1 6 = σ.1 1 6
          rw [qn _ (by decide), c4.1 _ (by omega)]
        · show σ2.1 1 7 = σ.1 1 7
          rw [qn _ (by decide), c4.1 _ (by omega)]
        · show σ2.1 1 8 = σ.1 1 8
          rw [qn _ (by decide), c4.1 _ (by omega)]
      · rw [q94, m5]
        by_cases e : i = k
        · rw [e, pk_us, pk_us]
        · rw [pk_un e, pk_un e]
          exact h2 i hi
      · by_cases e : i = k
        · subst e
          refine rt_ext (q := 0) (F0 := f 1) hM.2 (fun i => by rw [show 992 * 0 + i = i by omega]) h1 (fun s m hs hm j hj => ?_) (fun j hj => ?_) (fun j hj => ?_) ⟨?_, ?_, ?_⟩ (fun j hj => m4.1 j hj)
          · show σ2.1 (25 + 23 * i + gb_o s m) j = σ.1 (1 + gb_o s m) j
            rw [qn _ (by unfold gb_o; omega)]
            exact c4.2.1 s m hs hm j hj
          · show σ2.1 (25 + 23 * i + 21) j = σ.1 (1 + 21) j
            rw [qn _ (by omega)]
            exact c4.2.2.1 j hj
          · show σ2.1 (25 + 23 * i + 22) j = σ.1 (1 + 22) j
            rw [qn _ (by omega)]
            exact c4.2.2.2.1 j hj
          · show σ2.1 (25 + 23 * i + 0) 6 = σ.1 1 6
            rw [qn _ (by omega), Nat.add_zero]
            exact c4.2.2.2.2.1
          · show σ2.1 (25 + 23 * i + 0) 7 = σ.1 1 7
            rw [qn _ (by omega), Nat.add_zero]
            exact c4.2.2.2.2.2.1
          · show σ2.1 (25 + 23 * i + 0) 8 = σ.1 1 8
            rw [qn _ (by omega), Nat.add_zero]
            exact c4.2.2.2.2.2.2
        · rw [m5, pk_un e] at hn
          have e0 : (fun j => f2 1 (992 * (i + 1) + j)) = (fun j => f2 1 (992 * (i + 1) + j)) := rfl
          refine rt_ext (q := i + 1) (F0 := f 1) hM.2 (fun _ => rfl) (h3 i hi hn) (fun s m hs hm j hj => ?_) (fun j hj => ?_) (fun j hj => ?_) ⟨?_, ?_, ?_⟩ (fun j hj => m4.2 _ (by omega))
          · show σ2.1 (25 + 23 * i + gb_o s m) j = σ.1 (25 + 23 * i + gb_o s m) j
            rw [qn _ (by unfold gb_o; omega), c4.1 _ (by unfold gb_o; omega)]
          · show σ2.1 (25 + 23 * i + 21) j = σ.1 (25 + 23 * i + 21) j
            rw [qn _ (by omega), c4.1 _ (by omega)]
          · show σ2.1 (25 + 23 * i + 22) j = σ.1 (25 + 23 * i + 22) j
            rw [qn _ (by omega), c4.1 _ (by omega)]
          · show σ2.1 (25 + 23 * i + 0) 6 = σ.1 (25 + 23 * i + 0) 6
            rw [qn _ (by omega), c4.1 _ (by omega)]
          · show σ2.1 (25 + 23 * i + 0) 7 = σ.1 (25 + 23 * i + 0) 7
            rw [qn _ (by omega), c4.1 _ (by omega)]
          · show σ2.1 (25 + 23 * i + 0) 8 = σ.1 (25 + 23 * i + 0) 8
            rw [qn _ (by omega), c4.1 _ (by omega)]
theorem R_again {σ σ2 : gb_S} {f f2 : gb_F} {w w2 : Int64} {p1 ra qa : Int32} (hM : gb_TM f) (h : gb_R σ f) (ec : cs_Face_again gb_N σ p1 = some (σ2, ra)) (em : ms_again gb_N f w p1 = some (f2, w2, qa)) : ra = qa ∧ gb_R σ2 f2 := by
  have h0 := h
  obtain ⟨h1, h2, h3⟩ := h
  have hc := ch_again _ _ ec
  have hm := mh_again _ _ _ em
  rcases hc with ⟨c1, c2, c3⟩ | ⟨k, c1, c2, c3, c4, c5⟩
  · rcases hm with ⟨m1, m2, m3⟩ | ⟨j, m1, m2, m3, m4, m5, m6⟩
    · subst c2
      subst m2
      exact ⟨c1.trans m1.symm, h0⟩
    · rcases c3 with c3 | c3 | ⟨k, d1, d2, d3⟩
      · omega
      · omega
      · have : k = j := gb_p3 d1 m2
        subst this
        exact absurd ((h2 k d2).mp d3) m4
  · rcases hm with ⟨m1, m2, m3⟩ | ⟨j, m1, m2, m3, m4, m5, m6⟩
    · rcases m3 with m3 | m3 | ⟨j, d1, d2, d3⟩
      · omega
      · omega
      · have : k = j := gb_p3 c2 d1
        subst this
        exact absurd ((h2 k d2).mpr d3) c4
    · have : k = j := gb_p3 c2 m2
      subst this
      refine ⟨c1.trans m1.symm, ?_, fun i hi => ?_, fun i hi hn => ?_⟩
      · refine rt_ext (q := k + 1) (F0 := f 1) hM.2 (fun _ => rfl) (h3 k c3 m4) (fun s m hs hm j hj => ?_) (fun j hj => ?_) (fun j hj => ?_) ⟨?_, ?_, ?_⟩ (fun j hj => m5.1 j hj)
        · show σ2.1 (1 + gb_o s m) j = σ.1 (25 + 23 * k + gb_o s m) j
          exact c5.2.1 s m hs hm j hj
        · show σ2.1 (1 + 21) j = σ.1 (25 + 23 * k + 21) j
          exact c5.2.2.1 j hj
        · show σ2.1 (1 + 22) j = σ.1 (25 + 23 * k + 22) j
          exact c5.2.2.2.1 j hj
        · show σ2.1 1 6 = σ.1 (25 + 23 * k + 0) 6
          exact c5.2.2.2.2.1
        · show σ2.1 1 7 = σ.1 (25 + 23 * k + 0) 7
          exact c5.2.2.2.2.2.1
        · show σ2.1 1 8 = σ.1 (25 + 23 * k + 0) 8
          exact c5.2.2.2.2.2.2
      · rw [c5.1 94 (by omega), m6]
        exact h2 i hi
      · rw [m6] at hn
        have e0 : (fun j => f2 1 (992 * (i + 1) + j)) = (fun j => f 1 (992 * (i + 1) + j)) := funext (fun j => m5.2 _ (by omega))
        rw [e0]
        exact rt_cp (fun d hd => c5.1 _ (by omega)) (fun s hs => hl_2 hM.2 hs) (h3 i hi hn)
