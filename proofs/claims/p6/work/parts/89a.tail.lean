/-! THE REFERENCE's text(): what stands behind the reading of lines, exactly -/
def gb_cpF (F R : Nat → Int32) (P i : Nat) : Nat → Int32 := fun j => if P ≤ j ∧ j < P + i then R (j - P) else F j
theorem gb_cpF0 {F R : Nat → Int32} {P : Nat} : gb_cpF F R P 0 = F := by
  funext j
  unfold gb_cpF
  rw [if_neg (by omega)]
theorem gb_cpF1 {F R : Nat → Int32} {P i : Nat} : upd (gb_cpF F R P i) (P + i) (R i) = gb_cpF F R P (i + 1) := by
  funext j
  by_cases h : j = P + i
  · rw [h, pk_us]
    unfold gb_cpF
    rw [if_pos (by omega), Nat.add_sub_cancel_left]
  · rw [pk_un h]
    unfold gb_cpF
    by_cases h2 : P ≤ j ∧ j < P + i
    · rw [if_pos h2, if_pos (by omega)]
    · rw [if_neg h2, if_neg (by omega)]
theorem mh_text_248 {n : Nat} {F0 : Nat → Int32} {f0 : gb_F} {v1 v3 : Int32} {s k : Nat} (h1 : v1.toInt = s) (hs : s ≤ 3) (h3 : v3.toInt = k) (hk : k ≤ 1) : ∀ (mm : Nat) (f : gb_F) (w : Int64) (v4 : Int32) (i : Nat), v4.toInt = i → i ≤ gb_sz s → f 1 = gb_cpF F0 (f0 3) (gb_pl s k) i → (∀ q, q ≠ 1 → f q = f0 q) → gb_hm (ms_text_248 n mm f w v1 v3 v4) (fun f2 _ r => r = v3 ∧ f2 1 = gb_cpF F0 (f0 3) (gb_pl s k) (gb_sz s) ∧ ∀ q, q ≠ 1 → f2 q = f0 q) := by
  intro mm
  induction mm with
  | zero =>
    intros
    exact hm_none
  | succ mm ih =>
    intro f w v4 i e4 hi hf hq
    unfold ms_text_248
    refine hm_bd (hm_of (mt_sizeOfE h1 hs)) (fun g w2 r hr => ?_)
    obtain ⟨rfl, rfl, hr⟩ := hr
    refine hm_if (fun c => ?_) (fun c => ?_)
    · have := gi_le c
      have hi2 : i = gb_sz s := by omega
      rw [hi2] at hf
      exact hm_some ⟨rfl, hf, hq⟩
    · have := gi_nle c
      refine hm_bd (hm_of (mt_placeOfE h1 hs h3 hk)) (fun g2 w3 p hp => ?_)
      obtain ⟨rfl, rfl, hp⟩ := hp
      obtain ⟨-, q2⟩ := gt_1R hs hk (i := i) (by omega)
      have ep : (p + v4).toInt = ((gb_pl s k + i : Nat) : Int) := by
        rw [gb_tadd (by rw [hp, e4]; omega) (by rw [hp, e4]; omega), hp, e4]
        omega
      refine hm_ck (fun _ _ => hm_lt (fun x ex => hm_ck (fun _ _ => hm_lt (fun f2 e2 => hm_lt (fun y ey => ?_)))))
      refine ih f2 w3 y (i + 1) (by rw [ey]; exact gi_s1 e4 (by omega)) (by omega) ?_ (fun q hne => ?_)
      · rw [e2, gb_us, gi_tn ep, ex, gi_tn e4, hf, hq 3 (by decide)]
        exact gb_cpF1
      · rw [e2, gb_un hne]
        exact hq q hne
/-! the number of the text: the next one, or the one told -/
def gb_nt (s : Nat) (v2 : Int32) (f : gb_F) : Int32 := if v2 = -1 then f 1 s else v2
def gb_hd (s : Nat) (v2 : Int32) (f : gb_F) : Nat → Int32 := if v2 = -1 then upd (f 1) s (f 1 s + 1) else f 1
theorem mh_text_203 {n : Nat} {f : gb_F} {w : Int64} {v1 v2 : Int32} {s k : Nat} (h1 : v1.toInt = s) (hs : s ≤ 3) (hk : (gb_nt s v2 f).toInt = k) (hk1 : k ≤ 1) : gb_hm (ms_text_203 n f w v1 v2) (fun f2 _ r => (¬ f 1 5 = 0 ∧ r = -1 ∧ f2 = f) ∨ (f 1 5 = 0 ∧ r = gb_nt s v2 f ∧ f2 1 = gb_cpF (gb_hd s v2 f) (f 3) (gb_pl s k) (gb_sz s) ∧ ∀ q, q ≠ 1 → f2 q = f q)) := by
  unfold ms_text_203
  have t5 : Int32.toNatClampNeg 5 = 5 := by decide
  have t1 := gi_tn h1
  have z : (0 : Int32).toInt = ((0 : Nat) : Int) := by decide
  rw [t5]
  refine hm_lt (fun x ex => hm_if (fun c => ?_) (fun c => ?_))
  · rw [ex] at c
    have go : ∀ t0 : Int32, t0 = gb_nt s v2 f → gb_hm (ms_text_229 n f w v1 v2 t0) (fun f2 _ r => r = gb_nt s v2 f ∧ f2 1 = gb_cpF (gb_hd s v2 f) (f 3) (gb_pl s k) (gb_sz s) ∧ ∀ q, q ≠ 1 → f2 q = f q) := by
      intro t0 et
      unfold ms_text_229
      rw [t1]
      refine hm_if (fun d => hm_ck (fun _ _ => hm_lt (fun y ey => hm_ck (fun _ _ => hm_lt (fun g eg => ?_))))) (fun d => ?_)
      · have g3 : g 3 = f 3 := by
          rw [eg]
          exact gb_un (by decide)
        have hh : gb_hd s v2 f = g 1 := by
          unfold gb_hd
          rw [if_pos d, eg, gb_us, ey]
        refine hm_mono (mh_text_248 (F0 := g 1) (f0 := g) h1 hs (by rw [et]; exact hk) hk1 n g w 0 0 z (Nat.zero_le _) gb_cpF0.symm (fun _ _ => rfl)) (fun f4 _ r h => ⟨h.1.trans et, ?_, fun q hq => ?_⟩)
        · rw [h.2.1, hh, g3]
        · rw [h.2.2 q hq, eg]
          exact gb_un hq
      · have hh : gb_hd s v2 f = f 1 := if_neg d
        refine hm_mono (mh_text_248 (F0 := f 1) (f0 := f) h1 hs (by rw [et]; exact hk) hk1 n f w 0 0 z (Nat.zero_le _) gb_cpF0.symm (fun _ _ => rfl)) (fun f4 _ r h => ⟨h.1.trans et, ?_, h.2.2⟩)
        rw [h.2.1, hh]
    refine hm_if (fun d => hm_ck (fun _ _ => hm_lt (fun y ey => ?_))) (fun d => ?_)
    · rw [t1] at ey
      refine hm_mono (go y ?_) (fun _ _ _ h => Or.inr ⟨c, h⟩)
      unfold gb_nt
      rw [if_pos d, ey]
    · refine hm_mono (go v2 ?_) (fun _ _ _ h => Or.inr ⟨c, h⟩)
      unfold gb_nt
      rw [if_neg d]
  · rw [ex] at c
    exact hm_some (Or.inl ⟨c, rfl, rfl⟩)
/-! what text() leaves: by the state f behind the lines -/
def gb_txd (s k : Nat) (v2 : Int32) (f f2 : gb_F) (r : Int32) : Prop := (¬ f 1 5 = 0 ∧ r = -1 ∧ f2 = f) ∨ (f 1 5 = 0 ∧ ¬ f 0 9 = 0 ∧ r = -1 ∧ f2 1 = upd (upd (f 1) 5 4) 6 (f 0 4) ∧ ∀ q, q ≠ 1 → f2 q = f q) ∨ (f 1 5 = 0 ∧ f 0 9 = 0 ∧ r = gb_nt s v2 f ∧ f2 1 = gb_cpF (gb_hd s v2 f) (f 3) (gb_pl s k) (gb_sz s) ∧ ∀ q, q ≠ 1 → f2 q = f q)
theorem mh_text_178 {n : Nat} {f : gb_F} {w : Int64} {v1 v2 : Int32} {s k : Nat} (h1 : v1.toInt = s) (hs : s ≤ 3) (hk : (gb_nt s v2 f).toInt = k) (hk1 : k ≤ 1) (hw : ¬ f 0 8 = 0 → ¬ f 1 5 = 0) : gb_hm (ms_text_178 n f w v1 v2) (fun f2 _ r => gb_txd s k v2 f f2 r) := by
  unfold ms_text_178
  have t5 : Int32.toNatClampNeg 5 = 5 := by decide
  have t6 : Int32.toNatClampNeg 6 = 6 := by decide
  rw [t5]
  refine hm_lt (fun x ex => hm_if (fun c => ?_) (fun c => ?_))
  · rw [ex] at c
    refine hm_if (fun d => ?_) (fun d => ?_)
    · refine hm_mono (mh_text_203 h1 hs hk hk1) (fun f2 _ r h => ?_)
      rcases h with h | h
      · exact absurd c h.1
      · exact Or.inr (Or.inr ⟨c, d, h.2⟩)
    · have h8 : f 0 8 = 0 := Classical.byContradiction (fun q => hw q c)
      refine hm_bd (P := fun f2 _ _ => f2 1 = upd (upd (f 1) 5 4) 6 (f 0 4) ∧ ∀ q, q ≠ 1 → f2 q = f q) ?_ (fun g w2 _ h => ?_)
      · unfold ms_also
        rw [if_pos h8, t5, t6]
        refine hm_lt (fun y ey => ?_)
        rw [if_pos (ey.trans c)]
        refine hm_lt (fun g eg => hm_lt (fun g2 eg2 => hm_some ⟨?_, fun q hq => ?_⟩))
        · rw [eg2, gb_us, eg, gb_us]
        · rw [eg2, gb_un hq, eg, gb_un hq]
      · have g5 : g 1 5 = 4 := by
          rw [h.1, pk_un (by decide), pk_us]
        have gn : gb_nt s v2 g = gb_nt s v2 f := by
          unfold gb_nt
          rw [h.1, pk_un (by omega), pk_un (by omega)]
        refine hm_mono (mh_text_203 h1 hs (by rw [gn]; exact hk) hk1) (fun f2 _ r h2 => ?_)
        rcases h2 with h2 | h2
        · refine Or.inr (Or.inl ⟨c, d, h2.2.1, ?_, fun q hq => ?_⟩)
          · rw [h2.2.2]
            exact h.1
          · rw [h2.2.2]
            exact h.2 q hq
        · rw [g5] at h2
          exact absurd h2.1 (by decide)
  · rw [ex] at c
    refine hm_mono (mh_text_203 h1 hs hk hk1) (fun f2 _ r h => ?_)
    rcases h with h | h
    · exact Or.inl h
    · exact absurd h.1 c
/-! text() leaves the tape empty, the images and what is kept as they were -/
def gb_zz (F0 F2 : Nat → Int32) (g : gb_F) : Prop := g 1 4 = 0 ∧ (∀ j, 992 ≤ j → g 1 j = F0 j) ∧ g 2 = F2
theorem gb_zz_t {F0 F2 : Nat → Int32} {s k : Nat} {v2 : Int32} {f f2 : gb_F} {r : Int32} (hs : s ≤ 3) (hk : k ≤ 1) (h : gb_txd s k v2 f f2 r) (g : gb_zz F0 F2 f) : gb_zz F0 F2 f2 := by
  obtain ⟨g1, g2, g3⟩ := g
  rcases h with h | h | h
  · rw [h.2.2]
    exact ⟨g1, g2, g3⟩
  · obtain ⟨-, -, -, h1, h2⟩ := h
    refine ⟨?_, fun j hj => ?_, (h2 2 (by decide)).trans g3⟩
    · rw [h1, pk_un (by decide), pk_un (by decide)]
      exact g1
    · rw [h1, pk_un (by omega), pk_un (by omega)]
      exact g2 j hj
  · obtain ⟨-, -, -, h1, h2⟩ := h
    have hpl : 610 ≤ gb_pl s k := by
      unfold gb_pl
      repeat' split
      all_goals omega
    have hin : ∀ j, gb_pl s k ≤ j → j < gb_pl s k + gb_sz s → j < 992 := fun j a b => by
      have := (gt_1R hs hk (i := j - gb_pl s k) (by omega)).2
      omega
    have hh : ∀ j, 4 ≤ j → gb_hd s v2 f j = f 1 j := fun j hj => by
      unfold gb_hd
      split
      · exact pk_un (by omega)
      · rfl
    refine ⟨?_, fun j hj => ?_, (h2 2 (by decide)).trans g3⟩
    · rw [h1]
      unfold gb_cpF
      rw [if_neg (by omega), hh 4 (by omega)]
      exact g1
    · rw [h1]
      unfold gb_cpF
      rw [if_neg (fun q => by have := hin j q.1 q.2; omega), hh j (by omega)]
      exact g2 j hj
theorem gb_zz_sm {F0 F2 : Nat → Int32} : gb_sm (gb_zz F0 F2) := ⟨fun f F h => h, fun f k F hk h => by
  unfold gb_zz
  rw [gb_un (by omega), gb_un (by omega)]
  exact h⟩
theorem gb_zz_s5 {F0 F2 : Nat → Int32} : gb_w5c (gb_zz F0 F2) := fun f v h => by
  have t5 : Int32.toNatClampNeg 5 = 5 := by decide
  have t6 : Int32.toNatClampNeg 6 = 6 := by decide
  obtain ⟨h1, h2, h3⟩ := h
  rw [t5, t6]
  refine ⟨⟨?_, fun j hj => ?_, h3⟩, ⟨?_, fun j hj => ?_, h3⟩⟩
  · rw [gb_us, pk_un (by decide)]
    exact h1
  · rw [gb_us, pk_un (by omega)]
    exact h2 j hj
  · rw [gb_us, pk_un (by decide)]
    exact h1
  · rw [gb_us, pk_un (by omega)]
    exact h2 j hj
theorem gb_Ek {s : Nat} {v2 : Int32} {f : gb_F} (hT : gb_TM f) (hs : s ≤ 3) (hE : gb_E s v2 f) : ∃ k : Nat, (gb_nt s v2 f).toInt = k ∧ k ≤ 1 := by
  unfold gb_nt
  by_cases c : v2 = -1
  · rw [if_pos c]
    have h1 := hE.1 c
    have h2 := (gb_r1 (f := f) (j := s) (lo := 0) (hi := 2) hT (by
      have : s % 992 < 4 := by omega
      unfold gt_1
      rw [if_pos this]
      decide)).1
    exact ⟨(f 1 s).toInt.toNat, by omega, by omega⟩
  · rw [if_neg c]
    have h := hE.2 c
    have := h.1
    have := h.2
    exact ⟨v2.toInt.toNat, by omega, by omega⟩
theorem mh_text_122z {n : Nat} (hn : gb_N ≤ n) {F0 F2 : Nat → Int32} {v1 v2 : Int32} {s : Nat} (h1 : v1.toInt = s) (hs : s ≤ 3) : ∀ (mm : Nat) (f : gb_F) (w : Int64), gb_I s f → gb_E s v2 f → gb_zz F0 F2 f → gb_hm (ms_text_122 n mm f w v1 v2) (fun f2 _ _ => gb_zz F0 F2 f2) := by
  intro mm
  induction mm with
  | zero =>
    intros
    exact hm_none
  | succ mm ih =>
    intro f w hI hE hz
    obtain ⟨k, hk, hk1⟩ := gb_Ek hI.1 hs hE
    have last : gb_hm (ms_text_178 n f w v1 v2) (fun f2 _ _ => gb_zz F0 F2 f2) := hm_mono (mh_text_178 h1 hs hk hk1 hI.2.2.2.2) (fun _ _ _ h => gb_zz_t hs hk1 h hz)
    rw [ms_text_122]
    refine hm_if (fun c => hm_if (fun _ => last) (fun _ => ?_)) (fun _ => last)
    have st : ∀ (f2 : gb_F) (w2 : Int64), gb_L s f f2 → gb_zz F0 F2 f2 → gb_hm (ms_text_122 n mm f2 w2 v1 v2) (fun f2 _ _ => gb_zz F0 F2 f2) := fun f2 w2 h hz2 => ih f2 w2 h.1 (gb_E_keep hs hE h.2.1) hz2
    rcases gb_so h1 hs with ⟨e, rfl⟩ | ⟨e, rfl⟩ | ⟨e, rfl⟩ | ⟨e, rfl⟩
    · rw [if_pos e]
      exact hm_bd (hm_and (hm_of (mi_borderLine hn hI)) (hm_pm (cm_borderLine gb_zz_sm gb_zz_s5 hz))) (fun f2 w2 _ h => st f2 w2 h.1 h.2)
    · rw [if_neg (by rw [e]; decide), if_pos e]
      exact hm_bd (hm_and (hm_of (mi_deedLine hn hI)) (hm_pm (cm_deedLine gb_zz_sm gb_zz_s5 hz))) (fun f2 w2 _ h => st f2 w2 h.1 h.2)
    · rw [if_neg (by rw [e]; decide), if_neg (by rw [e]; decide), if_pos e]
      exact hm_bd (hm_and (hm_of (mi_termLine hn hI)) (hm_pm (cm_termLine gb_zz_sm gb_zz_s5 hz))) (fun f2 w2 _ h => st f2 w2 h.1 h.2)
    · rw [if_neg (by rw [e]; decide), if_neg (by rw [e]; decide), if_neg (by rw [e]; decide)]
      exact hm_bd (hm_and (hm_of (mi_seenLine hn hI)) (hm_pm (cm_seenLine gb_zz_sm gb_zz_s5 hz))) (fun f2 w2 _ h => st f2 w2 h.1 h.2)
/-! text(), up to the first token -/
def gb_F1 (F : Nat → Int32) : Nat → Int32 := upd (upd (upd F 4 0) 5 0) 6 (-1)
def gb_r0 (s j : Nat) : Int32 := if s = 0 ∧ j = 2 then -1 else 0
def gb_go (s : Nat) (p2 : Int32) (f g : gb_F) : Prop := gb_TM g ∧ gb_E s p2 g ∧ g 0 2 = f 1 4 ∧ g 0 3 = 0 ∧ g 0 8 = 0 ∧ g 0 9 = 0 ∧ g 1 = gb_F1 (f 1) ∧ g 2 = f 2
theorem mh_text_88 {n : Nat} {Q : gb_F → Int64 → Int32 → Prop} {f0 : gb_F} {v1 v2 : Int32} {s : Nat} (h1 : v1.toInt = s) (hs : s ≤ 3) (K : ∀ (g : gb_F) (w : Int64), gb_go s v2 f0 g → (∀ j, j < 97 → g 3 j = gb_r0 s j) → gb_hm (gb_bd (ms_advance n g w) (fun f w _ => ms_text_122 n n f w v1 v2)) Q) : ∀ (mm : Nat) (f : gb_F) (w : Int64) (v3 : Int32) (i : Nat), v3.toInt = i → i ≤ 97 → gb_go s v2 f0 f → (∀ j, j < i → f 3 j = 0) → gb_hm (ms_text_88 n mm f w v1 v2 v3) Q := by
  intro mm
  induction mm with
  | zero =>
    intros
    exact hm_none
  | succ mm ih =>
    intro f w v3 i e3 hi hg hz
    rw [ms_text_88]
    have c97 : (97 : Int32).toInt = 97 := by decide
    have t2 : Int32.toNatClampNeg 2 = 2 := by decide
    have c0 : (0 : Int32).toInt = 0 := by decide
    have up : ∀ (g : gb_F) (F : Nat → Int32), g = gb_u f 3 F → gb_go s v2 f0 g := fun g F eg => by
      obtain ⟨a1, a2, a3, a4, a5, a6, a7, a8⟩ := hg
      have e0 : g 0 = f 0 := by rw [eg]; exact gb_un (by decide)
      have e1 : g 1 = f 1 := by rw [eg]; exact gb_un (by decide)
      have e2 : g 2 = f 2 := by rw [eg]; exact gb_un (by decide)
      refine ⟨by rw [eg]; exact (gb_XKu (gb_XKr a1) rfl).1, ⟨fun q => by rw [e1]; exact a2.1 q, a2.2⟩, ?_, ?_, ?_, ?_, e1.trans a7, e2.trans a8⟩
      · rw [e0]; exact a3
      · rw [e0]; exact a4
      · rw [e0]; exact a5
      · rw [e0]; exact a6
    refine hm_if (fun c => ?_) (fun c => ?_)
    · have := gi_le c
      refine hm_if (fun d => hm_lt (fun g eg => ?_)) (fun d => ?_)
      · have s0 : s = 0 := by
          rw [d] at h1
          omega
        refine K g w (up g _ eg) (fun j hj => ?_)
        rw [eg, gb_us, t2]
        unfold gb_r0
        by_cases q : j = 2
        · rw [q, pk_us, if_pos ⟨s0, rfl⟩]
        · rw [pk_un q, if_neg (fun z => q z.2)]
          exact hz j (by omega)
      · have s0 : ¬ s = 0 := fun q => d (gi_eq h1 (by rw [q]; decide))
        refine K f w hg (fun j hj => ?_)
        unfold gb_r0
        rw [if_neg (fun z => s0 z.1)]
        exact hz j (by omega)
    · have := gi_nle c
      refine hm_ck (fun _ _ => hm_lt (fun g eg => hm_lt (fun y ey => ?_)))
      refine ih g w y (i + 1) (by rw [ey]; exact gi_s1 e3 (by omega)) (by omega) (up g _ eg) (fun j hj => ?_)
      rw [eg, gb_us, gi_tn e3]
      by_cases q : j = i
      · rw [q, pk_us]
      · rw [pk_un q]
        exact hz j (by omega)
set_option maxHeartbeats 2000000 in
theorem mh_text {n : Nat} {Q : gb_F → Int64 → Int32 → Prop} {f : gb_F} {w : Int64} {p1 p2 : Int32} (hT : gb_TM f) (K : ∀ (s : Nat) (g : gb_F) (w : Int64), p1.toInt = s → s ≤ 3 → (p2 = -1 ∧ (f 1 s).toInt < 2 ∨ ¬ p2 = -1 ∧ 0 ≤ p2.toInt ∧ p2.toInt < (f 1 s).toInt) → gb_go s p2 f g → (∀ j, j < 97 → g 3 j = gb_r0 s j) → gb_hm (gb_bd (ms_advance n g w) (fun f w _ => ms_text_122 n n f w p1 p2)) Q) (K2 : ∀ (g : gb_F) (w : Int64), g 1 = gb_F1 (f 1) → g 2 = f 2 → ((p1.toInt < 0 ∨ 3 < p1.toInt) ∨ ∃ s : Nat, p1.toInt = s ∧ s ≤ 3 ∧ (p2 = -1 ∧ 2 ≤ (f 1 s).toInt ∨ ¬ p2 = -1 ∧ (p2.toInt < 0 ∨ (f 1 s).toInt ≤ p2.toInt))) → Q g w (-2)) : gb_hm (ms_text n f w p1 p2) Q := by
  unfold ms_text
  have t4 : Int32.toNatClampNeg 4 = 4 := by decide
  have t5 : Int32.toNatClampNeg 5 = 5 := by decide
  have t6 : Int32.toNatClampNeg 6 = 6 := by decide
  have c0 : (0 : Int32).toInt = 0 := by decide
  have c1 : (1 : Int32).toInt = 1 := by decide
  have c2 : (2 : Int32).toInt = 2 := by decide
  have c3 : (3 : Int32).toInt = 3 := by decide
  rw [t4, t5, t6]
  have i4 : gb_iv 0 600 (f 1 4) := gb_r1 (j := 4) hT (by decide)
  refine hm_lt (fun x ex => hm_lt (fun f2 e2 => hm_lt (fun f3 e3 => hm_lt (fun f4 e4 => hm_lt (fun f5 e5 => ?_)))))
  have T2 : gb_TM f2 := by
    rw [e2, ex]
    exact gb_TMf2 hT i4
  have T3 : gb_TM f3 := by
    rw [e3]
    exact gb_TMu1 T2 ⟨by decide, by decide⟩
  have T4 : gb_TM f4 := by
    rw [e4]
    exact gb_TM5 T3 ⟨by decide, by decide⟩
  have T5 : gb_TM f5 := by
    rw [e5]
    exact gb_TM6 T4 ⟨by decide, by decide⟩
  have q1 : f5 1 = gb_F1 (f 1) := by
    rw [e5, gb_us, e4, gb_us, e3, gb_us, e2, gb_un (by decide)]
    rfl
  have q2 : f5 2 = f 2 := by
    rw [e5, gb_un (by decide), e4, gb_un (by decide), e3, gb_un (by decide), e2, gb_un (by decide)]
  have q02 : f5 0 2 = f 1 4 := by
    rw [e5, gb_un (by decide), e4, gb_un (by decide), e3, gb_un (by decide), e2, gb_us, pk_us, ex]
  have qs : ∀ s : Nat, s ≤ 3 → f5 1 s = f 1 s := fun s hs => by
    rw [q1]
    unfold gb_F1
    rw [pk_un (by omega), pk_un (by omega), pk_un (by omega)]
  refine hm_bd mh_isIn (fun g w1 r h => ?_)
  obtain ⟨rfl, rfl, h⟩ := h
  refine hm_if (fun c => ?_) (fun c => ?_)
  · rcases h with h | h
    · rw [c] at h
      exact absurd h.1 (by decide)
    · exact hm_some (K2 _ _ q1 q2 (Or.inl (by omega)))
  · rcases h with h | h
    · obtain ⟨s, es, ts⟩ := gi_nn (x := p1) (by omega)
      have hs : s ≤ 3 := by omega
      have go : ∀ w2 : Int64, gb_E s p2 g → (p2 = -1 ∧ (f 1 s).toInt < 2 ∨ ¬ p2 = -1 ∧ 0 ≤ p2.toInt ∧ p2.toInt < (f 1 s).toInt) → gb_hm (gb_lt (gb_u g 0 (upd (g 0) 3 0)) (fun f_100 => gb_lt (gb_u f_100 0 (upd (f_100 0) 8 0)) (fun f_101 => gb_lt (gb_u f_101 0 (upd (f_101 0) 9 0)) (fun f_102 => ms_text_88 n n f_102 w2 p1 p2 0)))) Q := fun w2 hE hcc => by
        refine hm_lt (fun f6 e6 => hm_lt (fun f7 e7 => hm_lt (fun f8 e8 => ?_)))
        have T6 : gb_TM f6 := by
          rw [e6]
          exact gb_TMf3 T5 ⟨by decide, by decide⟩
        have T7 : gb_TM f7 := by
          rw [e7]
          exact gb_TMfj T6 rfl
        have T8 : gb_TM f8 := by
          rw [e8]
          exact gb_TMfj T7 rfl
        have u1 : f8 1 = g 1 := by
          rw [e8, gb_un (by decide), e7, gb_un (by decide), e6, gb_un (by decide)]
        have u2 : f8 2 = g 2 := by
          rw [e8, gb_un (by decide), e7, gb_un (by decide), e6, gb_un (by decide)]
        have u0 : f8 0 = upd (upd (upd (g 0) 3 0) 8 0) 9 0 := by
          rw [e8, gb_us, e7, gb_us, e6, gb_us]
        refine mh_text_88 es hs (fun g w hg hz => K s g w es hs hcc hg hz) n f8 w2 0 0 c0 (Nat.zero_le _) ⟨T8, ⟨fun q => by rw [u1]; exact hE.1 q, hE.2⟩, ?_, ?_, ?_, ?_, u1.trans q1, u2.trans q2⟩ (fun j hj => absurd hj (Nat.not_lt_zero _))
        · rw [u0, pk_un (by decide), pk_un (by decide), pk_un (by decide)]
          exact q02
        · rw [u0, pk_un (by decide), pk_un (by decide), pk_us]
        · rw [u0, pk_un (by decide), pk_us]
        · rw [u0, pk_us]
      refine hm_if (fun d => ?_) (fun d => ?_)
      · refine hm_ck (fun _ _ => hm_lt (fun y ey => ?_))
        rw [ts, qs s hs] at ey
        refine hm_if (fun e => ?_) (fun e => ?_)
        · have := gi_lt e
          rw [ey, c2] at this
          refine go _ ⟨fun _ => by rw [qs s hs]; omega, fun q => absurd d q⟩ (Or.inl ⟨d, this⟩)
        · have := gi_nlt e
          rw [ey, c2] at this
          exact hm_some (K2 _ _ q1 q2 (Or.inr ⟨s, es, hs, Or.inl ⟨d, this⟩⟩))
      · unfold ms_isOf
        refine hm_bd (P := fun g2 w2 r2 => g2 = g ∧ (r2 = 1 ∧ 0 ≤ p2.toInt ∧ p2.toInt < (f 1 s).toInt ∨ r2 = 0 ∧ (p2.toInt < 0 ∨ (f 1 s).toInt ≤ p2.toInt))) ?_ (fun g2 w2 r2 h2 => ?_)
        · refine hm_ck (fun _ _ => hm_lt (fun y ey => ?_))
          rw [ts, qs s hs] at ey
          have iy : gb_iv 0 2 y := by
            rw [ey]
            exact gb_r1 (j := s) hT (by
              have : s % 992 < 4 := by omega
              unfold gt_1
              rw [if_pos this]
              decide)
          have y1 : (y - 1).toInt = y.toInt - 1 := by
            have := iy.1
            have := iy.2
            rw [gb_tsub (by omega) (by omega), c1]
          refine hm_bd mh_isIn (fun g3 w3 r3 h3 => hm_cb (fun _ => hm_some ⟨h3.1, ?_⟩))
          have ht := h3.2.2
          rw [y1, c0, ey] at ht
          rcases ht with ht | ht
          · exact Or.inl ⟨ht.1, by omega, by omega⟩
          · exact Or.inr ⟨ht.1, by omega⟩
        · obtain ⟨rfl, h2⟩ := h2
          refine hm_if (fun c4 => ?_) (fun c4 => ?_)
          · rcases h2 with h2 | h2
            · rw [c4] at h2
              exact absurd h2.1 (by decide)
            · exact hm_some (K2 _ _ q1 q2 (Or.inr ⟨s, es, hs, Or.inr ⟨d, h2.2⟩⟩))
          · rcases h2 with h2 | h2
            · have i2 := (gb_r1 (f := f) (j := s) (lo := 0) (hi := 2) hT (by
                have : s % 992 < 4 := by omega
                unfold gt_1
                rw [if_pos this]
                decide)).2
              exact go _ ⟨fun q => absurd q d, fun _ => ⟨h2.2.1, by have := h2.2.2; omega⟩⟩ (Or.inr ⟨d, h2.2⟩)
            · exact absurd h2.1 c4
    · exact absurd h.1 c
theorem gb_goI {n : Nat} (hn : gb_N ≤ n) {s : Nat} {p2 : Int32} {f g : gb_F} {w : Int64} (hg : gb_go s p2 f g) (hz : ∀ j, j < 97 → g 3 j = gb_r0 s j) : gb_hm (ms_advance n g w) (fun f2 _ _ => gb_I s f2 ∧ gb_E s p2 f2 ∧ f2 1 = g 1 ∧ f2 3 = g 3 ∧ f2 0 8 = 0 ∧ f2 0 2 = g 0 2) := by
  refine hm_mono (hm_of (mt_advance hn hg.1)) (fun f2 _ _ hA => ?_)
  obtain ⟨⟨a1, a2, a3, a4, a5⟩, b1, b2, b3⟩ := hA
  obtain ⟨g1, g2, g3, g4, g5, g6, g7, g8⟩ := hg
  have q8 : f2 0 8 = 0 := a4.trans g5
  have hR : ∀ j, j < 97 → gb_iv (gt_R s j).1 (gt_R s j).2 (f2 3 j) := fun j hj => by
    rw [a3, hz j hj]
    unfold gb_r0
    split
    · rename_i q
      rw [q.1, q.2]
      exact ⟨by decide, by decide⟩
    · exact gt_R00
  refine ⟨⟨a1, ⟨hR 0 (by decide), fun q => ?_⟩, fun _ => hR, ⟨b2, b3⟩, fun q => absurd q8 q⟩, ⟨fun q => by rw [a2]; exact g2.1 q, g2.2⟩, a2, a3, q8, a5⟩
  have := hR 1 (by decide)
  rw [q] at this
  exact this
theorem mh_textz {n : Nat} (hn : gb_N ≤ n) {f : gb_F} {w : Int64} {p1 p2 : Int32} (hT : gb_TM f) : gb_hm (ms_text n f w p1 p2) (fun f2 _ _ => gb_zz (f 1) (f 2) f2) := by
  have zf : ∀ g : gb_F, g 1 = gb_F1 (f 1) → g 2 = f 2 → gb_zz (f 1) (f 2) g := fun g h1 h2 => by
    refine ⟨?_, fun j hj => ?_, h2⟩
    · rw [h1]
      unfold gb_F1
      rw [pk_un (by decide), pk_un (by decide), pk_us]
    · rw [h1]
      unfold gb_F1
      rw [pk_un (by omega), pk_un (by omega), pk_un (by omega)]
  refine mh_text hT (fun s g w2 h1 hs _ hg hz => ?_) (fun g w2 h1 h2 _ => zf g h1 h2)
  refine hm_bd (hm_and (gb_goI hn hg hz) (hm_pm (cm_advance gb_zz_sm (zf g hg.2.2.2.2.2.2.1 hg.2.2.2.2.2.2.2)))) (fun f2 w3 _ h => ?_)
  exact mh_text_122z hn h1 hs n f2 w3 h.1.1 h.1.2.1 h.2
