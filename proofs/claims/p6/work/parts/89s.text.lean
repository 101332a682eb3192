/-! text() keeps the relation, and answers alike -/
theorem R_now {σ σ2 : gb_S} {f f2 : gb_F} (hM : gb_TM f) (h : gb_R σ f) (hc : ∀ k, 1 < k → k ≤ 94 → σ2.1 k = σ.1 k) (h2 : f2 2 = f 2) (hf : ∀ j, j ≠ 4 → j ≠ 5 → j ≠ 6 → f2 1 j = f 1 j) (e4 : σ2.1 1 6 = f2 1 4) (e5 : σ2.1 1 7 = f2 1 5) (e6 : σ2.1 1 8 = f2 1 6) : gb_R σ2 f2 := by
  obtain ⟨⟨a1, a2, a3, a4, a5, a6⟩, b2, b3⟩ := h
  refine ⟨⟨fun j hj => ?_, e4, e5, e6, fun i hi => ?_, fun s m hs hm => ?_⟩, fun k hk => ?_, fun k hk hn => ?_⟩
  · show σ2.1 (1 + 21) j = _
    rw [hc _ (by omega) (by omega), hf j (by omega) (by omega) (by omega)]
    exact a1 j hj
  · show gb_byr (σ2.1 (1 + 22) i) _
    rw [hc _ (by omega) (by omega), hf _ (by omega) (by omega) (by omega)]
    exact a5 i hi
  · rw [hf s (by omega) (by omega) (by omega)] at hm
    have i2 := (hl_0 hM.2 hs).2
    have hpl : 610 ≤ gb_pl s m := by
      unfold gb_pl
      repeat' split
      all_goals omega
    have e0 : (fun j => f2 1 (gb_pl s m + j)) = (fun j => f 1 (gb_pl s m + j)) := funext (fun j => hf _ (by omega) (by omega) (by omega))
    show gb_RS s (σ2.1 (1 + gb_o s m)) _
    rw [e0, hc _ (by unfold gb_o; omega) (by unfold gb_o; omega)]
    exact a6 s m hs hm
  · rw [hc 94 (by omega) (by omega), h2]
    exact b2 k hk
  · rw [h2] at hn
    have e0 : (fun i => f2 1 (992 * (k + 1) + i)) = (fun i => f 1 (992 * (k + 1) + i)) := funext (fun i => hf _ (by omega) (by omega) (by omega))
    rw [e0]
    exact rt_cp (fun d hd => hc _ (by omega) (by omega)) (fun s hs => hl_2 hM.2 hs) (b3 k hk hn)
theorem dup_0 {R : Nat → Int32} (h : R 0 = 0) : ¬ gb_dup R := fun z => by
  obtain ⟨i, j, z1, z2, -⟩ := z
  have : (0 : Int32).toInt = 0 := by decide
  rw [h] at z2
  omega
/-- the Reader, begun; the reference, begun alike -/
theorem ch_read {n : Nat} (hn : gb_N ≤ n) {s N : Nat} {σ : gb_S} {f : gb_F} {p1 p2 L : Int32} (h1 : p1.toInt = s) (hs : s ≤ 3) (eL : L.toInt = N) (hN : N ≤ 600) (eN : (f 1 4).toInt = N) (hT : ∀ i, i < 600 → gb_byr (σ.1 23 i) (f 1 (10 + i))) (hM : gb_TM f) : gb_hc (cs_Reader_read_c23_S n σ L p1 (96 + 2 * s)) (fun s2 _ => ∃ σ0 : gb_S, (∀ k, k ≠ 106 → k ≠ 96 + 2 * s + 1 → σ0.1 k = σ.1 k) ∧ ∀ (g : gb_F) (w : Int64), gb_go s p2 f g → (∀ j, j < 97 → g 3 j = gb_r0 s j) → gb_hm (gb_bd (ms_advance n g w) (fun f w _ => ms_text_122 n n f w p1 p2)) (fun f2 w2 r => gb_E1 n N s p1 p2 σ0 s2 g f2 w2 r)) := by
  unfold cs_Reader_read_c23_S
  have c600 : (600 : Int32).toInt = 600 := by decide
  have c0 : (0 : Int32).toInt = ((0 : Nat) : Int) := by decide
  have t0 : Int32.toNatClampNeg 0 = 0 := by decide
  have t1 : Int32.toNatClampNeg 1 = 1 := by decide
  have t2 : Int32.toNatClampNeg 2 = 2 := by decide
  refine hc_lt (fun a1 b1 => hc_lt (fun x ex => hc_lt (fun a3 b3 => hc_lt (fun a4 b4 => hc_lt (fun a5 b5 => hc_lt (fun a6 b6 => ?_))))))
  have exL : x = L := by
    rw [ex, if_neg (fun q => ?_)]
    have := gi_lt q
    omega
  have q20 : a6.2.1 0 = 23 := by
    rw [b6, b5, b4, b3, b1]
    rfl
  have q106 : a6.1 106 = upd (upd (upd (upd (a1.1 106) 2 x) 3 0) 4 0) 5 (-1) := by
    rw [b6, gb_sus, b5, gb_sus, b4, gb_sus, b3, gb_sus]
  have qn : ∀ k, k ≠ 106 → a6.1 k = σ.1 k := fun k hk => by
    rw [b6, gb_sun hk, b5, gb_sun hk, b4, gb_sun hk, b3, gb_sun hk, b1]
    rfl
  have hTn : ∀ i, i < N → 0 ≤ (f 1 (10 + i)).toInt := fun i hi => by
    have := hM.2 (10 + i)
    have e : (10 + i) % 992 = 10 + i := Nat.mod_eq_of_lt (by omega)
    rw [e] at this
    unfold gt_1 at this
    rw [if_neg (by omega), if_neg (by omega), if_neg (by omega), if_neg (by omega), if_neg (by omega), if_pos (by omega)] at this
    exact this.1
  -- behind the clearing: the sheet is empty
  have go : ∀ s8 : gb_S, s8.2 = a6.2 → (∀ k, k ≠ 96 + 2 * s + 1 → s8.1 k = a6.1 k) → s8.1 (96 + 2 * s + 1) 0 = 0 → (s = 0 → s8.1 (96 + 2 * s + 1) 1 = 0 ∧ s8.1 (96 + 2 * s + 1) 2 = -1) → gb_hc (gb_cd (cs_Reader_skipBlanks n s8) (fun s_12 _ => cs_Reader_read_c23_S_42 n n s_12 p1 (96 + 2 * s) 0)) (fun s2 _ => ∃ σ0 : gb_S, (∀ k, k ≠ 106 → k ≠ 96 + 2 * s + 1 → σ0.1 k = σ.1 k) ∧ ∀ (g : gb_F) (w : Int64), gb_go s p2 f g → (∀ j, j < 97 → g 3 j = gb_r0 s j) → gb_hm (gb_bd (ms_advance n g w) (fun f w _ => ms_text_122 n n f w p1 p2)) (fun f2 w2 r => gb_E1 n N s p1 p2 σ0 s2 g f2 w2 r)) := by
    intro s8 r1 r2 r3 r4
    have r106 : s8.1 106 = a6.1 106 := r2 106 (by omega)
    have hx8 : gb_rc (fun i => f 1 (10 + i)) N s8 := by
      refine ⟨by rw [r1]; exact q20, ?_, hN, fun i hi => ?_⟩
      · rw [r106, q106, pk_un (by decide), pk_un (by decide), pk_un (by decide), pk_us, exL]
        exact eL
      · rw [r2 23 (by omega), qn 23 (by decide)]
        exact hT i (by omega)
    have at8 : (s8.1 106 3).toInt = ((0 : Nat) : Int) := by
      rw [r106, q106, pk_un (by decide), pk_un (by decide), pk_us]
      exact c0
    refine hc_cd (ch_skip hx8 at8 (Nat.zero_le _)) (fun s9 _ g9 => ?_)
    obtain ⟨a, ru, haN, hat⟩ := g9
    intro σ2 rr hrun
    refine ⟨s8, fun k k1 k2 => (r2 k k2).trans (qn k k1), fun g w hg hz => ?_⟩
    obtain ⟨g1, g2, g3, g4, g5, g6, g7, g8⟩ := hg
    have hcx : gb_cx (fun i => f 1 (10 + i)) N g := by
      refine ⟨by rw [g3]; exact eN, hN, fun i hi => ?_, hTn⟩
      rw [g7]
      unfold gb_F1
      rw [pk_un (by omega), pk_un (by omega), pk_un (by omega)]
    refine hm_bd (hm_and (mh_advance hcx (p := 0) (by rw [g4]; exact c0) (Nat.zero_le _)) (gb_goI hn ⟨g1, g2, g3, g4, g5, g6, g7, g8⟩ hz)) (fun f1 w1 _ hA => ?_)
    obtain ⟨⟨hv, q, ru2, htk⟩, hI, hE, k1, k3, k8, -⟩ := hA
    have := run_uq ru2 ru
    subst this
    have z4 : s9.1 106 4 = 0 := by rw [hat.2.2.1 4 (by decide), r106, q106, pk_un (by decide), pk_us]
    have z5 : s9.1 106 5 = -1 := by rw [hat.2.2.1 5 (by decide), r106, q106, pk_us]
    have zD : s9.1 (96 + 2 * s + 1) = s8.1 (96 + 2 * s + 1) := hat.2.1 _ (by omega)
    have f15 : f1 1 5 = 0 := by
      rw [k1, g7]
      unfold gb_F1
      rw [pk_un (by decide), pk_us]
    have f16 : f1 1 6 = -1 := by
      rw [k1, g7]
      unfold gb_F1
      rw [pk_us]
    have R0 : f1 3 0 = 0 := by
      rw [k3, hz 0 (by decide)]
      unfold gb_r0
      rw [if_neg (by omega)]
    have f109 : f1 0 9 = 0 := by
      rw [hv.2.2.2.2.1]
      exact g6
    have R0n : (f1 3 0).toInt.toNat = 0 := by
      rw [R0]
      decide
    have hRC : gb_RC s (s9.1 (96 + 2 * s + 1)) (f1 3) := by
      rw [zD]
      refine ⟨r3.trans R0.symm, fun e => ?_⟩
      rw [(r4 e).1, k3, hz 1 (by decide)]
      unfold gb_r0
      rw [if_neg (by omega)]
    have hRS : gb_RS s (s9.1 (96 + 2 * s + 1)) (f1 3) := by
      refine ⟨hRC.1, fun e => ⟨hRC.2 e, ?_, fun p j hp => ?_, fun p j hp => ?_⟩, fun _ i hi => ?_, fun _ k hk => ?_⟩
      · rw [zD, (r4 e).2, k3, hz 2 (by decide)]
        unfold gb_r0
        rw [if_pos ⟨e, rfl⟩]
      · rw [R0n] at hp
        exact absurd hp (Nat.not_lt_zero _)
      · have : f1 3 1 = 0 := by
          rw [k3, hz 1 (by decide)]
          unfold gb_r0
          rw [if_neg (by omega)]
        have z : (0 : Int32).toInt.toNat = 0 := by decide
        rw [this, z] at hp
        exact absurd hp (Nat.not_lt_zero _)
      · rw [R0n, Nat.mul_zero] at hi
        exact absurd hi (Nat.not_lt_zero _)
      · rw [R0n] at hk
        exact absurd hk (Nat.not_lt_zero _)
    have hJ : gb_J (fun i => f 1 (10 + i)) N s q s8 s9 g f1 := by
      refine ⟨rc_at hx8 hat, hat.2.2.2, haN, ⟨k8, cx_v hcx hv, htk, by rw [f15, f16, z4, z5], fun z => ?_⟩, hRC, hI, fun _ => ⟨z5, hRS, fun _ => ⟨fun z => absurd f109 z, fun z => absurd z (dup_0 R0)⟩, fun _ => f109⟩, ⟨hat.1, fun k k1 _ _ => hat.2.1 k k1, hat.2.2.1 2 (by decide)⟩, ⟨hv.2.1, fun j _ _ => by rw [k1]⟩⟩
      exact absurd z4 z
    exact ch_read42 hn h1 h1 hs n s9 0 q 0 f1 hJ c0 (Nat.zero_le _) σ2 rr hrun n w1
  rcases gb_kind hs with ⟨hs0, hk⟩ | ⟨hs0, hk⟩ | ⟨hs0, hk⟩ | ⟨hs0, hk⟩
  · rw [if_pos hk]
    refine hc_cd (P := fun s8 _ => s8.2 = a6.2 ∧ (∀ k, k ≠ 96 + 2 * s + 1 → s8.1 k = a6.1 k) ∧ s8.1 (96 + 2 * s + 1) 0 = 0 ∧ s8.1 (96 + 2 * s + 1) 1 = 0 ∧ s8.1 (96 + 2 * s + 1) 2 = -1) ?_ (fun s8 _ g => go s8 g.1 g.2.1 g.2.2.1 (fun _ => g.2.2.2))
    unfold cs_Border_clear_B
    rw [t0, t1, t2]
    refine hc_kk (fun _ => hc_lt (fun d1 e1 => hc_lt (fun d2 e2 => hc_lt (fun d3 e3 => hc_some ⟨?_, fun k hk => ?_, ?_, ?_, ?_⟩))))
    · rw [e3, e2, e1]
      rfl
    · rw [e3, gb_sun hk, e2, gb_sun hk, e1, gb_sun hk]
    · rw [e3, gb_sus, pk_un (by decide), e2, gb_sus, pk_un (by decide), e1, gb_sus, pk_us]
    · rw [e3, gb_sus, pk_un (by decide), e2, gb_sus, pk_us]
    · rw [e3, gb_sus, pk_us]
  · rw [if_neg (gc_BN hk), if_pos hk]
    refine hc_cd (P := fun s8 _ => s8.2 = a6.2 ∧ (∀ k, k ≠ 96 + 2 * s + 1 → s8.1 k = a6.1 k) ∧ s8.1 (96 + 2 * s + 1) 0 = 0) ?_ (fun s8 _ g => go s8 g.1 g.2.1 g.2.2 (fun z => by omega))
    unfold cs_Lines_clear_N
    rw [t0]
    exact hc_kk (fun _ => hc_lt (fun d1 e1 => hc_some ⟨by rw [e1]; rfl, fun k hk => by rw [e1, gb_sun hk], by rw [e1, gb_sus, pk_us]⟩))
  · rw [if_neg (gc_BL hk).1, if_neg (gc_BL hk).2, if_pos hk]
    refine hc_cd (P := fun s8 _ => s8.2 = a6.2 ∧ (∀ k, k ≠ 96 + 2 * s + 1 → s8.1 k = a6.1 k) ∧ s8.1 (96 + 2 * s + 1) 0 = 0) ?_ (fun s8 _ g => go s8 g.1 g.2.1 g.2.2 (fun z => by omega))
    unfold cs_Lines_clear_L
    rw [t0]
    exact hc_kk (fun _ => hc_lt (fun d1 e1 => hc_some ⟨by rw [e1]; rfl, fun k hk => by rw [e1, gb_sun hk], by rw [e1, gb_sus, pk_us]⟩))
  · rw [if_neg (gc_BD hk).1, if_neg (gc_BD hk).2.1, if_neg (gc_BD hk).2.2, if_pos hk]
    refine hc_cd (P := fun s8 _ => s8.2 = a6.2 ∧ (∀ k, k ≠ 96 + 2 * s + 1 → s8.1 k = a6.1 k) ∧ s8.1 (96 + 2 * s + 1) 0 = 0) ?_ (fun s8 _ g => go s8 g.1 g.2.1 g.2.2 (fun z => by omega))
    unfold cs_Lines_clear_D
    rw [t0]
    exact hc_kk (fun _ => hc_lt (fun d1 e1 => hc_some ⟨by rw [e1]; rfl, fun k hk => by rw [e1, gb_sun hk], by rw [e1, gb_sus, pk_us]⟩))
theorem pl_E {s m : Nat} (hs : s ≤ 3) : (s = 0 ∧ gb_pl s m = 610 + 58 * m ∧ gb_sz s = 58 ∧ gb_gz s = 58) ∨ (s = 1 ∧ gb_pl s m = 726 + 97 * m ∧ gb_sz s = 97 ∧ gb_gz s = 97) ∨ (s = 2 ∧ gb_pl s m = 920 + 25 * m ∧ gb_sz s = 25 ∧ gb_gz s = 25) ∨ (s = 3 ∧ gb_pl s m = 970 + 11 * m ∧ gb_sz s = 11 ∧ gb_gz s = 16) := by
  have a : s = 0 ∨ s = 1 ∨ s = 2 ∨ s = 3 := by omega
  rcases a with rfl | rfl | rfl | rfl
  · exact Or.inl ⟨rfl, rfl, rfl, rfl⟩
  · exact Or.inr (Or.inl ⟨rfl, rfl, rfl, rfl⟩)
  · exact Or.inr (Or.inr (Or.inl ⟨rfl, rfl, rfl, rfl⟩))
  · exact Or.inr (Or.inr (Or.inr ⟨rfl, rfl, rfl, rfl⟩))
theorem pl_disj {s m s2 m2 : Nat} (hs : s ≤ 3) (hm : m ≤ 1) (hs2 : s2 ≤ 3) (hm2 : m2 ≤ 1) (h : ¬ (s = s2 ∧ m = m2)) : ∀ j, j < gb_sz s2 → ¬ (gb_pl s m ≤ gb_pl s2 m2 + j ∧ gb_pl s2 m2 + j < gb_pl s m + gb_sz s) := by
  intro j hj
  rcases pl_E (m := m) hs with a | a | a | a <;> rcases pl_E (m := m2) hs2 with b | b | b | b <;> omega
/-- the text that was read takes its place -/
theorem R_new {σ σ2 : gb_S} {f fE f2 : gb_F} {s m : Nat} {p2 v4 more : Int32} {k : Nat} (hs : s ≤ 3) (hm : m ≤ 1) (hM : gb_TM f) (hT1 : gb_T1 (f2 1)) (h : gb_R σ f) (hI : gb_I s fE) (h8 : fE 0 8 = 0)
    (hc : ∀ k, 1 < k → k ≤ 94 → k ≠ 96 + 2 * s + 1 → σ2.1 k = σ.1 k) (e6 : σ2.1 1 6 = 0) (e7 : σ2.1 1 7 = 0) (e8 : σ2.1 1 8 = -1) (hRS : gb_RS s (σ2.1 (97 + 2 * s)) (fE 3))
    (hf : ∀ j, j ≠ 4 → j ≠ 5 → j ≠ 6 → fE 1 j = f 1 j) (f4 : fE 1 4 = 0) (f5 : fE 1 5 = 0) (f6 : fE 1 6 = -1) (h2 : f2 2 = f 2) (hf2 : f2 1 = gb_cpF (gb_hd s p2 fE) (fE 3) (gb_pl s m) (gb_sz s)) (hmore : more = 0 ↔ ¬ p2 = -1) (hv4 : v4 = f 1 s) (hnew : p2 = -1 → (f 1 s).toInt = m) (hold : ¬ p2 = -1 → (m : Int) < (f 1 s).toInt) : gb_R (gb_s3t σ2 s m more v4) f2 := by
  have o22 : 1 + gb_o s m < 22 := by unfold gb_o; omega
  have o1 : 1 < 1 + gb_o s m := by unfold gb_o; omega
  have nS : ∀ k, k ≠ 1 + gb_o s m → k ≠ 22 → (gb_s3t σ2 s m more v4).1 k = σ2.1 k := fun k a b => gb_s3tn a b
  have sS : ∀ j, j < gb_gz s → (gb_s3t σ2 s m more v4).1 (1 + gb_o s m) j = σ2.1 (97 + 2 * s) j := fun j hj => by
    unfold gb_s3t
    split
    · rw [gb_sus]
      unfold va_cpy
      rw [if_pos (by omega), Nat.zero_add, Nat.sub_zero]
    · rw [gb_sun (by omega), gb_sus]
      unfold va_cpy
      rw [if_pos (by omega), Nat.zero_add, Nat.sub_zero]
  have s22 : ∀ j, (gb_s3t σ2 s m more v4).1 22 j = if ¬ p2 = -1 then σ2.1 22 j else upd (σ2.1 22) s (v4 + 1) j := fun j => by
    unfold gb_s3t
    by_cases c : more = 0
    · rw [if_pos c, if_pos (hmore.mp c), gb_sun (by omega)]
    · rw [if_neg c, if_neg (fun z => c (hmore.mpr z)), gb_sus, gb_sun (by omega)]
  have hpl : 610 ≤ gb_pl s m ∧ gb_pl s m + gb_sz s ≤ 992 := by
    rcases pl_E (m := m) hs with a | a | a | a <;> omega
  have hdj : ∀ j, gb_hd s p2 fE j = if p2 = -1 ∧ j = s then fE 1 s + 1 else fE 1 j := fun j => by
    unfold gb_hd
    by_cases c : p2 = -1
    · rw [if_pos c]
      by_cases d : j = s
      · rw [d, pk_us, if_pos ⟨c, rfl⟩]
      · rw [pk_un d, if_neg (fun z => d z.2)]
    · rw [if_neg c, if_neg (fun z => c z.1)]
  have low : ∀ j, j < 610 → f2 1 j = gb_hd s p2 fE j := fun j hj => by
    rw [hf2]
    unfold gb_cpF
    rw [if_neg (by omega)]
  have high : ∀ j, 992 ≤ j → f2 1 j = f 1 j := fun j hj => by
    rw [hf2]
    unfold gb_cpF
    rw [if_neg (by omega), hdj j, if_neg (by omega)]
    exact hf j (by omega) (by omega) (by omega)
  obtain ⟨⟨a1, a2, a3, a4, a5, a6⟩, b2, b3⟩ := h
  have hes : fE 1 s = f 1 s := hf s (by omega) (by omega) (by omega)
  have n22 : (22 : Nat) ≠ 96 + 2 * s + 1 := by omega
  refine ⟨⟨fun j hj => ?_, ?_, ?_, ?_, fun i hi => ?_, fun s' m' hs' hm' => ?_⟩, fun k hk => ?_, fun k hk hn => ?_⟩
  · show (gb_s3t σ2 s m more v4).1 22 j = _
    rw [s22, low j (by omega), hdj j]
    by_cases c : p2 = -1
    · rw [if_neg (fun z => z c)]
      by_cases d : j = s
      · rw [d, pk_us, if_pos ⟨c, rfl⟩, hv4, hes]
      · rw [pk_un d, if_neg (fun z => d z.2), hc 22 (by decide) (by decide) n22, hf j (by omega) (by omega) (by omega)]
        exact a1 j hj
    · rw [if_pos c, if_neg (fun z => c z.1), hc 22 (by decide) (by decide) n22, hf j (by omega) (by omega) (by omega)]
      exact a1 j hj
  · show (gb_s3t σ2 s m more v4).1 1 6 = _
    rw [nS 1 (by omega) (by decide), e6, low 4 (by decide), hdj 4, if_neg (by omega)]
    exact f4.symm
  · show (gb_s3t σ2 s m more v4).1 1 7 = _
    rw [nS 1 (by omega) (by decide), e7, low 5 (by decide), hdj 5, if_neg (by omega)]
    exact f5.symm
  · show (gb_s3t σ2 s m more v4).1 1 8 = _
    rw [nS 1 (by omega) (by decide), e8, low 6 (by decide), hdj 6, if_neg (by omega)]
    exact f6.symm
  · show gb_byr ((gb_s3t σ2 s m more v4).1 23 i) _
    by_cases hlow : 10 + i < 610
    · rw [nS 23 (by omega) (by decide), hc 23 (by decide) (by decide) (by omega), low _ hlow, hdj, if_neg (by omega), hf _ (by omega) (by omega) (by omega)]
      exact a5 i hi
    · omega
  · show gb_RS s' ((gb_s3t σ2 s m more v4).1 (1 + gb_o s' m')) _
    have hcnt : f2 1 s' = gb_hd s p2 fE s' := low s' (by omega)
    have i2 := hl_0 hT1 hs'
    have i22 := i2.2
    by_cases same : s' = s ∧ m' = m
    · obtain ⟨rfl, rfl⟩ := same
      refine rs_ext hs hRS (rg_of hs (fun j hj => ?_)) sS (fun j hj => ?_)
      · have hj97 : j < 97 := by
          rcases pl_E (m := m') hs with a | a | a | a <;> omega
        exact hI.2.2.1 h8 j hj97
      · show f2 1 (gb_pl s' m' + j) = fE 3 j
        rw [hf2]
        unfold gb_cpF
        rw [if_pos (by omega), Nat.add_sub_cancel_left]
    · have hm1 : m' ≤ 1 := by omega
      have hlt : m' < (f 1 s').toInt.toNat := by
        rw [hcnt, hdj s'] at hm'
        by_cases c : p2 = -1 ∧ s' = s
        · rw [if_pos c, hes] at hm'
          have := hnew c.1
          have e1 : (f 1 s + 1).toInt = (f 1 s).toInt + 1 := gb_i1 (hl_0 hM.2 (by omega)) ⟨by decide, by decide⟩
          have c2 := c.2
          subst c2
          have : ¬ m' = m := fun z => same ⟨rfl, z⟩
          omega
        · rw [if_neg c, hf s' (by omega) (by omega) (by omega)] at hm'
          exact hm'
      have hne : gb_o s' m' ≠ gb_o s m := fun z => by
        unfold gb_o at z
        omega
      rw [nS _ (by omega) (by unfold gb_o; omega), hc _ (by unfold gb_o; omega) (by unfold gb_o; omega) (by unfold gb_o; omega)]
      have dj := pl_disj (s := s) (m := m) (s2 := s') (m2 := m') hs hm (by omega) hm1 (fun z => same ⟨z.1.symm, z.2.symm⟩)
      have i2f := (hl_0 hM.2 hs').2
      have rgf := rg_F (q := 0) hM.2 (s := s') (m := m') (by omega) hm1
      have e00 : (fun j => f 1 (992 * 0 + (gb_pl s' m' + j))) = (fun j => f 1 (gb_pl s' m' + j)) := funext (fun j => by rw [show 992 * 0 + (gb_pl s' m' + j) = gb_pl s' m' + j by omega])
      rw [e00] at rgf
      refine rs_ext (by omega) (a6 s' m' hs' hlt) rgf (fun _ _ => rfl) (fun j hj => ?_)
      show f2 1 (gb_pl s' m' + j) = f 1 (gb_pl s' m' + j)
      have p6 : 610 ≤ gb_pl s' m' := by
        rcases pl_E (s := s') (m := m') (by omega) with a | a | a | a <;> omega
      rw [hf2]
      unfold gb_cpF
      rw [if_neg (dj j hj), hdj, if_neg (by omega)]
      exact hf _ (by omega) (by omega) (by omega)
  · rw [nS 94 (by omega) (by decide), hc 94 (by decide) (by decide) (by omega), h2]
    exact b2 k hk
  · rw [h2] at hn
    have e0 : (fun i => f2 1 (992 * (k + 1) + i)) = (fun i => f 1 (992 * (k + 1) + i)) := funext (fun i => high _ (by omega))
    rw [e0]
    exact rt_cp (fun d hd => (nS _ (by omega) (by omega)).trans (hc _ (by omega) (by omega) (by omega))) (fun s hs => hl_2 hM.2 hs) (b3 k hk hn)
