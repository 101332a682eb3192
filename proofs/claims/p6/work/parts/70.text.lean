/-! THE REFERENCE: lines of nights, laws, dawns; text -/
set_option maxHeartbeats 4000000 in
theorem mi_adds {n : Nat} {s : Nat} {f : gb_F} {w : Int64} {p1 p2 p3 p4 p5 p6 : Int32} (M K : Nat) (hI : gb_I s f) (hs : s ≠ 0) (e1 : p1.toInt = M) (e2 : p2.toInt = K) (hK : 2 ≤ K ∧ K ≤ 4) (hM : K * M ≤ 96) (h0 : gt_R s 0 = (0, (M : Int))) (h3 : f 0 8 = 0 → ∀ c, c < M → gb_iv (gt_R s (1 + K * c + 0)).1 (gt_R s (1 + K * c + 0)).2 p3) (h4 : f 0 8 = 0 → ∀ c, c < M → gb_iv (gt_R s (1 + K * c + 1)).1 (gt_R s (1 + K * c + 1)).2 p4) (h5 : 2 < K → f 0 8 = 0 → ∀ c, c < M → gb_iv (gt_R s (1 + K * c + 2)).1 (gt_R s (1 + K * c + 2)).2 p5) (h6 : 3 < K → f 0 8 = 0 → ∀ c, c < M → gb_iv (gt_R s (1 + K * c + 3)).1 (gt_R s (1 + K * c + 3)).2 p6) : gb_tm (ms_adds n f w p1 p2 p3 p4 p5 p6) (fun f2 _ _ => gb_I s f2 ∧ gb_Pw f f2) := by
  have c0 : Int32.toNatClampNeg 0 = 0 := by decide
  have c1 : (1 : Int32).toInt = 1 := by decide
  have c2 : (2 : Int32).toInt = 2 := by decide
  have c3 : (3 : Int32).toInt = 3 := by decide
  have i0 : gb_iv 0 M (f 3 0) := by
    have := hI.2.1.1
    rw [h0] at this
    exact this
  unfold ms_adds
  refine gm_lt (fun x ex => gm_if (fun c => ?_) (fun _ => gm_some ⟨hI, gb_Pwr⟩))
  have hx : x = f 3 0 := ex
  have hlt := gb_dlt c
  rw [hx] at hlt
  obtain ⟨cc, hcc, -⟩ := gb_cn i0 (by decide)
  have hcM : cc < M := by omega
  have hM2 : M ≤ 48 := by
    have := Nat.mul_le_mul_right M hK.1
    omega
  have hKc : K * cc + K ≤ 96 := by
    have : K * (cc + 1) ≤ K * M := Nat.mul_le_mul_left K (by omega)
    rw [Nat.mul_add, Nat.mul_one] at this
    omega
  refine gm_lt (fun y ey => ?_)
  have hy : y.toInt = cc := by
    rw [ey]
    exact hcc
  have mq : p2.toInt * y.toInt = ((K * cc : Nat) : Int) := by
    rw [e2, hy, Int.natCast_mul]
  have m1 : (p2 * y).toInt = ((K * cc : Nat) : Int) := by
    rw [gb_tmul (by rw [mq]; omega) (by rw [mq]; omega), mq]
  have a1 : (1 + (p2 * y)).toInt = 1 + ((K * cc : Nat) : Int) := by
    rw [gb_tadd (by rw [c1, m1]; omega) (by rw [c1, m1]; omega), c1, m1]
  refine gm_lt (fun z ez => ?_)
  rw [← ez] at a1
  have g3 := fun q => h3 q cc hcM
  have g4 := fun q => h4 q cc hcM
  have g5 := fun k q => h5 k q cc hcM
  have g6 := fun k q => h6 k q cc hcM
  generalize K * cc = q at a1 g3 g4 g5 g6 hKc m1 mq
  have s0 : gb_iv 0 96 z := ⟨by omega, by omega⟩
  have t0 : Int32.toNatClampNeg z = 1 + q + 0 := gb_tn (by omega)
  have st : ∀ (k : Int32) (i : Nat), k.toInt = i → i < K → gb_iv 0 96 (z + k) ∧ Int32.toNatClampNeg (z + k) = 1 + q + i := fun k i hk hi => by
    have e : (z + k).toInt = 1 + (q : Int) + i := by
      rw [gb_tadd (by rw [a1, hk]; omega) (by rw [a1, hk]; omega), a1, hk]
    exact ⟨⟨by omega, by omega⟩, gb_tn (by omega)⟩
  obtain ⟨s1, t1⟩ := st 1 1 c1 (by omega)
  refine gm_ck s0 (by decide) (gm_lt (fun f4 e4 => gm_ck s1 (by decide) (gm_lt (fun f5 e5 => ?_))))
  rw [t0] at e4
  rw [t1] at e5
  have k4 := gb_Iw hI e4 (by omega) (fun q => absurd q hs) g3
  have k5 := gb_Iw k4.1 e5 (by omega) (fun q => absurd q hs) (fun q => g4 (by rw [← k4.2.2.1]; exact q))
  have hP5 := gb_Pwt k4.2.1 k5.2.1
  have z5 : f5 0 = f 0 := k5.2.2.1.trans k4.2.2.1
  have r5 : f5 3 0 = f 3 0 := by rw [k5.2.2.2, pk_un (by omega), k4.2.2.2, pk_un (by omega)]
  have last : ∀ (g : gb_F) (w2 : Int64), gb_I s g → gb_Pw f g → g 0 = f 0 → g 3 0 = f 3 0 → gb_tm (ms_adds_58 n g w2 p2 p6 z) (fun f2 _ _ => gb_I s f2 ∧ gb_Pw f f2) := fun g w2 hg hp hz hr => by
    have inc : ∀ (v : Int32), v = f 3 0 → gb_iv (gt_R s 0).1 (gt_R s 0).2 (v + 1) := fun v hv => by
      rw [h0, hv]
      have := gb_i1 (a := 0) (b := 96) (x := f 3 0) ⟨by omega, by omega⟩ (by decide)
      exact ⟨by show (0 : Int) ≤ _; omega, by show _ ≤ (M : Int); omega⟩
    unfold ms_adds_58
    refine gm_if (fun _ => gm_lt (fun v ev => gm_lt (fun g2 eg2 => gm_some ?_))) (fun c => ?_)
    · have := gb_Ic hg eg2 (inc v (by rw [ev]; exact hr))
      exact ⟨this.1, gb_Pwt hp this.2⟩
    · have h4K : 3 < K := by
        have := gb_dnle c
        omega
      obtain ⟨s3, t3⟩ := st 3 3 c3 h4K
      refine gm_ck s3 (by decide) (gm_lt (fun g2 eg2 => gm_lt (fun v ev => gm_lt (fun g3 eg3 => gm_some ?_))))
      rw [t3] at eg2
      have k6 := gb_Iw hg eg2 (by omega) (fun q => absurd q hs) (fun q => g6 h4K (by rw [← hz]; exact q))
      have r6 : g2 3 0 = f 3 0 := by rw [k6.2.2.2, pk_un (by omega), hr]
      have := gb_Ic k6.1 eg3 (inc v (by rw [ev]; exact r6))
      exact ⟨this.1, gb_Pwt hp (gb_Pwt k6.2.1 this.2)⟩
  refine gm_if (fun _ => last f5 w k5.1 hP5 z5 r5) (fun c => ?_)
  have h3K : 2 < K := by
    have := gb_dnle c
    omega
  obtain ⟨s2, t2⟩ := st 2 2 c2 h3K
  refine gm_ck s2 (by decide) (gm_lt (fun f6 e6 => ?_))
  rw [t2] at e6
  have k6 := gb_Iw k5.1 e6 (by omega) (fun q => absurd q hs) (fun q => g5 h3K (by rw [← z5]; exact q))
  exact last f6 w k6.1 (gb_Pwt hP5 k6.2.1) (k6.2.2.1.trans z5) (by rw [k6.2.2.2, pk_un (by omega), r5])
def gb_L (s : Nat) (f f2 : gb_F) : Prop := gb_I s f2 ∧ gb_Pw f f2 ∧ (¬ f2 0 8 = 0 ∨ (f 0 4).toInt < (f2 0 4).toInt)
theorem mi_gooseTold {n : Nat} (hn : gb_N ≤ n) {s : Nat} {f : gb_F} {w : Int64} (hI : gb_I s f) : gb_tm (ms_gooseTold n f w) (fun f2 _ r => gb_I s f2 ∧ gb_Pg f f2 ∧ gb_iv 0 7 r) := by
  unfold ms_gooseTold
  exact gm_bd (mi_numbered (a := 0) (b := 7) hn hI (by decide) (by decide) (by decide)) (fun f1 w1 r1 h1 => gm_some h1)
theorem mi_pathTold {n : Nat} (hn : gb_N ≤ n) {s : Nat} {f : gb_F} {w : Int64} (hI : gb_I s f) : gb_tm (ms_pathTold n f w) (fun f2 _ r => gb_I s f2 ∧ gb_Pg f f2 ∧ gb_iv 0 4 r) := by
  unfold ms_pathTold
  exact gm_bd (mi_numbered (a := 0) (b := 4) hn hI (by decide) (by decide) (by decide)) (fun f1 w1 r1 h1 => gm_some h1)
theorem gt_R1d {c i : Nat} (hi : i < 4) : gt_R 1 (1 + 4 * c + i) = if i = 0 then (0, 8) else if i = 1 then (-1, 10) else if i = 2 then (-1, 60) else (-1, 4) := by
  have q : (4 * c + i) % 4 = i := by omega
  rw [Nat.add_assoc, gt_R1, q]
theorem gt_R2t {c i : Nat} (hi : i < 3) : gt_R 2 (1 + 3 * c + i) = if i = 0 then (0, 4) else if i = 1 then (-1, 999) else (-1, 99) := by
  have q : (1 + 3 * c + i - 1) % 3 = i := by omega
  unfold gt_R
  rw [if_neg (by decide), if_neg (by decide), if_pos rfl, if_neg (by omega), q]
theorem gt_R3s {c i : Nat} (hi : i < 2) : gt_R 3 (1 + 2 * c + i) = if i = 0 then (0, 4) else (0, 999) := by
  have q : (1 + 2 * c + i - 1) % 2 = i := by omega
  unfold gt_R
  rw [if_neg (by decide), if_neg (by decide), if_neg (by decide), if_neg (by omega), q]
set_option maxHeartbeats 4000000 in
theorem mi_deedLine {n : Nat} (hn : gb_N ≤ n) {f : gb_F} {w : Int64} (hI : gb_I 1 f) : gb_tm (ms_deedLine n f w) (fun f2 _ _ => gb_L 1 f f2) := by
  unfold ms_deedLine
  refine gm_lti (gb_i4 hI.1) (fun x ex ix => ?_)
  have ix' : gb_iv (-1) 600 x := gb_iw ix (by decide)
  refine gm_bd (mi_takes (a := 4) (b := 12) hn hI (by decide) (by decide)) (fun f1 w1 r h => ?_)
  obtain ⟨hI1, hP1, hr⟩ := h
  refine gm_lt (fun v ev => ?_)
  have hv : f1 0 8 = 0 → gb_iv 0 8 v := fun q => by
    rw [ev]
    rcases hr with hr | hr
    · exact gb_isub (lo := 0) (hi := 8) hr.1 (gb_ic (a := 4) (by decide)) (by decide)
    · exact absurd q hr.1
  have none_a : gb_iv (-1) 10 (-1 : Int32) := ⟨by decide, by decide⟩
  have none_b : gb_iv (-1) 60 (-1 : Int32) := ⟨by decide, by decide⟩
  have none_c : gb_iv (-1) 4 (-1 : Int32) := ⟨by decide, by decide⟩
  have tadd : ∀ (g : gb_F) (w2 : Int64) (a b c : Int32), gb_I 1 g → gb_Pw f1 g → gb_iv (-1) 10 a → gb_iv (-1) 60 b → gb_iv (-1) 4 c → gb_tm (gb_bd (ms_adds n g w2 24 4 v a b c) (fun f_25 wl_26 _ => gb_bd (ms_endsLine n f_25 wl_26) (fun f_30 wl_31 _ => (some (f_30, wl_31, ()) : gb_MR Unit)))) (fun f2 _ _ => gb_L 1 f f2) := fun g w2 a b c hg hp ia ib ic => by
    refine gm_bd (mi_adds 24 4 hg (by decide) (by decide) (by decide) (by decide) (by decide) (by decide) (fun q k hk => ?_) (fun q k hk => ?_) (fun _ q k hk => ?_) (fun _ q k hk => ?_)) (fun f3 w3 _ h3 => ?_)
    · rw [gt_R1d (by decide)]
      exact hv (gb_Pw0 hp q)
    · rw [gt_R1d (by decide)]
      exact ia
    · rw [gt_R1d (by decide)]
      exact ib
    · rw [gt_R1d (by decide)]
      exact ic
    · refine gm_bd (mi_endsLine hn h3.1) (fun f5 w5 _ h5 => gm_some ?_)
      have hp5 := gb_Pwt hp (gb_Pwt h3.2 h5.2.1)
      exact ⟨h5.1, gb_Pwt hP1.1 hp5, gb_fin hr hp5⟩
  have t152 : ∀ (g : gb_F) (w2 : Int64) (a b c : Int32), gb_I 1 g → gb_Pw f1 g → gb_iv (-1) 10 a → gb_iv (-1) 60 b → gb_iv (-1) 4 c → gb_tm (ms_deedLine_152 n g w2 v a b c) (fun f2 _ _ => gb_L 1 f f2) := fun g w2 a b c hg hp ia ib ic => by
    unfold ms_deedLine_152
    refine gm_if (fun _ => ?_) (fun _ => tadd g w2 a b c hg hp ia ib ic)
    exact gm_bd (mi_pathTold hn hg) (fun f3 w3 r3 h3 => tadd f3 w3 r3 b c h3.1 (gb_Pwt hp h3.2.1.1) (gb_iw h3.2.2 (by decide)) ib ic)
  have t139 : ∀ (g : gb_F) (w2 : Int64) (a b c : Int32), gb_I 1 g → gb_Pw f1 g → gb_iv (-1) 10 a → gb_iv (-1) 60 b → gb_iv (-1) 4 c → gb_tm (ms_deedLine_139 n g w2 v a b c) (fun f2 _ _ => gb_L 1 f f2) := fun g w2 a b c hg hp ia ib ic => by
    unfold ms_deedLine_139
    refine gm_if (fun _ => ?_) (fun _ => t152 g w2 a b c hg hp ia ib ic)
    exact gm_bd (mi_numbered (a := 0) (b := 10) hn hg (by decide) (by decide) (by decide)) (fun f3 w3 r3 h3 => t152 f3 w3 r3 b c h3.1 (gb_Pwt hp h3.2.1.1) (gb_iw h3.2.2 (by decide)) ib ic)
  have t125 : ∀ (g : gb_F) (w2 : Int64) (a b c : Int32), gb_I 1 g → gb_Pw f1 g → gb_iv (-1) 10 a → gb_iv (-1) 60 b → gb_iv (-1) 4 c → gb_tm (ms_deedLine_125 n g w2 v a b c) (fun f2 _ _ => gb_L 1 f f2) := fun g w2 a b c hg hp ia ib ic => by
    unfold ms_deedLine_125
    refine gm_if (fun _ => ?_) (fun _ => t139 g w2 a b c hg hp ia ib ic)
    exact gm_bd (mi_numbered (a := 0) (b := 60) hn hg (by decide) (by decide) (by decide)) (fun f3 w3 r3 h3 => t139 f3 w3 a r3 c h3.1 (gb_Pwt hp h3.2.1.1) ia (gb_iw h3.2.2 (by decide)) ic)
  have t113 : ∀ (g : gb_F) (w2 : Int64) (a : Int32), gb_I 1 g → gb_Pw f1 g → gb_iv (-1) 10 a → gb_tm (ms_deedLine_113 n g w2 v a) (fun f2 _ _ => gb_L 1 f f2) := fun g w2 a hg hp ia => by
    unfold ms_deedLine_113
    refine gm_bd (mi_gooseTold hn hg) (fun f3 w3 r3 h3 => ?_)
    exact gm_bd (mi_pathTold hn h3.1) (fun f4 w4 r4 h4 => t125 f4 w4 a r3 r4 h4.1 (gb_Pwt hp (gb_Pwt h3.2.1.1 h4.2.1.1)) ia (gb_iw h3.2.2 (by decide)) (gb_iw h4.2.2 (by decide)))
  have t76 : ∀ (g : gb_F) (w2 : Int64) (a b c : Int32), gb_I 1 g → gb_Pw f1 g → gb_iv (-1) 10 a → gb_iv (-1) 60 b → gb_iv (-1) 4 c → gb_tm (ms_deedLine_76 n g w2 v a b c) (fun f2 _ _ => gb_L 1 f f2) := fun g w2 a b c hg hp ia ib ic => by
    unfold ms_deedLine_76
    refine gm_if (fun _ => gm_if (fun _ => gm_if (fun _ => gm_if (fun _ => ?_) (fun _ => t113 g w2 a hg hp ia)) (fun _ => t113 g w2 a hg hp ia)) (fun _ => t113 g w2 a hg hp ia)) (fun _ => t125 g w2 a b c hg hp ia ib ic)
    exact gm_bd (mi_also hg ⟨by decide, by decide⟩ (gb_iw (gb_i4 hg.1) (by decide))) (fun f3 w3 _ h3 => t113 f3 w3 a h3.1 (gb_Pwt hp h3.2.1.1) ia)
  have t61 : ∀ (g : gb_F) (w2 : Int64) (a b c : Int32), gb_I 1 g → gb_Pw f1 g → gb_iv (-1) 10 a → gb_iv (-1) 60 b → gb_iv (-1) 4 c → gb_tm (ms_deedLine_61 n g w2 v a b c) (fun f2 _ _ => gb_L 1 f f2) := fun g w2 a b c hg hp ia ib ic => by
    unfold ms_deedLine_61
    refine gm_bdP mt_isIn (fun r2 _ => gm_if (fun _ => t76 g w2 a b c hg hp ia ib ic) (fun _ => ?_))
    exact gm_bd (mi_pathTold hn hg) (fun f3 w3 r3 h3 => t76 f3 w3 a r3 c h3.1 (gb_Pwt hp h3.2.1.1) ia (gb_iw h3.2.2 (by decide)) ic)
  have t39 : ∀ (g : gb_F) (w2 : Int64), gb_I 1 g → gb_Pw f1 g → gb_tm (ms_deedLine_39 n g w2 v) (fun f2 _ _ => gb_L 1 f f2) := fun g w2 hg hp => by
    unfold ms_deedLine_39
    refine gm_bdP mt_isIn (fun r2 _ => gm_if (fun _ => t61 g w2 (-1) (-1) (-1) hg hp none_a none_b none_c) (fun _ => ?_))
    exact gm_bd (mi_gooseTold hn hg) (fun f3 w3 r3 h3 => t61 f3 w3 r3 (-1) (-1) h3.1 (gb_Pwt hp h3.2.1.1) (gb_iw h3.2.2 (by decide)) none_b none_c)
  refine gm_if (fun _ => gm_lt (fun y ey => gm_if (fun _ => t39 f1 w1 hI1 gb_Pwr) (fun _ => ?_))) (fun _ => t39 f1 w1 hI1 gb_Pwr)
  exact gm_bd (mi_also hI1 ⟨by decide, by decide⟩ ix') (fun f3 w3 _ h3 => t39 f3 w3 h3.1 h3.2.1.1)
set_option maxHeartbeats 4000000 in
theorem mi_termLine {n : Nat} (hn : gb_N ≤ n) {f : gb_F} {w : Int64} (hI : gb_I 2 f) : gb_tm (ms_termLine n f w) (fun f2 _ _ => gb_L 2 f f2) := by
  unfold ms_termLine
  refine gm_lti (gb_i4 hI.1) (fun x ex ix => ?_)
  have ix' : gb_iv (-1) 600 x := gb_iw ix (by decide)
  refine gm_bd (mi_takes (a := 13) (b := 17) hn hI (by decide) (by decide)) (fun f1 w1 r h => ?_)
  obtain ⟨hI1, hP1, hr⟩ := h
  refine gm_lt (fun v ev => ?_)
  have hv : f1 0 8 = 0 → gb_iv 0 4 v := fun q => by
    rw [ev]
    rcases hr with hr | hr
    · exact gb_isub (lo := 0) (hi := 4) hr.1 (gb_ic (a := 13) (by decide)) (by decide)
    · exact absurd q hr.1
  have none_a : gb_iv (-1) 999 (-1 : Int32) := ⟨by decide, by decide⟩
  have none_b : gb_iv (-1) 99 (-1 : Int32) := ⟨by decide, by decide⟩
  have tadd : ∀ (g : gb_F) (w2 : Int64) (a b : Int32), gb_I 2 g → gb_Pw f1 g → gb_iv (-1) 999 a → gb_iv (-1) 99 b → gb_tm (gb_bd (ms_adds n g w2 8 3 v a b (-1)) (fun f_25 wl_26 _ => gb_bd (ms_endsLine n f_25 wl_26) (fun f_30 wl_31 _ => (some (f_30, wl_31, ()) : gb_MR Unit)))) (fun f2 _ _ => gb_L 2 f f2) := fun g w2 a b hg hp ia ib => by
    refine gm_bd (mi_adds 8 3 hg (by decide) (by decide) (by decide) (by decide) (by decide) (by decide) (fun q k hk => ?_) (fun q k hk => ?_) (fun _ q k hk => ?_) (fun h => absurd h (by decide))) (fun f3 w3 _ h3 => ?_)
    · rw [gt_R2t (by decide)]
      exact hv (gb_Pw0 hp q)
    · rw [gt_R2t (by decide)]
      exact ia
    · rw [gt_R2t (by decide)]
      exact ib
    · refine gm_bd (mi_endsLine hn h3.1) (fun f5 w5 _ h5 => gm_some ?_)
      have hp5 := gb_Pwt hp (gb_Pwt h3.2 h5.2.1)
      exact ⟨h5.1, gb_Pwt hP1.1 hp5, gb_fin hr hp5⟩
  have t99 : ∀ (g : gb_F) (w2 : Int64) (a b : Int32), gb_I 2 g → gb_Pw f1 g → gb_iv (-1) 999 a → gb_iv (-1) 99 b → gb_tm (ms_termLine_99 n g w2 v a b) (fun f2 _ _ => gb_L 2 f f2) := fun g w2 a b hg hp ia ib => by
    unfold ms_termLine_99
    refine gm_if (fun _ => ?_) (fun _ => tadd g w2 a b hg hp ia ib)
    exact gm_bd (mi_numbered (a := 0) (b := 999) hn hg (by decide) (by decide) (by decide)) (fun f3 w3 r3 h3 => tadd f3 w3 r3 b h3.1 (gb_Pwt hp h3.2.1.1) (gb_iw h3.2.2 (by decide)) ib)
  have t86 : ∀ (g : gb_F) (w2 : Int64) (a b : Int32), gb_I 2 g → gb_Pw f1 g → gb_iv (-1) 999 a → gb_iv (-1) 99 b → gb_tm (ms_termLine_86 n g w2 v a b) (fun f2 _ _ => gb_L 2 f f2) := fun g w2 a b hg hp ia ib => by
    unfold ms_termLine_86
    refine gm_if (fun _ => ?_) (fun _ => t99 g w2 a b hg hp ia ib)
    exact gm_bd (mi_numbered (a := 0) (b := 99) hn hg (by decide) (by decide) (by decide)) (fun f3 w3 r3 h3 => t99 f3 w3 r3 b h3.1 (gb_Pwt hp h3.2.1.1) (gb_iw h3.2.2 (by decide)) ib)
  have t68 : ∀ (g : gb_F) (w2 : Int64), gb_I 2 g → gb_Pw f1 g → gb_tm (ms_termLine_68 n g w2 v) (fun f2 _ _ => gb_L 2 f f2) := fun g w2 hg hp => by
    unfold ms_termLine_68
    refine gm_bd (mi_numbered (a := 0) (b := 999) hn hg (by decide) (by decide) (by decide)) (fun f3 w3 r3 h3 => ?_)
    exact gm_bd (mi_numbered (a := 0) (b := 99) hn h3.1 (by decide) (by decide) (by decide)) (fun f4 w4 r4 h4 => t86 f4 w4 r3 r4 h4.1 (gb_Pwt hp (gb_Pwt h3.2.1.1 h4.2.1.1)) (gb_iw h3.2.2 (by decide)) (gb_iw h4.2.2 (by decide)))
  have t58 : ∀ (g : gb_F) (w2 : Int64) (a b : Int32), gb_I 2 g → gb_Pw f1 g → gb_iv (-1) 999 a → gb_iv (-1) 99 b → gb_tm (ms_termLine_58 n g w2 v a b) (fun f2 _ _ => gb_L 2 f f2) := fun g w2 a b hg hp ia ib => by
    unfold ms_termLine_58
    exact gm_if (fun _ => t68 g w2 hg hp) (fun _ => gm_if (fun _ => t68 g w2 hg hp) (fun _ => t86 g w2 a b hg hp ia ib))
  have t41 : ∀ (g : gb_F) (w2 : Int64), gb_I 2 g → gb_Pw f1 g → gb_tm (ms_termLine_41 n g w2 v) (fun f2 _ _ => gb_L 2 f f2) := fun g w2 hg hp => by
    unfold ms_termLine_41
    refine gm_if (fun _ => ?_) (fun _ => t58 g w2 (-1) (-1) hg hp none_a none_b)
    exact gm_bd (mi_numbered (a := 0) (b := 9) hn hg (by decide) (by decide) (by decide)) (fun f3 w3 r3 h3 => t58 f3 w3 r3 (-1) h3.1 (gb_Pwt hp h3.2.1.1) (gb_iw h3.2.2 (by decide)) none_b)
  refine gm_if (fun _ => gm_lt (fun y ey => gm_if (fun _ => t41 f1 w1 hI1 gb_Pwr) (fun _ => ?_))) (fun _ => t41 f1 w1 hI1 gb_Pwr)
  exact gm_bd (mi_also hI1 ⟨by decide, by decide⟩ ix') (fun f3 w3 _ h3 => t41 f3 w3 h3.1 h3.2.1.1)
theorem gb_I9 {s : Nat} {f f2 : gb_F} {v : Int32} (hI : gb_I s f) (e2 : f2 = gb_u f 0 (upd (f 0) 9 v)) : gb_I s f2 ∧ gb_Pw f f2 := by
  obtain ⟨k1, k2, k3, k4, k6⟩ := hI
  rw [e2]
  exact ⟨⟨gb_TMfj k1 rfl, k2, k3, k4, k6⟩, ⟨Int.le_refl _, fun q => q, fun _ _ _ => rfl⟩⟩
set_option maxHeartbeats 4000000 in
theorem mi_seenLine_54 {n : Nat} (hn : gb_N ≤ n) {f f1 : gb_F} {r : Int32} {a b : Int} (hP1 : gb_Pw f f1) (hr : gb_iv a b r ∧ (f 0 4).toInt < (f1 0 4).toInt ∨ ¬ f1 0 8 = 0 ∧ r = 0) : ∀ (mm : Nat) (g : gb_F) (w : Int64) (v2 v3 v4 : Int32), gb_I 3 g → gb_Pw f1 g → gb_iv 0 4 v2 → gb_iv 0 999 v3 → gb_iv 0 5 v4 → (5 - v4.toInt).toNat < mm → gb_tm (ms_seenLine_54 n mm g w v2 v3 v4) (fun f2 _ _ => gb_L 3 f f2) := by
  intro mm
  induction mm with
  | zero =>
    intro g w v2 v3 v4 hg hp i2 i3 i4 hm
    exact absurd hm (Nat.not_lt_zero _)
  | succ mm ih =>
    intro g w v2 v3 v4 hg hp i2 i3 i4 hm
    rw [ms_seenLine_54]
    refine gm_lt (fun x ex => ?_)
    have ix : gb_iv 0 5 x := by
      rw [ex]
      exact hg.2.1.1
    refine gm_if (fun c => ?_) (fun c => ?_)
    · refine gm_bd (mi_adds 5 2 hg (by decide) (by decide) (by decide) (by decide) (by decide) (by decide) (fun q k hk => ?_) (fun q k hk => ?_) (fun h => absurd h (by decide)) (fun h => absurd h (by decide))) (fun f3 w3 _ h3 => ?_)
      · rw [gt_R3s (by decide)]
        exact i2
      · rw [gt_R3s (by decide)]
        exact i3
      · refine gm_bd (mi_endsLine hn h3.1) (fun f5 w5 _ h5 => gm_some ?_)
        have hp5 := gb_Pwt hp (gb_Pwt h3.2 h5.2.1)
        exact ⟨h5.1, gb_Pwt hP1 hp5, gb_fin hr hp5⟩
    · have i4' : gb_iv 0 4 v4 := gb_rU (s := 1) (gb_dnle c) i4 ix (by decide)
      have st : ∀ y : Int32, y = v4 + 1 → gb_iv 0 5 y := fun y e => by
        rw [e]
        exact gb_iw (gb_iadd (lo := 1) (hi := 5) i4' (gb_ic (a := 1) (by decide)) (by decide)) (by decide)
      have go : ∀ (g2 : gb_F) (x9 y : Int32), g2 = gb_u g 0 (upd (g 0) 9 x9) → y = v4 + 1 → gb_tm (ms_seenLine_54 n mm g2 w v2 v3 y) (fun f2 _ _ => gb_L 3 f f2) := fun g2 x9 y e2 ey => by
        have k := gb_I9 hg e2
        exact ih g2 w v2 v3 y k.1 (gb_Pwt hp k.2) i2 i3 (st y ey) (gb_mup ey i4' (by decide) hm)
      refine gm_if (fun _ => ?_) (fun _ => gm_lt (fun g2 e2 => gm_lt (fun y ey => go g2 1 y e2 ey)))
      refine gm_ck (gb_iadd (lo := 1) (hi := 9) (gb_ic (a := 1) (by decide)) (gb_imul (lo := 0) (hi := 8) (gb_ic (a := 2) (by decide)) i4' (by decide)) (by decide)) (by decide) (gm_lt (fun z ez => ?_))
      exact gm_if (fun _ => gm_lt (fun g2 e2 => gm_lt (fun y ey => go g2 1 y e2 ey))) (fun _ => gm_lt (fun g2 e2 => gm_lt (fun y ey => go g2 0 y e2 ey)))
theorem mi_seenLine {n : Nat} (hn : gb_N ≤ n) {f : gb_F} {w : Int64} (hI : gb_I 3 f) : gb_tm (ms_seenLine n f w) (fun f2 _ _ => gb_L 3 f f2) := by
  unfold ms_seenLine
  refine gm_lti (gb_i4 hI.1) (fun x ex ix => ?_)
  have ix' : gb_iv (-1) 600 x := gb_iw ix (by decide)
  refine gm_bd (mi_takes (a := 18) (b := 18) hn hI (by decide) (by decide)) (fun f1 w1 r h => ?_)
  obtain ⟨hI1, hP1, hr⟩ := h
  have i0 : gb_iv 0 5 (0 : Int32) := gb_iw (gb_ic (a := 0) (by decide)) (by decide)
  have tl : ∀ (g : gb_F) (w2 : Int64), gb_I 3 g → gb_Pw f1 g → gb_tm (gb_bd (ms_pathTold n g w2) (fun f_57 wl_58 r_59 => gb_bd (ms_numbered n f_57 wl_58 0 999) (fun f_62 wl_63 r_64 => ms_seenLine_54 n n f_62 wl_63 r_59 r_64 0))) (fun f2 _ _ => gb_L 3 f f2) := fun g w2 hg hp => by
    refine gm_bd (mi_pathTold hn hg) (fun f3 w3 r3 h3 => ?_)
    exact gm_bd (mi_numbered (a := 0) (b := 999) hn h3.1 (by decide) (by decide) (by decide)) (fun f4 w4 r4 h4 => mi_seenLine_54 hn hP1.1 hr n f4 w4 r3 r4 0 h4.1 (gb_Pwt hp (gb_Pwt h3.2.1.1 h4.2.1.1)) h3.2.2 h4.2.2 i0 (gb_fuu hn i0 (by decide)))
  refine gm_if (fun _ => gm_lt (fun y ey => gm_if (fun _ => tl f1 w1 hI1 gb_Pwr) (fun _ => ?_))) (fun _ => tl f1 w1 hI1 gb_Pwr)
  exact gm_bd (mi_also hI1 ⟨by decide, by decide⟩ ix') (fun f3 w3 _ h3 => tl f3 w3 h3.1 h3.2.1.1)
/-! text -/
def gb_pl (s k : Nat) : Nat := if s = 0 then 610 + 58 * k else if s = 1 then 726 + 97 * k else if s = 2 then 920 + 25 * k else 970 + 11 * k
def gb_sz (s : Nat) : Nat := if s = 0 then 58 else if s = 1 then 97 else if s = 2 then 25 else 11
theorem gt_1R {s k i : Nat} (hs : s ≤ 3) (hk : k ≤ 1) (hi : i < gb_sz s) : gt_1 ((gb_pl s k + i) % 992) = gt_R s i ∧ gb_pl s k + i < 992 := by
  have hs' : s = 0 ∨ s = 1 ∨ s = 2 ∨ s = 3 := by omega
  have hk' : k = 0 ∨ k = 1 := by omega
  rcases hs' with rfl | rfl | rfl | rfl
  · have h : i < 58 := hi
    have e : gb_pl 0 k = 610 + 58 * k := rfl
    rw [e]
    have q : (610 + 58 * k + i) % 992 = 610 + 58 * k + i := by omega
    have q2 : (610 + 58 * k + i - 610) % 58 = i := by omega
    refine ⟨?_, by omega⟩
    rw [q]
    unfold gt_1
    rw [if_neg (by omega), if_neg (by omega), if_neg (by omega), if_neg (by omega), if_neg (by omega), if_neg (by omega), if_pos (by omega), q2]
  · have h : i < 97 := hi
    have e : gb_pl 1 k = 726 + 97 * k := rfl
    rw [e]
    have q : (726 + 97 * k + i) % 992 = 726 + 97 * k + i := by omega
    have q2 : (726 + 97 * k + i - 726) % 97 = i := by omega
    refine ⟨?_, by omega⟩
    rw [q]
    unfold gt_1
    rw [if_neg (by omega), if_neg (by omega), if_neg (by omega), if_neg (by omega), if_neg (by omega), if_neg (by omega), if_neg (by omega), if_pos (by omega), q2]
  · have h : i < 25 := hi
    have e : gb_pl 2 k = 920 + 25 * k := rfl
    rw [e]
    have q : (920 + 25 * k + i) % 992 = 920 + 25 * k + i := by omega
    have q2 : (920 + 25 * k + i - 920) % 25 = i := by omega
    refine ⟨?_, by omega⟩
    rw [q]
    unfold gt_1
    rw [if_neg (by omega), if_neg (by omega), if_neg (by omega), if_neg (by omega), if_neg (by omega), if_neg (by omega), if_neg (by omega), if_neg (by omega), if_pos (by omega), q2]
  · have h : i < 11 := hi
    have e : gb_pl 3 k = 970 + 11 * k := rfl
    rw [e]
    have q : (970 + 11 * k + i) % 992 = 970 + 11 * k + i := by omega
    have q2 : (970 + 11 * k + i - 970) % 11 = i := by omega
    refine ⟨?_, by omega⟩
    rw [q]
    unfold gt_1
    rw [if_neg (by omega), if_neg (by omega), if_neg (by omega), if_neg (by omega), if_neg (by omega), if_neg (by omega), if_neg (by omega), if_neg (by omega), if_neg (by omega), q2]
theorem gb_so {v : Int32} {s : Nat} (h : v.toInt = s) (hs : s ≤ 3) : (v = 0 ∧ s = 0) ∨ (v = 1 ∧ s = 1) ∨ (v = 2 ∧ s = 2) ∨ (v = 3 ∧ s = 3) := by
  have c : s = 0 ∨ s = 1 ∨ s = 2 ∨ s = 3 := by omega
  rcases c with c | c | c | c
  · exact Or.inl ⟨gb_ieq (h.trans (by rw [c]; decide)), c⟩
  · exact Or.inr (Or.inl ⟨gb_ieq (h.trans (by rw [c]; decide)), c⟩)
  · exact Or.inr (Or.inr (Or.inl ⟨gb_ieq (h.trans (by rw [c]; decide)), c⟩))
  · exact Or.inr (Or.inr (Or.inr ⟨gb_ieq (h.trans (by rw [c]; decide)), c⟩))
theorem mt_sizeOfE {n : Nat} {f : gb_F} {w : Int64} {v : Int32} {s : Nat} (h : v.toInt = s) (hs : s ≤ 3) : gb_tm (ms_sizeOf n f w v) (fun f2 w2 r => f2 = f ∧ w2 = w ∧ r.toInt = gb_sz s) := by
  unfold ms_sizeOf
  rcases gb_so h hs with ⟨rfl, rfl⟩ | ⟨rfl, rfl⟩ | ⟨rfl, rfl⟩ | ⟨rfl, rfl⟩ <;> exact gm_some ⟨rfl, rfl, by decide⟩
theorem mt_placeOfE {n : Nat} {f : gb_F} {w : Int64} {v u : Int32} {s k : Nat} (h : v.toInt = s) (hs : s ≤ 3) (hu : u.toInt = k) (hk : k ≤ 1) : gb_tm (ms_placeOf n f w v u) (fun f2 w2 r => f2 = f ∧ w2 = w ∧ r.toInt = gb_pl s k) := by
  have hk' : (u = 0 ∧ k = 0) ∨ (u = 1 ∧ k = 1) := by
    have c : k = 0 ∨ k = 1 := by omega
    rcases c with c | c
    · exact Or.inl ⟨gb_ieq (hu.trans (by rw [c]; decide)), c⟩
    · exact Or.inr ⟨gb_ieq (hu.trans (by rw [c]; decide)), c⟩
  unfold ms_placeOf
  rcases gb_so h hs with ⟨rfl, rfl⟩ | ⟨rfl, rfl⟩ | ⟨rfl, rfl⟩ | ⟨rfl, rfl⟩ <;> rcases hk' with ⟨rfl, rfl⟩ | ⟨rfl, rfl⟩ <;> exact gm_some ⟨rfl, rfl, by decide⟩
theorem gb_sz_le (s : Nat) : gb_sz s ≤ 97 := by
  unfold gb_sz
  split
  · decide
  · split
    · decide
    · split <;> decide
set_option maxHeartbeats 4000000 in
theorem mt_text_248 {n : Nat} {v1 v3 : Int32} {s k : Nat} (h1 : v1.toInt = s) (hs : s ≤ 3) (h3 : v3.toInt = k) (hk : k ≤ 1) : ∀ (mm : Nat) (f : gb_F) (w : Int64) (v4 : Int32), gb_TM f → (∀ j, j < 97 → gb_iv (gt_R s j).1 (gt_R s j).2 (f 3 j)) → gb_iv 0 97 v4 → (97 - v4.toInt).toNat < mm → gb_tm (ms_text_248 n mm f w v1 v3 v4) (fun f2 _ _ => gb_TM f2) := by
  intro mm
  induction mm with
  | zero =>
    intro f w v4 hT hR i4 hm
    exact absurd hm (Nat.not_lt_zero _)
  | succ mm ih =>
    intro f w v4 hT hR i4 hm
    rw [ms_text_248]
    refine gm_bdP (mt_sizeOfE h1 hs) (fun r hr => gm_if (fun _ => gm_some hT) (fun c => ?_))
    have hc := gb_dnle c
    have hle := gb_sz_le s
    have i4' : gb_iv 0 96 v4 := ⟨i4.1, by omega⟩
    refine gm_bdP (mt_placeOfE h1 hs h3 hk) (fun p hp => ?_)
    obtain ⟨i, hi, -⟩ := gb_cn i4' (by decide)
    obtain ⟨q1, q2⟩ := gt_1R hs hk (i := i) (by omega)
    have ep : (p + v4).toInt = ((gb_pl s k + i : Nat) : Int) := by
      rw [gb_tadd (by rw [hp, hi]; omega) (by rw [hp, hi]; omega), hp, hi]
      omega
    have e4 : Int32.toNatClampNeg v4 = i := gb_tn hi
    have e5 : Int32.toNatClampNeg (p + v4) = gb_pl s k + i := gb_tn ep
    refine gm_ck i4' (by decide) (gm_lt (fun x ex => gm_ck (a := 0) (b := 991) ⟨by omega, by omega⟩ (by decide) (gm_lt (fun f2 e2 => gm_lt (fun y ey => ?_)))))
    have hT2 : gb_TM f2 := by
      rw [e2, e5]
      refine gb_TMu1 hT ?_
      rw [q1, ex, e4]
      exact hR i (by omega)
    have e3 : f2 3 = f 3 := by
      rw [e2]
      rfl
    refine ih f2 w y hT2 (by rw [e3]; exact hR) ?_ (gb_mup ey i4' (by decide) hm)
    rw [ey]
    exact gb_iw (gb_iadd (lo := 1) (hi := 97) i4' (gb_ic (a := 1) (by decide)) (by decide)) (by decide)
/-- what the end of text needs: the number, if it is a further one -/
def gb_E (s : Nat) (v2 : Int32) (f : gb_F) : Prop := (v2 = -1 → (f 1 s).toInt ≤ 1) ∧ (¬ v2 = -1 → gb_iv 0 1 v2)
theorem gb_E_keep {s : Nat} {v2 : Int32} {f f2 : gb_F} (hs : s ≤ 3) (h : gb_E s v2 f) (g : gb_Pw f f2) : gb_E s v2 f2 := by
  refine ⟨fun q => ?_, h.2⟩
  rw [g.2.2 s (by omega) (by omega)]
  exact h.1 q
set_option maxHeartbeats 4000000 in
theorem mt_text_178 {n : Nat} (hn : gb_N ≤ n) {f : gb_F} {w : Int64} {v1 v2 : Int32} {s : Nat} (h1 : v1.toInt = s) (hs : s ≤ 3) (hI : gb_I s f) (hE : gb_E s v2 f) : gb_tm (ms_text_178 n f w v1 v2) (fun f2 _ _ => gb_TM f2) := by
  have es : Int32.toNatClampNeg v1 = s := gb_tn h1
  have i1 : gb_iv 0 3 v1 := ⟨by omega, by omega⟩
  have i0 : gb_iv 0 97 (0 : Int32) := gb_iw (gb_ic (a := 0) (by decide)) (by decide)
  have t203 : ∀ (g : gb_F) (w2 : Int64), gb_I s g → gb_E s v2 g → gb_tm (ms_text_203 n g w2 v1 v2) (fun f2 _ _ => gb_TM f2) := by
    intro g w2 hg he
    have hT := hg.1
    unfold ms_text_203
    refine gm_lt (fun x ex => gm_if (fun c => ?_) (fun _ => gm_some hT))
    have h8 : g 0 8 = 0 := Classical.byContradiction (fun q => hg.2.2.2.2 q (by rw [ex] at c; exact c))
    have hR := hg.2.2.1 h8
    have t229 : ∀ (t : Int32) (k : Nat), t.toInt = k → k ≤ 1 → gb_tm (ms_text_229 n g w2 v1 v2 t) (fun f2 _ _ => gb_TM f2) := fun t k ht hk => by
      unfold ms_text_229
      refine gm_if (fun c2 => ?_) (fun _ => mt_text_248 h1 hs ht hk n g w2 0 hT hR i0 (gb_fuu hn i0 (by decide)))
      refine gm_ck i1 (by decide) (gm_lti (gt_1s hT i1) (fun y ey iy => gm_ck i1 (by decide) (gm_lt (fun g2 eg => ?_))))
      have hy : gb_iv 0 1 y := ⟨iy.1, by rw [ey, es]; exact he.1 c2⟩
      have hT2 : gb_TM g2 := by
        rw [eg]
        refine gb_TMu1 hT ?_
        rw [es]
        have q : s % 992 = s := Nat.mod_eq_of_lt (by omega)
        rw [q]
        unfold gt_1
        rw [if_pos (by omega)]
        exact gb_iw (gb_iadd (lo := 1) (hi := 2) hy (gb_ic (a := 1) (by decide)) (by decide)) (by decide)
      have e3 : g2 3 = g 3 := by
        rw [eg]
        rfl
      exact mt_text_248 h1 hs ht hk n g2 w2 0 hT2 (by rw [e3]; exact hR) i0 (gb_fuu hn i0 (by decide))
    refine gm_if (fun c2 => ?_) (fun c2 => ?_)
    · refine gm_ck i1 (by decide) (gm_lti (gt_1s hT i1) (fun y ey iy => ?_))
      have hy : gb_iv 0 1 y := ⟨iy.1, by rw [ey, es]; exact he.1 c2⟩
      obtain ⟨k, hk, hk1⟩ := gb_cn hy (by decide)
      exact t229 y k hk (by omega)
    · obtain ⟨k, hk, hk1⟩ := gb_cn (he.2 c2) (by decide)
      exact t229 v2 k hk (by omega)
  unfold ms_text_178
  refine gm_lt (fun x ex => gm_if (fun _ => gm_if (fun _ => t203 f w hI hE) (fun _ => ?_)) (fun _ => t203 f w hI hE))
  exact gm_bd (mi_also hI ⟨by decide, by decide⟩ (gb_iw (gb_i4 hI.1) (by decide))) (fun f3 w3 _ h3 => t203 f3 w3 h3.1 (gb_E_keep hs hE h3.2.1.1))
def gb_mz (f : gb_F) : Nat := if f 0 8 = 0 then (601 - (f 0 4).toInt).toNat else 0
set_option maxHeartbeats 4000000 in
theorem mt_text_122 {n : Nat} (hn : gb_N ≤ n) {v1 v2 : Int32} {s : Nat} (h1 : v1.toInt = s) (hs : s ≤ 3) : ∀ (mm : Nat) (f : gb_F) (w : Int64), gb_I s f → gb_E s v2 f → gb_mz f < mm → gb_tm (ms_text_122 n mm f w v1 v2) (fun f2 _ _ => gb_TM f2) := by
  intro mm
  induction mm with
  | zero =>
    intro f w hI hE hm
    exact absurd hm (Nat.not_lt_zero _)
  | succ mm ih =>
    intro f w hI hE hm
    rw [ms_text_122]
    refine gm_if (fun c => gm_if (fun _ => mt_text_178 hn h1 hs hI hE) (fun _ => ?_)) (fun _ => mt_text_178 hn h1 hs hI hE)
    have st : ∀ (f2 : gb_F) (w2 : Int64), gb_L s f f2 → gb_tm (ms_text_122 n mm f2 w2 v1 v2) (fun f2 _ _ => gb_TM f2) := fun f2 w2 h => by
      refine ih f2 w2 h.1 (gb_E_keep hs hE h.2.1) ?_
      have h6 := (gb_i4 h.1.1).2
      have h7 := (gb_i4 hI.1).2
      unfold gb_mz at hm ⊢
      rw [if_pos c] at hm
      by_cases z : f2 0 8 = 0
      · rw [if_pos z]
        rcases h.2.2 with q | q
        · exact absurd z q
        · omega
      · rw [if_neg z]
        omega
    rcases gb_so h1 hs with ⟨e, rfl⟩ | ⟨e, rfl⟩ | ⟨e, rfl⟩ | ⟨e, rfl⟩
    · rw [if_pos e]
      exact gm_bd (mi_borderLine hn hI) (fun f2 w2 _ h => st f2 w2 h)
    · rw [if_neg (by rw [e]; decide), if_pos e]
      exact gm_bd (mi_deedLine hn hI) (fun f2 w2 _ h => st f2 w2 h)
    · rw [if_neg (by rw [e]; decide), if_neg (by rw [e]; decide), if_pos e]
      exact gm_bd (mi_termLine hn hI) (fun f2 w2 _ h => st f2 w2 h)
    · rw [if_neg (by rw [e]; decide), if_neg (by rw [e]; decide), if_neg (by rw [e]; decide)]
      exact gm_bd (mi_seenLine hn hI) (fun f2 w2 _ h => st f2 w2 h)
theorem gt_R00 {s j : Nat} : gb_iv (gt_R s j).1 (gt_R s j).2 0 := by
  have z : (0 : Int32).toInt = 0 := by decide
  unfold gb_iv gt_R
  rw [z]
  repeat' split
  all_goals decide
set_option maxHeartbeats 4000000 in
theorem mt_text_88 {n : Nat} (hn : gb_N ≤ n) {v1 v2 : Int32} {s : Nat} (h1 : v1.toInt = s) (hs : s ≤ 3) : ∀ (mm : Nat) (f : gb_F) (w : Int64) (v3 : Int32), gb_TM f → f 0 3 = 0 → f 0 8 = 0 → gb_E s v2 f → gb_iv 0 97 v3 → (∀ j : Nat, (j : Int) < v3.toInt → f 3 j = 0) → (97 - v3.toInt).toNat < mm → gb_tm (ms_text_88 n mm f w v1 v2 v3) (fun f2 _ _ => gb_TM f2) := by
  intro mm
  induction mm with
  | zero =>
    intro f w v3 hT h3 h8 hE i3 hz hm
    exact absurd hm (Nat.not_lt_zero _)
  | succ mm ih =>
    intro f w v3 hT h3 h8 hE i3 hz hm
    rw [ms_text_88]
    have c97 : (97 : Int32).toInt = 97 := by decide
    refine gm_if (fun c => ?_) (fun c => ?_)
    · have hc := gb_dle c
      have z0 : ∀ j, j < 97 → f 3 j = 0 := fun j hj => hz j (by omega)
      have fin : ∀ (g : gb_F) (w2 : Int64), gb_TM g → g 0 = f 0 → g 1 = f 1 → (∀ j, j < 97 → gb_iv (gt_R s j).1 (gt_R s j).2 (g 3 j)) → gb_tm (gb_bd (ms_advance n g w2) (fun f_24 wl_25 _ => ms_text_122 n n f_24 wl_25 v1 v2)) (fun f2 _ _ => gb_TM f2) := fun g w2 hg e0 e1 hR => by
        refine gm_bd (mt_advance hn hg) (fun f2 w3 _ hA => ?_)
        obtain ⟨⟨a1, a2, a3, a4, a5⟩, b1, b2, b3⟩ := hA
        have q8 : f2 0 8 = 0 := by
          rw [a4, e0]
          exact h8
        have hI : gb_I s f2 := by
          refine ⟨a1, ⟨?_, fun q => ?_⟩, fun _ j hj => ?_, ⟨b2, b3⟩, fun q => absurd q8 q⟩
          · rw [a3]
            exact hR 0 (by decide)
          · rw [a3]
            have := hR 1 (by decide)
            rw [q] at this
            exact this
          · rw [a3]
            exact hR j hj
        refine mt_text_122 hn h1 hs n f2 w3 hI ⟨fun q => ?_, hE.2⟩ ?_
        · rw [a2, e1]
          exact hE.1 q
        · unfold gb_mz
          rw [if_pos q8]
          have h5 := (gb_i4 a1).1
          unfold gb_N at hn
          omega
      refine gm_if (fun c1 => gm_lt (fun f2 e2 => ?_)) (fun _ => fin f w hT rfl rfl (fun j hj => by rw [z0 j hj]; exact gt_R00))
      refine fin f2 w (by rw [e2]; exact (gb_XKu (gb_XKr hT) rfl).1) (by rw [e2]; rfl) (by rw [e2]; rfl) (fun j hj => ?_)
      have e3 : f2 3 = upd (f 3) 2 (-1) := by
        rw [e2]
        rfl
      rw [e3]
      unfold upd
      by_cases q : j = 2
      · rw [if_pos q, q]
        have s0 : s = 0 := by
          rw [c1] at h1
          have : (0 : Int32).toInt = 0 := by decide
          omega
        rw [s0]
        exact ⟨by decide, by decide⟩
      · rw [if_neg q, z0 j hj]
        exact gt_R00
    · have i3' : gb_iv 0 96 v3 := gb_rU (s := 1) (gb_dnle c) i3 (gb_ic (a := 97) (by decide)) (by decide)
      refine gm_ck i3' (by decide) (gm_lt (fun f2 e2 => gm_lt (fun y ey => ?_)))
      have e3 : f2 3 = upd (f 3) (Int32.toNatClampNeg v3) 0 := by
        rw [e2]
        rfl
      have hy := gb_i1 i3' (by decide)
      rw [← ey] at hy
      have hcl := gb_cl i3' (by decide)
      refine ih f2 w y (by rw [e2]; exact (gb_XKu (gb_XKr hT) rfl).1) (by rw [e2]; exact h3) (by rw [e2]; exact h8) ⟨fun q => by rw [e2]; exact hE.1 q, hE.2⟩ ?_ (fun j hj => ?_) (gb_mup ey i3' (by decide) hm)
      · have h5 := i3'.1
        have h6 := i3'.2
        exact ⟨by omega, by omega⟩
      · rw [e3]
        unfold upd
        by_cases q : j = Int32.toNatClampNeg v3
        · rw [if_pos q]
        · rw [if_neg q]
          exact hz j (by omega)
set_option maxHeartbeats 4000000 in
theorem mt_text {n : Nat} (hn : gb_N ≤ n) {f : gb_F} {w : Int64} {p1 p2 : Int32} (hT : gb_TM f) : gb_tm (ms_text n f w p1 p2) (fun f2 _ _ => gb_TM f2) := by
  unfold ms_text
  refine gm_lti (gb_r1 (lo := 0) (hi := 600) (j := Int32.toNatClampNeg 4) hT (by decide)) (fun x ex ix => ?_)
  refine gm_lt (fun f2 e2 => gm_lt (fun f3 e3 => gm_lt (fun f4 e4 => gm_lt (fun f5 e5 => ?_))))
  have t2 : gb_TM f2 := by
    rw [e2]
    exact gb_TMf2 hT ix
  have t3 : gb_TM f3 := by
    rw [e3]
    exact gb_TMu1 t2 ⟨by decide, by decide⟩
  have t4 : gb_TM f4 := by
    rw [e4]
    exact gb_TM5 t3 ⟨by decide, by decide⟩
  have t5 : gb_TM f5 := by
    rw [e5]
    exact gb_TM6 t4 ⟨by decide, by decide⟩
  refine gm_bdP mt_isIn (fun r hr => gm_if (fun _ => gm_some t5) (fun c => ?_))
  have i1 : gb_iv 0 3 p1 := gb_iin (a := 0) (b := 0) (hr.2 c) (by decide) (by decide)
  obtain ⟨s, hs, hs3⟩ := gb_cn i1 (by decide)
  have es : Int32.toNatClampNeg p1 = s := gb_tn hs
  have i0 : gb_iv 0 97 (0 : Int32) := gb_iw (gb_ic (a := 0) (by decide)) (by decide)
  have go : ∀ (w2 : Int64), gb_E s p2 f5 → gb_tm (gb_lt (gb_u f5 0 (upd (f5 0) 3 0)) (fun f_100 => gb_lt (gb_u f_100 0 (upd (f_100 0) 8 0)) (fun f_101 => gb_lt (gb_u f_101 0 (upd (f_101 0) 9 0)) (fun f_102 => ms_text_88 n n f_102 w2 p1 p2 0)))) (fun f2 _ _ => gb_TM f2) := fun w2 hE => by
    refine gm_lt (fun f6 e6 => gm_lt (fun f7 e7 => gm_lt (fun f8 e8 => ?_)))
    have t6 : gb_TM f6 := by
      rw [e6]
      exact gb_TMf3 t5 ⟨by decide, by decide⟩
    have t7 : gb_TM f7 := by
      rw [e7]
      exact gb_TMfj t6 rfl
    have t8 : gb_TM f8 := by
      rw [e8]
      exact gb_TMfj t7 rfl
    have q1 : f8 1 = f5 1 := by
      rw [e8, e7, e6]
      rfl
    refine mt_text_88 hn hs (by omega) n f8 w2 0 t8 (by rw [e8, e7, e6]; rfl) (by rw [e8, e7]; rfl) ⟨fun q => by rw [q1]; exact hE.1 q, hE.2⟩ i0 (fun j hj => absurd hj ?_) (gb_fuu hn i0 (by decide))
    have : (0 : Int32).toInt = 0 := by decide
    omega
  refine gm_if (fun c2 => ?_) (fun c2 => ?_)
  · refine gm_ck i1 (by decide) (gm_lt (fun y ey => gm_if (fun c3 => go w ⟨fun _ => ?_, fun q => absurd c2 q⟩) (fun _ => gm_some t5)))
    have := gb_dlt c3
    have e2 : (2 : Int32).toInt = 2 := by decide
    rw [ey, es] at this
    omega
  · refine gm_bdP (mt_isOf t5 i1) (fun r2 h2 => gm_if (fun _ => gm_some t5) (fun c3 => go w ⟨fun q => absurd q c2, fun _ => h2.2 c3⟩))
