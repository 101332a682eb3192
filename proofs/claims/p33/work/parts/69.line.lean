/-! THE REFERENCE: lines of texts -/
def gb_I (s : Nat) (f : gb_F) : Prop := gb_TM f ∧ (gb_iv (gt_R s 0).1 (gt_R s 0).2 (f 3 0) ∧ (s = 0 → gb_iv 0 8 (f 3 1))) ∧ (f 0 8 = 0 → ∀ j, j < 97 → gb_iv (gt_R s j).1 (gt_R s j).2 (f 3 j)) ∧ ((f 0 4).toInt ≤ (f 0 3).toInt ∧ (¬ f 0 5 = 0 → (f 0 4).toInt < (f 0 3).toInt)) ∧ (¬ f 0 8 = 0 → ¬ f 1 5 = 0)
def gb_Pw (f f2 : gb_F) : Prop := (f 0 4).toInt ≤ (f2 0 4).toInt ∧ (¬ f 0 8 = 0 → ¬ f2 0 8 = 0) ∧ (∀ j, j ≠ 5 → j ≠ 6 → f2 1 j = f 1 j)
def gb_Pg (f f2 : gb_F) : Prop := gb_Pw f f2 ∧ f2 3 = f 3
theorem gb_Pwr {f : gb_F} : gb_Pw f f := ⟨Int.le_refl _, fun h => h, fun _ _ _ => rfl⟩
theorem gb_Pgr {f : gb_F} : gb_Pg f f := ⟨gb_Pwr, rfl⟩
theorem gb_Pwt {f f2 f3 : gb_F} (h : gb_Pw f f2) (g : gb_Pw f2 f3) : gb_Pw f f3 := ⟨Int.le_trans h.1 g.1, fun q => g.2.1 (h.2.1 q), fun j a b => (g.2.2 j a b).trans (h.2.2 j a b)⟩
theorem gb_Pgt {f f2 f3 : gb_F} (h : gb_Pg f f2) (g : gb_Pg f2 f3) : gb_Pg f f3 := ⟨gb_Pwt h.1 g.1, g.2.trans h.2⟩
theorem gb_Pw0 {f f2 : gb_F} (h : gb_Pw f f2) (e : f2 0 8 = 0) : f 0 8 = 0 := Classical.byContradiction (fun q => h.2.1 q e)
theorem gb_IA {s : Nat} {f f2 : gb_F} (hI : gb_I s f) (hA : gb_A (f 0 3).toInt f f2) : gb_I s f2 ∧ gb_Pg f f2 ∧ (f 0 3).toInt ≤ (f2 0 4).toInt := by
  obtain ⟨-, h2, h3, ⟨h4, -⟩, h6⟩ := hI
  obtain ⟨⟨v1, v2, v3, v4, v5⟩, a1, a2, a3⟩ := hA
  refine ⟨⟨v1, ?_, ?_, ⟨a2, a3⟩, ?_⟩, ⟨⟨by omega, ?_, ?_⟩, v3⟩, a1⟩
  · rw [v3]
    exact h2
  · rw [v3, v4]
    exact h3
  · rw [v2, v4]
    exact h6
  · rw [v4]
    exact fun q => q
  · intro j _ _
    rw [v2]
theorem mi_advance {n : Nat} (hn : gb_N ≤ n) {s : Nat} {f : gb_F} {w : Int64} (hI : gb_I s f) : gb_tm (ms_advance n f w) (fun f2 _ _ => gb_I s f2 ∧ gb_Pg f f2 ∧ (f 0 3).toInt ≤ (f2 0 4).toInt) := gm_mono (mt_advance hn hI.1) (fun _ _ _ h => gb_IA hI h)
theorem gb_TM5 {f : gb_F} {v : Int32} (h : gb_TM f) (i : gb_iv 0 4 v) : gb_TM (gb_u f 1 (upd (f 1) (Int32.toNatClampNeg 5) v)) := gb_TMu1 h i
theorem gb_TM6 {f : gb_F} {v : Int32} (h : gb_TM f) (i : gb_iv (-1) 600 v) : gb_TM (gb_u f 1 (upd (f 1) (Int32.toNatClampNeg 6) v)) := gb_TMu1 h i
theorem mi_ends {n : Nat} {s : Nat} {f : gb_F} {w : Int64} (hI : gb_I s f) : gb_tm (ms_ends n f w) (fun f2 _ _ => gb_I s f2 ∧ gb_Pg f f2 ∧ ¬ f2 0 8 = 0) := by
  unfold ms_ends
  refine gm_if (fun c => gm_lt (fun f2 e2 => gm_lt (fun f3 e3 => gm_lt (fun f4 e4 => gm_some ?_)))) (fun c => gm_some ⟨hI, gb_Pgr, c⟩)
  obtain ⟨h1, h2, h3, h4, h6⟩ := hI
  have t2 : gb_TM f2 := by
    rw [e2]
    exact gb_TMfj h1 rfl
  have t3 : gb_TM f3 := by
    rw [e3]
    exact gb_TM5 t2 ⟨by decide, by decide⟩
  have t4 : gb_TM f4 := by
    rw [e4]
    exact gb_TM6 t3 (gb_iw (gb_i4 t3) (by decide))
  have q3 : f4 3 = f 3 := by
    rw [e4, e3, e2]
    rfl
  have q8 : f4 0 8 = 1 := by
    rw [e4, e3, e2]
    rfl
  have qf3 : f4 0 3 = f 0 3 := by
    rw [e4, e3, e2]
    rfl
  have qf4 : f4 0 4 = f 0 4 := by
    rw [e4, e3, e2]
    rfl
  have qf5 : f4 0 5 = f 0 5 := by
    rw [e4, e3, e2]
    rfl
  have q15 : f4 1 5 = 1 := by
    rw [e4, e3]
    rfl
  have n8 : ¬ f4 0 8 = 0 := by
    rw [q8]
    decide
  refine ⟨⟨t4, ?_, fun q => absurd q n8, ?_, fun _ => ?_⟩, ⟨⟨?_, fun _ => n8, fun j a b => ?_⟩, q3⟩, n8⟩
  · rw [q3]
    exact h2
  · rw [qf3, qf4, qf5]
    exact h4
  · rw [q15]
    decide
  · rw [qf4]
    exact Int.le_refl _
  · rw [e4, e3, e2]
    show upd (upd (f 1) 5 1) 6 _ j = f 1 j
    rw [pk_un b, pk_un a]
theorem gb_Ial {s : Nat} {f : gb_F} {a b : Int32} (hI : gb_I s f) (c : f 0 8 = 0) (ia : gb_iv 2 4 a) (ib : gb_iv (-1) 600 b) {f2 f3 : gb_F} (e2 : f2 = gb_u f 1 (upd (f 1) (Int32.toNatClampNeg 5) a)) (e3 : f3 = gb_u f2 1 (upd (f2 1) (Int32.toNatClampNeg 6) b)) : gb_I s f3 ∧ gb_Pg f f3 ∧ f3 0 = f 0 := by
  obtain ⟨h1, h2, h3, h4, h6⟩ := hI
  have t2 : gb_TM f2 := by
    rw [e2]
    exact gb_TM5 h1 (gb_iw ia (by decide))
  have t3 : gb_TM f3 := by
    rw [e3]
    exact gb_TM6 t2 ib
  have q0 : f3 0 = f 0 := by
    rw [e3, e2]
    rfl
  have q3 : f3 3 = f 3 := by
    rw [e3, e2]
    rfl
  refine ⟨⟨t3, ?_, ?_, ?_, fun q => absurd (by rw [q0]; exact c) q⟩, ⟨⟨?_, ?_, fun j a b => ?_⟩, q3⟩, q0⟩
  · rw [q3]
    exact h2
  · rw [q3, q0]
    exact h3
  · rw [q0]
    exact h4
  · rw [q0]
    exact Int.le_refl _
  · rw [q0]
    exact fun q => q
  · rw [e3, e2]
    show upd (upd (f 1) 5 _) 6 _ j = f 1 j
    rw [pk_un b, pk_un a]
theorem mi_also {n : Nat} {s : Nat} {f : gb_F} {w : Int64} {a b : Int32} (hI : gb_I s f) (ia : gb_iv 2 4 a) (ib : gb_iv (-1) 600 b) : gb_tm (ms_also n f w a b) (fun f2 _ _ => gb_I s f2 ∧ gb_Pg f f2 ∧ f2 0 = f 0) := by
  unfold ms_also
  have st : gb_I s f ∧ gb_Pg f f ∧ f 0 = f 0 := ⟨hI, gb_Pgr, rfl⟩
  refine gm_if (fun c => ?_) (fun c => gm_some st)
  refine gm_lt (fun x ex => gm_if (fun _ => gm_lt (fun f2 e2 => gm_lt (fun f3 e3 => gm_some (gb_Ial hI c ia ib e2 e3)))) (fun _ => ?_))
  refine gm_lt (fun x ex => gm_if (fun _ => gm_some st) (fun _ => gm_lt (fun x ex => ?_)))
  refine gm_if (fun _ => gm_lt (fun x ex => gm_if (fun _ => gm_lt (fun f2 e2 => gm_lt (fun f3 e3 => gm_some (gb_Ial hI c ia ib e2 e3)))) (fun _ => gm_some st))) (fun _ => ?_)
  exact gm_lt (fun f2 e2 => gm_lt (fun f3 e3 => gm_some (gb_Ial hI c ia ib e2 e3)))
theorem mi_numbered {n : Nat} (hn : gb_N ≤ n) {s : Nat} {f : gb_F} {w : Int64} {p1 p2 : Int32} {a b : Int} (hI : gb_I s f) (e1 : p1.toInt = a) (e2 : p2.toInt = b) (hab : a ≤ b) : gb_tm (ms_numbered n f w p1 p2) (fun f2 _ r => gb_I s f2 ∧ gb_Pg f f2 ∧ gb_iv a b r) := by
  unfold ms_numbered
  have ip : gb_iv a b p1 := ⟨by omega, by omega⟩
  refine gm_if (fun c => ?_) (fun c => gm_bd (mi_ends hI) (fun f2 w2 _ h => gm_some ⟨h.1, h.2.1, ip⟩))
  refine gm_if (fun c2 => ?_) (fun c2 => gm_bd (mi_ends hI) (fun f2 w2 _ h => gm_some ⟨h.1, h.2.1, ip⟩))
  refine gm_lt (fun x ex => ?_)
  have fin : ∀ (f2 : gb_F) (w2 : Int64), gb_I s f2 → gb_Pg f f2 → gb_tm (gb_bd (ms_isIn n f2 w2 x p1 p2) (fun f_20 wl_21 r_22 => (if r_22 = 0 then (some (f_20, wl_21, p1) : gb_MR Int32) else some (f_20, wl_21, x)))) (fun f2 _ r => gb_I s f2 ∧ gb_Pg f f2 ∧ gb_iv a b r) := fun f2 w2 i2 g2 => by
    refine gm_bdP mt_isIn (fun r h => gm_if (fun _ => gm_some ⟨i2, g2, ip⟩) (fun c => gm_some ⟨i2, g2, ?_⟩))
    have := h.2 c
    exact ⟨by omega, by omega⟩
  refine gm_bdP mt_isIn (fun r h => gm_if (fun _ => ?_) (fun _ => ?_))
  · refine gm_bd (mi_also hI ⟨by decide, by decide⟩ (gb_iw (gb_i4 hI.1) (by decide))) (fun f2 w2 _ h2 => ?_)
    exact gm_bd (mi_advance hn h2.1) (fun f3 w3 _ h3 => fin f3 w3 h3.1 (gb_Pgt h2.2.1 h3.2.1))
  · exact gm_bd (mi_advance hn hI) (fun f3 w3 _ h3 => fin f3 w3 h3.1 h3.2.1)
theorem mi_takes {n : Nat} (hn : gb_N ≤ n) {s : Nat} {f : gb_F} {w : Int64} {p1 p2 : Int32} {a b : Int} (hI : gb_I s f) (e1 : p1.toInt = a) (e2 : p2.toInt = b) : gb_tm (ms_takes n f w p1 p2) (fun f2 _ r => gb_I s f2 ∧ gb_Pg f f2 ∧ (gb_iv a b r ∧ (f 0 4).toInt < (f2 0 4).toInt ∨ ¬ f2 0 8 = 0 ∧ r = 0)) := by
  unfold ms_takes
  have bad : gb_tm (gb_bd (ms_ends n f w) (fun f_8 wl_9 _ => (some (f_8, wl_9, 0) : gb_MR Int32))) (fun f2 _ r => gb_I s f2 ∧ gb_Pg f f2 ∧ (gb_iv a b r ∧ (f 0 4).toInt < (f2 0 4).toInt ∨ ¬ f2 0 8 = 0 ∧ r = 0)) := gm_bd (mi_ends hI) (fun f2 w2 _ h => gm_some ⟨h.1, h.2.1, Or.inr ⟨h.2.2, rfl⟩⟩)
  refine gm_if (fun c => gm_if (fun c2 => ?_) (fun _ => bad)) (fun _ => bad)
  refine gm_bdP mt_isIn (fun r h => gm_if (fun _ => bad) (fun c3 => gm_lt (fun x ex => ?_)))
  have h3 := h.2 c3
  refine gm_bd (mi_advance hn hI) (fun f2 w2 _ h2 => gm_some ⟨h2.1, h2.2.1, Or.inl ⟨?_, ?_⟩⟩)
  · rw [ex]
    exact ⟨by omega, by omega⟩
  · have h5 := hI.2.2.2.1.2 (by rw [c2]; decide)
    have := h2.2.2
    omega
theorem mi_endsLine {n : Nat} (hn : gb_N ≤ n) {s : Nat} {f : gb_F} {w : Int64} (hI : gb_I s f) : gb_tm (ms_endsLine n f w) (fun f2 _ _ => gb_I s f2 ∧ gb_Pg f f2) := by
  unfold ms_endsLine
  have bad : gb_tm (gb_bd (ms_ends n f w) (fun f_8 wl_9 _ => (some (f_8, wl_9, ()) : gb_MR Unit))) (fun f2 _ _ => gb_I s f2 ∧ gb_Pg f f2) := gm_bd (mi_ends hI) (fun f2 w2 _ h => gm_some ⟨h.1, h.2.1⟩)
  refine gm_if (fun c => gm_if (fun c2 => ?_) (fun _ => bad)) (fun _ => bad)
  exact gm_bd (mi_advance hn hI) (fun f2 w2 _ h2 => gm_some ⟨h2.1, h2.2.1⟩)
theorem gb_Iw {s : Nat} {f f2 : gb_F} {i : Nat} {v : Int32} (hI : gb_I s f) (e2 : f2 = gb_u f 3 (upd (f 3) i v)) (h0 : i ≠ 0) (h1 : s = 0 → i ≠ 1) (hv : f 0 8 = 0 → gb_iv (gt_R s i).1 (gt_R s i).2 v) : gb_I s f2 ∧ gb_Pw f f2 ∧ f2 0 = f 0 ∧ f2 3 = upd (f 3) i v := by
  obtain ⟨k1, k2, k3, k4, k6⟩ := hI
  have q0 : f2 0 = f 0 := by
    rw [e2]
    rfl
  have q1 : f2 1 = f 1 := by
    rw [e2]
    rfl
  have q3 : f2 3 = upd (f 3) i v := by
    rw [e2]
    rfl
  refine ⟨⟨by rw [e2]; exact (gb_XKu (gb_XKr k1) rfl).1, ⟨?_, fun z => ?_⟩, fun z j hj => ?_, ?_, ?_⟩, ⟨?_, ?_, fun j _ _ => by rw [q1]⟩, q0, q3⟩
  · rw [q3, pk_un (Ne.symm h0)]
    exact k2.1
  · rw [q3, pk_un (Ne.symm (h1 z))]
    exact k2.2 z
  · rw [q3]
    unfold upd
    by_cases q : j = i
    · rw [if_pos q, q]
      exact hv (by rw [← q0]; exact z)
    · rw [if_neg q]
      exact k3 (by rw [← q0]; exact z) j hj
  · rw [q0]
    exact k4
  · rw [q0, q1]
    exact k6
  · rw [q0]
    exact Int.le_refl _
  · rw [q0]
    exact fun q => q
theorem gb_Ic {s : Nat} {f f2 : gb_F} {v : Int32} (hI : gb_I s f) (e2 : f2 = gb_u f 3 (upd (f 3) (Int32.toNatClampNeg 0) v)) (hv : gb_iv (gt_R s 0).1 (gt_R s 0).2 v) : gb_I s f2 ∧ gb_Pw f f2 := by
  obtain ⟨k1, k2, k3, k4, k6⟩ := hI
  have q0 : f2 0 = f 0 := by
    rw [e2]
    rfl
  have q1 : f2 1 = f 1 := by
    rw [e2]
    rfl
  have q3 : f2 3 = upd (f 3) 0 v := by
    rw [e2]
    rfl
  refine ⟨⟨by rw [e2]; exact (gb_XKu (gb_XKr k1) rfl).1, ⟨?_, fun z => ?_⟩, fun z j hj => ?_, ?_, ?_⟩, ⟨?_, ?_, fun j _ _ => by rw [q1]⟩⟩
  · rw [q3, pk_us]
    exact hv
  · rw [q3, pk_un (by decide)]
    exact k2.2 z
  · rw [q3]
    unfold upd
    by_cases q : j = 0
    · rw [if_pos q, q]
      exact hv
    · rw [if_neg q]
      exact k3 (by rw [← q0]; exact z) j hj
  · rw [q0]
    exact k4
  · rw [q0, q1]
    exact k6
  · rw [q0]
    exact Int.le_refl _
  · rw [q0]
    exact fun q => q
theorem gb_Ic1 {f f2 : gb_F} {v : Int32} (hI : gb_I 0 f) (e2 : f2 = gb_u f 3 (upd (f 3) (Int32.toNatClampNeg 1) v)) (hv : gb_iv 0 8 v) : gb_I 0 f2 ∧ gb_Pw f f2 := by
  obtain ⟨k1, k2, k3, k4, k6⟩ := hI
  have q0 : f2 0 = f 0 := by
    rw [e2]
    rfl
  have q1 : f2 1 = f 1 := by
    rw [e2]
    rfl
  have q3 : f2 3 = upd (f 3) 1 v := by
    rw [e2]
    rfl
  refine ⟨⟨by rw [e2]; exact (gb_XKu (gb_XKr k1) rfl).1, ⟨?_, fun z => ?_⟩, fun z j hj => ?_, ?_, ?_⟩, ⟨?_, ?_, fun j _ _ => by rw [q1]⟩⟩
  · rw [q3, pk_un (by decide)]
    exact k2.1
  · rw [q3, pk_us]
    exact hv
  · rw [q3]
    unfold upd
    by_cases q : j = 1
    · rw [if_pos q, q]
      exact hv
    · rw [if_neg q]
      exact k3 (by rw [← q0]; exact z) j hj
  · rw [q0]
    exact k4
  · rw [q0, q1]
    exact k6
  · rw [q0]
    exact Int.le_refl _
  · rw [q0]
    exact fun q => q
theorem gt_R0p {c i : Nat} (hc : c ≤ 4) (hi : i < 3) : gt_R 0 (3 + 3 * c + i) = if i = 0 then (0, 20) else (0, 9) := by
  have q : (3 + 3 * c + i - 3) % 3 = i := by omega
  unfold gt_R
  rw [if_pos rfl, if_neg (by omega), if_neg (by omega), if_neg (by omega), if_pos (by omega), q]
theorem gt_R0g {c i : Nat} (hc : c ≤ 7) (hi : i < 5) : gt_R 0 (18 + 5 * c + i) = if i < 2 then (0, 4) else if i = 2 then (0, 60) else if i = 3 then (0, 1) else (0, 99) := by
  have q : (18 + 5 * c + i - 18) % 5 = i := by omega
  unfold gt_R
  rw [if_pos rfl, if_neg (by omega), if_neg (by omega), if_neg (by omega), if_neg (by omega), q]
theorem gb_cn {x : Int32} {a b : Int} (h : gb_iv a b x) (k : 0 ≤ a) : ∃ c : Nat, x.toInt = c ∧ (c : Int) ≤ b := ⟨x.toInt.toNat, by have := h.1; omega, by have := h.1; have := h.2; omega⟩
set_option maxHeartbeats 4000000 in
theorem mi_pathLine {n : Nat} (hn : gb_N ≤ n) {f : gb_F} {w : Int64} {p1 : Int32} (hI : gb_I 0 f) (i1 : gb_iv (-1) 600 p1) : gb_tm (ms_pathLine n f w p1) (fun f2 _ _ => gb_I 0 f2 ∧ gb_Pw f f2) := by
  have c3 : (3 : Int32).toInt = 3 := by decide
  have c5 : (5 : Int32).toInt = 5 := by decide
  have tail : ∀ (g : gb_F) (w2 : Int64) (v2 : Int32), gb_I 0 g → gb_Pw f g → (¬ v2 = 0 → (g 3 0).toInt ≤ 4) → gb_tm (ms_pathLine_26 n g w2 v2) (fun f2 _ _ => gb_I 0 f2 ∧ gb_Pw f f2) := by
    intro g w2 v2 hg hp hv
    unfold ms_pathLine_26
    refine gm_bd (mi_numbered (a := 1) (b := 20) hn hg (by decide) (by decide) (by decide)) (fun f1 w1 r1 h1 => ?_)
    refine gm_bd (mi_numbered (a := 0) (b := 9) hn h1.1 (by decide) (by decide) (by decide)) (fun f2 w2 r2 h2 => ?_)
    refine gm_bd (mi_numbered (a := 0) (b := 9) hn h2.1 (by decide) (by decide) (by decide)) (fun f3 w3 r3 h3 => ?_)
    have hP := gb_Pgt (gb_Pgt h1.2.1 h2.2.1) h3.2.1
    refine gm_if (fun _ => gm_some ⟨h3.1, gb_Pwt hp hP.1⟩) (fun c => ?_)
    have hc4 := hv c
    have e30 : f3 3 0 = g 3 0 := by rw [hP.2]
    have i30 : gb_iv 0 4 (f3 3 0) := ⟨h3.1.2.1.1.1, by rw [e30]; exact hc4⟩
    obtain ⟨cc, hcc, hcc4⟩ := gb_cn i30 (by decide)
    refine gm_lt (fun x ex => ?_)
    have ex0 : x.toInt = cc := by
      rw [ex]
      exact hcc
    have m3 : (3 * x).toInt = 3 * (cc : Int) := by
      rw [gb_tmul (by rw [c3]; omega) (by rw [c3]; omega), c3, ex0]
    have a3 : (3 + (3 * x)).toInt = 3 + 3 * (cc : Int) := by
      rw [gb_tadd (by rw [c3, m3]; omega) (by rw [c3, m3]; omega), c3, m3]
    refine gm_lt (fun y ey => ?_)
    rw [← ey] at a3
    have st : ∀ (k : Int32) (i : Nat), k.toInt = i → i < 3 → gb_iv 0 96 (y + k) ∧ Int32.toNatClampNeg (y + k) = 3 + 3 * cc + i := fun k i hk hi => by
      have e : (y + k).toInt = 3 + 3 * (cc : Int) + i := by
        rw [gb_tadd (by rw [a3, hk]; omega) (by rw [a3, hk]; omega), a3, hk]
      exact ⟨⟨by omega, by omega⟩, gb_tn (by omega)⟩
    obtain ⟨s0, t0⟩ := st 0 0 (by decide) (by decide)
    obtain ⟨s1, t1⟩ := st 1 1 (by decide) (by decide)
    obtain ⟨s2, t2⟩ := st 2 2 (by decide) (by decide)
    refine gm_ck s0 (by decide) (gm_lt (fun f4 e4 => gm_ck s1 (by decide) (gm_lt (fun f5 e5 => gm_ck s2 (by decide) (gm_lt (fun f6 e6 => gm_lt (fun z ez => gm_lt (fun f7 e7 => gm_some ?_))))))))
    rw [t0] at e4
    rw [t1] at e5
    rw [t2] at e6
    have k4 := gb_Iw h3.1 e4 (by omega) (fun _ => by omega) (fun _ => by rw [gt_R0p (by omega) (by decide)]; exact gb_iw h1.2.2 (by decide))
    have k5 := gb_Iw k4.1 e5 (by omega) (fun _ => by omega) (fun _ => by rw [gt_R0p (by omega) (by decide)]; exact gb_iw h2.2.2 (by decide))
    have k6 := gb_Iw k5.1 e6 (by omega) (fun _ => by omega) (fun _ => by rw [gt_R0p (by omega) (by decide)]; exact gb_iw h3.2.2 (by decide))
    have ez0 : z = f3 3 0 := by
      rw [ez]
      show f6 3 0 = _
      rw [k6.2.2.2, pk_un (by omega), k5.2.2.2, pk_un (by omega), k4.2.2.2, pk_un (by omega)]
    have iz : gb_iv 0 4 z := by
      rw [ez0]
      exact i30
    have k7 := gb_Ic k6.1 e7 (gb_iw (gb_iadd (lo := 1) (hi := 5) iz (gb_ic (a := 1) (by decide)) (by decide)) (by decide))
    exact ⟨k7.1, gb_Pwt hp (gb_Pwt hP.1 (gb_Pwt k4.2.1 (gb_Pwt k5.2.1 (gb_Pwt k6.2.1 k7.2))))⟩
  unfold ms_pathLine
  refine gm_lt (fun x ex => gm_if (fun c => ?_) (fun c => ?_))
  · unfold ms_pathLine_15
    rw [if_pos rfl]
    exact gm_bd (mi_also hI ⟨by decide, by decide⟩ i1) (fun f2 w2 _ h2 => tail f2 w2 0 h2.1 h2.2.1.1 (fun q => absurd rfl q))
  · unfold ms_pathLine_15
    rw [if_neg (by decide)]
    refine tail f w 1 hI gb_Pwr (fun _ => ?_)
    have := gb_dnle c
    have e0 : x = f 3 0 := ex
    rw [e0] at this
    omega
set_option maxHeartbeats 4000000 in
theorem mi_gooseLine {n : Nat} (hn : gb_N ≤ n) {f : gb_F} {w : Int64} {p1 : Int32} (hI : gb_I 0 f) (i1 : gb_iv (-1) 600 p1) : gb_tm (ms_gooseLine n f w p1) (fun f2 _ _ => gb_I 0 f2 ∧ gb_Pw f f2) := by
  have c5 : (5 : Int32).toInt = 5 := by decide
  have c8 : (8 : Int32).toInt = 8 := by decide
  have c18 : (18 : Int32).toInt = 18 := by decide
  have tail : ∀ (g : gb_F) (w2 : Int64) (v2 : Int32), gb_I 0 g → gb_Pw f g → (¬ v2 = 0 → (g 3 1).toInt ≤ 7) → gb_tm (ms_gooseLine_27 n g w2 v2) (fun f2 _ _ => gb_I 0 f2 ∧ gb_Pw f f2) := by
    intro g w2 v2 hg hp hv
    unfold ms_gooseLine_27
    refine gm_bd (mi_numbered (a := 0) (b := 4) hn hg (by decide) (by decide) (by decide)) (fun f1 w1 r1 h1 => ?_)
    refine gm_bd (mi_numbered (a := 0) (b := 4) hn h1.1 (by decide) (by decide) (by decide)) (fun f2 w2 r2 h2 => ?_)
    refine gm_bd (mi_numbered (a := 0) (b := 60) hn h2.1 (by decide) (by decide) (by decide)) (fun f3 w3 r3 h3 => ?_)
    refine gm_bd (mi_numbered (a := 0) (b := 1) hn h3.1 (by decide) (by decide) (by decide)) (fun f4 w4 r4 h4 => ?_)
    refine gm_bd (mi_numbered (a := 0) (b := 99) hn h4.1 (by decide) (by decide) (by decide)) (fun f5 w5 r5 h5 => ?_)
    have hP := gb_Pgt (gb_Pgt (gb_Pgt (gb_Pgt h1.2.1 h2.2.1) h3.2.1) h4.2.1) h5.2.1
    refine gm_if (fun _ => gm_some ⟨h5.1, gb_Pwt hp hP.1⟩) (fun c => ?_)
    have hc4 := hv c
    have e30 : f5 3 1 = g 3 1 := by rw [hP.2]
    have i30 : gb_iv 0 7 (f5 3 1) := ⟨(h5.1.2.1.2 rfl).1, by rw [e30]; exact hc4⟩
    obtain ⟨cc, hcc, hcc4⟩ := gb_cn i30 (by decide)
    refine gm_lt (fun x ex => ?_)
    have ex0 : x.toInt = cc := by
      rw [ex]
      exact hcc
    have m3 : (5 * x).toInt = 5 * (cc : Int) := by
      rw [gb_tmul (by rw [c5]; omega) (by rw [c5]; omega), c5, ex0]
    have a3 : (18 + (5 * x)).toInt = 18 + 5 * (cc : Int) := by
      rw [gb_tadd (by rw [c18, m3]; omega) (by rw [c18, m3]; omega), c18, m3]
    refine gm_lt (fun y ey => ?_)
    rw [← ey] at a3
    have s0 : gb_iv 0 96 y := ⟨by omega, by omega⟩
    have t0 : Int32.toNatClampNeg y = 18 + 5 * cc + 0 := gb_tn (by omega)
    have st : ∀ (k : Int32) (i : Nat), k.toInt = i → i < 5 → gb_iv 0 96 (y + k) ∧ Int32.toNatClampNeg (y + k) = 18 + 5 * cc + i := fun k i hk hi => by
      have e : (y + k).toInt = 18 + 5 * (cc : Int) + i := by
        rw [gb_tadd (by rw [a3, hk]; omega) (by rw [a3, hk]; omega), a3, hk]
      exact ⟨⟨by omega, by omega⟩, gb_tn (by omega)⟩
    obtain ⟨s1, t1⟩ := st 1 1 (by decide) (by decide)
    obtain ⟨s2, t2⟩ := st 2 2 (by decide) (by decide)
    obtain ⟨s3, t3⟩ := st 3 3 (by decide) (by decide)
    obtain ⟨s4, t4⟩ := st 4 4 (by decide) (by decide)
    refine gm_ck s0 (by decide) (gm_lt (fun g4 e4 => gm_ck s1 (by decide) (gm_lt (fun g5 e5 => gm_ck s2 (by decide) (gm_lt (fun g6 e6 => gm_ck s3 (by decide) (gm_lt (fun g7 e7 => gm_ck s4 (by decide) (gm_lt (fun g8 e8 => gm_lt (fun z ez => gm_lt (fun g9 e9 => gm_some ?_))))))))))))
    rw [t0] at e4
    rw [t1] at e5
    rw [t2] at e6
    rw [t3] at e7
    rw [t4] at e8
    have k4 := gb_Iw h5.1 e4 (by omega) (fun _ => by omega) (fun _ => by rw [gt_R0g (by omega) (by decide)]; exact gb_iw h1.2.2 (by decide))
    have k5 := gb_Iw k4.1 e5 (by omega) (fun _ => by omega) (fun _ => by rw [gt_R0g (by omega) (by decide)]; exact gb_iw h2.2.2 (by decide))
    have k6 := gb_Iw k5.1 e6 (by omega) (fun _ => by omega) (fun _ => by rw [gt_R0g (by omega) (by decide)]; exact gb_iw h3.2.2 (by decide))
    have k7 := gb_Iw k6.1 e7 (by omega) (fun _ => by omega) (fun _ => by rw [gt_R0g (by omega) (by decide)]; exact gb_iw h4.2.2 (by decide))
    have k8 := gb_Iw k7.1 e8 (by omega) (fun _ => by omega) (fun _ => by rw [gt_R0g (by omega) (by decide)]; exact gb_iw h5.2.2 (by decide))
    have ez0 : z = f5 3 1 := by
      rw [ez]
      show g8 3 1 = _
      rw [k8.2.2.2, pk_un (by omega), k7.2.2.2, pk_un (by omega), k6.2.2.2, pk_un (by omega), k5.2.2.2, pk_un (by omega), k4.2.2.2, pk_un (by omega)]
    have iz : gb_iv 0 7 z := by
      rw [ez0]
      exact i30
    have k9 := gb_Ic1 k8.1 e9 (gb_iw (gb_iadd (lo := 1) (hi := 8) iz (gb_ic (a := 1) (by decide)) (by decide)) (by decide))
    exact ⟨k9.1, gb_Pwt hp (gb_Pwt hP.1 (gb_Pwt k4.2.1 (gb_Pwt k5.2.1 (gb_Pwt k6.2.1 (gb_Pwt k7.2.1 (gb_Pwt k8.2.1 k9.2))))))⟩
  unfold ms_gooseLine
  refine gm_lt (fun x ex => gm_if (fun c => ?_) (fun c => ?_))
  · unfold ms_gooseLine_16
    rw [if_pos rfl]
    exact gm_bd (mi_also hI ⟨by decide, by decide⟩ i1) (fun f2 w2 _ h2 => tail f2 w2 0 h2.1 h2.2.1.1 (fun q => absurd rfl q))
  · unfold ms_gooseLine_16
    rw [if_neg (by decide)]
    refine tail f w 1 hI gb_Pwr (fun _ => ?_)
    have := gb_dnle c
    have e0 : x = f 3 1 := ex
    rw [e0] at this
    omega
theorem gb_fin {f f1 f2 : gb_F} {r : Int32} {a b : Int} (h : gb_iv a b r ∧ (f 0 4).toInt < (f1 0 4).toInt ∨ ¬ f1 0 8 = 0 ∧ r = 0) (g : gb_Pw f1 f2) : ¬ f2 0 8 = 0 ∨ (f 0 4).toInt < (f2 0 4).toInt := by
  rcases h with h | h
  · exact Or.inr (Int.lt_of_lt_of_le h.2 g.1)
  · exact Or.inl (g.2.1 h.1)
set_option maxHeartbeats 4000000 in
theorem mi_borderLine {n : Nat} (hn : gb_N ≤ n) {f : gb_F} {w : Int64} (hI : gb_I 0 f) : gb_tm (ms_borderLine n f w) (fun f2 _ _ => gb_I 0 f2 ∧ gb_Pw f f2 ∧ (¬ f2 0 8 = 0 ∨ (f 0 4).toInt < (f2 0 4).toInt)) := by
  unfold ms_borderLine
  refine gm_lti (gb_i4 hI.1) (fun x ex ix => ?_)
  have ix' : gb_iv (-1) 600 x := gb_iw ix (by decide)
  refine gm_bd (mi_takes (a := 1) (b := 3) hn hI (by decide) (by decide)) (fun f1 w1 r h => ?_)
  obtain ⟨hI1, hP1, hr⟩ := h
  have cap : ∀ (g : gb_F) (w2 : Int64), gb_I 0 g → gb_Pw f1 g → gb_tm (gb_bd (ms_numbered n g w2 0 999) (fun f_37 wl_38 r_39 => gb_lt (gb_u f_37 3 (upd (f_37 3) (Int32.toNatClampNeg 2) r_39)) (fun f_42 => gb_bd (ms_endsLine n f_42 wl_38) (fun f_43 wl_44 _ => (some (f_43, wl_44, ()) : gb_MR Unit))))) (fun f2 _ _ => gb_I 0 f2 ∧ gb_Pw f f2 ∧ (¬ f2 0 8 = 0 ∨ (f 0 4).toInt < (f2 0 4).toInt)) := fun g w2 hg hp => by
    refine gm_bd (mi_numbered (a := 0) (b := 999) hn hg (by decide) (by decide) (by decide)) (fun f3 w3 r3 h3 => gm_lt (fun f4 e4 => ?_))
    have k4 := gb_Iw (i := 2) h3.1 e4 (by decide) (fun _ => by decide) (fun _ => gb_iw h3.2.2 (by decide))
    refine gm_bd (mi_endsLine hn k4.1) (fun f5 w5 _ h5 => gm_some ?_)
    have hp5 := gb_Pwt hp (gb_Pwt h3.2.1.1 (gb_Pwt k4.2.1 h5.2.1))
    exact ⟨h5.1, gb_Pwt hP1.1 hp5, gb_fin hr hp5⟩
  have en : ∀ (g : gb_F) (w2 : Int64), gb_I 0 g → gb_Pw f1 g → gb_tm (gb_bd (ms_endsLine n g w2) (fun f_43 wl_44 _ => (some (f_43, wl_44, ()) : gb_MR Unit))) (fun f2 _ _ => gb_I 0 f2 ∧ gb_Pw f f2 ∧ (¬ f2 0 8 = 0 ∨ (f 0 4).toInt < (f2 0 4).toInt)) := fun g w2 hg hp => by
    refine gm_bd (mi_endsLine hn hg) (fun f5 w5 _ h5 => gm_some ?_)
    have hp5 := gb_Pwt hp h5.2.1
    exact ⟨h5.1, gb_Pwt hP1.1 hp5, gb_fin hr hp5⟩
  have t22 : ∀ (g : gb_F) (w2 : Int64), gb_I 0 g → gb_Pw f1 g → gb_tm (ms_borderLine_22 n g w2 x r) (fun f2 _ _ => gb_I 0 f2 ∧ gb_Pw f f2 ∧ (¬ f2 0 8 = 0 ∨ (f 0 4).toInt < (f2 0 4).toInt)) := fun g w2 hg hp => by
    unfold ms_borderLine_22
    refine gm_if (fun _ => ?_) (fun _ => gm_if (fun _ => cap g w2 hg hp) (fun _ => en g w2 hg hp))
    refine gm_bd (mi_gooseLine hn hg ix') (fun f3 w3 _ h3 => ?_)
    exact gm_if (fun _ => cap f3 w3 h3.1 (gb_Pwt hp h3.2)) (fun _ => en f3 w3 h3.1 (gb_Pwt hp h3.2))
  refine gm_if (fun _ => ?_) (fun _ => t22 f1 w1 hI1 gb_Pwr)
  exact gm_bd (mi_pathLine hn hI1 ix') (fun f3 w3 _ h3 => t22 f3 w3 h3.1 h3.2)
/-! THE REFERENCE: lines of nights, laws, dawns; text -/
set_option maxHeartbeats 4000000 in
theorem mi_adds {n : Nat} {s : Nat} {f : gb_F} {w : Int64} {p1 p2 p3 p4 p5 p6 : Int32} (M K : Nat) (hI : gb_I s f) (hs : s ≠ 0) (e1 : p1.toInt = M) (e2 : p2.toInt = K) (hK : 2 ≤ K ∧ K ≤ 4) (hM : K * M ≤ 96) (h0 : gt_R s 0 = (0, (M : Int))) (h3 : f 0 8 = 0 → ∀ c, c < M → gb_iv (gt_R s (1 + K * c + 0)).1 (gt_R s (1 + K * c + 0)).2 p3) (h4 : f 0 8 = 0 → ∀ c, c < M → gb_iv (gt_R s (1 + K * c + 1)).1 (gt_R s (1 + K * c + 1)).2 p4) (h5 : 2 < K → f 0 8 = 0 → ∀ c, c < M → gb_iv (gt_R s (1 + K * c + 2)).1 (gt_R s (1 + K * c + 2)).2 p5) (h6 : 3 < K → f 0 8 = 0 → ∀ c, c < M → gb_iv (gt_R s (1 + K * c + 3)).1 (gt_R s (1 + K * c + 3)).2 p6) : gb_tm (ms_adds n f w p1 p2 p3 p4 p5 p6) (fun f2 _ _ => gb_I s f2 ∧ gb_Pw f f2) := by
  have c0 : Int32.toNatClampNeg 0 = 0 := by decide
  have c1 : (1 : Int32).toInt = 1 := by decide
  have c2 : (2 : Int32).toInt = 2 := by decide
  have c3 : (3 : Int32).toInt = 3 := by decide
  have i0 : gb_iv 0 M (f 3 0) := by
    have := hI.2.1.1
    rw [h0] at this
    exact this
  unfold ms_adds
  refine gm_lt (fun x ex => gm_if (fun c => ?_) (fun _ => gm_some ⟨hI, gb_Pwr⟩))
  have hx : x = f 3 0 := ex
  have hlt := gb_dlt c
  rw [hx] at hlt
  obtain ⟨cc, hcc, -⟩ := gb_cn i0 (by decide)
  have hcM : cc < M := by omega
  have hM2 : M ≤ 48 := by
    have := Nat.mul_le_mul_right M hK.1
    omega
  have hKc : K * cc + K ≤ 96 := by
    have : K * (cc + 1) ≤ K * M := Nat.mul_le_mul_left K (by omega)
    rw [Nat.mul_add, Nat.mul_one] at this
    omega
  refine gm_lt (fun y ey => ?_)
  have hy : y.toInt = cc := by
    rw [ey]
    exact hcc
  have mq : p2.toInt * y.toInt = ((K * cc : Nat) : Int) := by
    rw [e2, hy, Int.natCast_mul]
  have m1 : (p2 * y).toInt = ((K * cc : Nat) : Int) := by
    rw [gb_tmul (by rw [mq]; omega) (by rw [mq]; omega), mq]
  have a1 : (1 + (p2 * y)).toInt = 1 + ((K * cc : Nat) : Int) := by
    rw [gb_tadd (by rw [c1, m1]; omega) (by rw [c1, m1]; omega), c1, m1]
  refine gm_lt (fun z ez => ?_)
  rw [← ez] at a1
  have g3 := fun q => h3 q cc hcM
  have g4 := fun q => h4 q cc hcM
  have g5 := fun k q => h5 k q cc hcM
  have g6 := fun k q => h6 k q cc hcM
  generalize K * cc = q at a1 g3 g4 g5 g6 hKc m1 mq
  have s0 : gb_iv 0 96 z := ⟨by omega, by omega⟩
  have t0 : Int32.toNatClampNeg z = 1 + q + 0 := gb_tn (by omega)
  have st : ∀ (k : Int32) (i : Nat), k.toInt = i → i < K → gb_iv 0 96 (z + k) ∧ Int32.toNatClampNeg (z + k) = 1 + q + i := fun k i hk hi => by
    have e : (z + k).toInt = 1 + (q : Int) + i := by
      rw [gb_tadd (by rw [a1, hk]; omega) (by rw [a1, hk]; omega), a1, hk]
    exact ⟨⟨by omega, by omega⟩, gb_tn (by omega)⟩
  obtain ⟨s1, t1⟩ := st 1 1 c1 (by omega)
  refine gm_ck s0 (by decide) (gm_lt (fun f4 e4 => gm_ck s1 (by decide) (gm_lt (fun f5 e5 => ?_))))
  rw [t0] at e4
  rw [t1] at e5
  have k4 := gb_Iw hI e4 (by omega) (fun q => absurd q hs) g3
  have k5 := gb_Iw k4.1 e5 (by omega) (fun q => absurd q hs) (fun q => g4 (by rw [← k4.2.2.1]; exact q))
  have hP5 := gb_Pwt k4.2.1 k5.2.1
  have z5 : f5 0 = f 0 := k5.2.2.1.trans k4.2.2.1
  have r5 : f5 3 0 = f 3 0 := by rw [k5.2.2.2, pk_un (by omega), k4.2.2.2, pk_un (by omega)]
  have last : ∀ (g : gb_F) (w2 : Int64), gb_I s g → gb_Pw f g → g 0 = f 0 → g 3 0 = f 3 0 → gb_tm (ms_adds_58 n g w2 p2 p6 z) (fun f2 _ _ => gb_I s f2 ∧ gb_Pw f f2) := fun g w2 hg hp hz hr => by
    have inc : ∀ (v : Int32), v = f 3 0 → gb_iv (gt_R s 0).1 (gt_R s 0).2 (v + 1) := fun v hv => by
      rw [h0, hv]
      have := gb_i1 (a := 0) (b := 96) (x := f 3 0) ⟨by omega, by omega⟩ (by decide)
      exact ⟨by show (0 : Int) ≤ _; omega, by show _ ≤ (M : Int); omega⟩
    unfold ms_adds_58
    refine gm_if (fun _ => gm_lt (fun v ev => gm_lt (fun g2 eg2 => gm_some ?_))) (fun c => ?_)
    · have := gb_Ic hg eg2 (inc v (by rw [ev]; exact hr))
      exact ⟨this.1, gb_Pwt hp this.2⟩
    · have h4K : 3 < K := by
        have := gb_dnle c
        omega
      obtain ⟨s3, t3⟩ := st 3 3 c3 h4K
      refine gm_ck s3 (by decide) (gm_lt (fun g2 eg2 => gm_lt (fun v ev => gm_lt (fun g3 eg3 => gm_some ?_))))
      rw [t3] at eg2
      have k6 := gb_Iw hg eg2 (by omega) (fun q => absurd q hs) (fun q => g6 h4K (by rw [← hz]; exact q))
      have r6 : g2 3 0 = f 3 0 := by rw [k6.2.2.2, pk_un (by omega), hr]
      have := gb_Ic k6.1 eg3 (inc v (by rw [ev]; exact r6))
      exact ⟨this.1, gb_Pwt hp (gb_Pwt k6.2.1 this.2)⟩
  refine gm_if (fun _ => last f5 w k5.1 hP5 z5 r5) (fun c => ?_)
  have h3K : 2 < K := by
    have := gb_dnle c
    omega
  obtain ⟨s2, t2⟩ := st 2 2 c2 h3K
  refine gm_ck s2 (by decide) (gm_lt (fun f6 e6 => ?_))
  rw [t2] at e6
  have k6 := gb_Iw k5.1 e6 (by omega) (fun q => absurd q hs) (fun q => g5 h3K (by rw [← z5]; exact q))
  exact last f6 w k6.1 (gb_Pwt hP5 k6.2.1) (k6.2.2.1.trans z5) (by rw [k6.2.2.2, pk_un (by omega), r5])
def gb_L (s : Nat) (f f2 : gb_F) : Prop := gb_I s f2 ∧ gb_Pw f f2 ∧ (¬ f2 0 8 = 0 ∨ (f 0 4).toInt < (f2 0 4).toInt)
theorem mi_gooseTold {n : Nat} (hn : gb_N ≤ n) {s : Nat} {f : gb_F} {w : Int64} (hI : gb_I s f) : gb_tm (ms_gooseTold n f w) (fun f2 _ r => gb_I s f2 ∧ gb_Pg f f2 ∧ gb_iv 0 7 r) := by
  unfold ms_gooseTold
  exact gm_bd (mi_numbered (a := 0) (b := 7) hn hI (by decide) (by decide) (by decide)) (fun f1 w1 r1 h1 => gm_some h1)
theorem mi_pathTold {n : Nat} (hn : gb_N ≤ n) {s : Nat} {f : gb_F} {w : Int64} (hI : gb_I s f) : gb_tm (ms_pathTold n f w) (fun f2 _ r => gb_I s f2 ∧ gb_Pg f f2 ∧ gb_iv 0 4 r) := by
  unfold ms_pathTold
  exact gm_bd (mi_numbered (a := 0) (b := 4) hn hI (by decide) (by decide) (by decide)) (fun f1 w1 r1 h1 => gm_some h1)
theorem gt_R1d {c i : Nat} (hi : i < 4) : gt_R 1 (1 + 4 * c + i) = if i = 0 then (0, 8) else if i = 1 then (-1, 10) else if i = 2 then (-1, 60) else (-1, 4) := by
  have q : (4 * c + i) % 4 = i := by omega
  rw [Nat.add_assoc, gt_R1, q]
theorem gt_R2t {c i : Nat} (hi : i < 3) : gt_R 2 (1 + 3 * c + i) = if i = 0 then (0, 4) else if i = 1 then (-1, 999) else (-1, 99) := by
  have q : (1 + 3 * c + i - 1) % 3 = i := by omega
  unfold gt_R
  rw [if_neg (by decide), if_neg (by decide), if_pos rfl, if_neg (by omega), q]
theorem gt_R3s {c i : Nat} (hi : i < 2) : gt_R 3 (1 + 2 * c + i) = if i = 0 then (0, 4) else (0, 999) := by
  have q : (1 + 2 * c + i - 1) % 2 = i := by omega
  unfold gt_R
  rw [if_neg (by decide), if_neg (by decide), if_neg (by decide), if_neg (by omega), q]
set_option maxHeartbeats 4000000 in
theorem mi_deedLine {n : Nat} (hn : gb_N ≤ n) {f : gb_F} {w : Int64} (hI : gb_I 1 f) : gb_tm (ms_deedLine n f w) (fun f2 _ _ => gb_L 1 f f2) := by
  unfold ms_deedLine
  refine gm_lti (gb_i4 hI.1) (fun x ex ix => ?_)
  have ix' : gb_iv (-1) 600 x := gb_iw ix (by decide)
  refine gm_bd (mi_takes (a := 4) (b := 12) hn hI (by decide) (by decide)) (fun f1 w1 r h => ?_)
  obtain ⟨hI1, hP1, hr⟩ := h
  refine gm_lt (fun v ev => ?_)
  have hv : f1 0 8 = 0 → gb_iv 0 8 v := fun q => by
    rw [ev]
    rcases hr with hr | hr
    · exact gb_isub (lo := 0) (hi := 8) hr.1 (gb_ic (a := 4) (by decide)) (by decide)
    · exact absurd q hr.1
  have none_a : gb_iv (-1) 10 (-1 : Int32) := ⟨by decide, by decide⟩
  have none_b : gb_iv (-1) 60 (-1 : Int32) := ⟨by decide, by decide⟩
  have none_c : gb_iv (-1) 4 (-1 : Int32) := ⟨by decide, by decide⟩
  have tadd : ∀ (g : gb_F) (w2 : Int64) (a b c : Int32), gb_I 1 g → gb_Pw f1 g → gb_iv (-1) 10 a → gb_iv (-1) 60 b → gb_iv (-1) 4 c → gb_tm (gb_bd (ms_adds n g w2 24 4 v a b c) (fun f_25 wl_26 _ => gb_bd (ms_endsLine n f_25 wl_26) (fun f_30 wl_31 _ => (some (f_30, wl_31, ()) : gb_MR Unit)))) (fun f2 _ _ => gb_L 1 f f2) := fun g w2 a b c hg hp ia ib ic => by
    refine gm_bd (mi_adds 24 4 hg (by decide) (by decide) (by decide) (by decide) (by decide) (by decide) (fun q k hk => ?_) (fun q k hk => ?_) (fun _ q k hk => ?_) (fun _ q k hk => ?_)) (fun f3 w3 _ h3 => ?_)
    · rw [gt_R1d (by decide)]
      exact hv (gb_Pw0 hp q)
    · rw [gt_R1d (by decide)]
      exact ia
    · rw [gt_R1d (by decide)]
      exact ib
    · rw [gt_R1d (by decide)]
      exact ic
    · refine gm_bd (mi_endsLine hn h3.1) (fun f5 w5 _ h5 => gm_some ?_)
      have hp5 := gb_Pwt hp (gb_Pwt h3.2 h5.2.1)
      exact ⟨h5.1, gb_Pwt hP1.1 hp5, gb_fin hr hp5⟩
  have t152 : ∀ (g : gb_F) (w2 : Int64) (a b c : Int32), gb_I 1 g → gb_Pw f1 g → gb_iv (-1) 10 a → gb_iv (-1) 60 b → gb_iv (-1) 4 c → gb_tm (ms_deedLine_152 n g w2 v a b c) (fun f2 _ _ => gb_L 1 f f2) := fun g w2 a b c hg hp ia ib ic => by
    unfold ms_deedLine_152
    refine gm_if (fun _ => ?_) (fun _ => tadd g w2 a b c hg hp ia ib ic)
    exact gm_bd (mi_pathTold hn hg) (fun f3 w3 r3 h3 => tadd f3 w3 r3 b c h3.1 (gb_Pwt hp h3.2.1.1) (gb_iw h3.2.2 (by decide)) ib ic)
  have t139 : ∀ (g : gb_F) (w2 : Int64) (a b c : Int32), gb_I 1 g → gb_Pw f1 g → gb_iv (-1) 10 a → gb_iv (-1) 60 b → gb_iv (-1) 4 c → gb_tm (ms_deedLine_139 n g w2 v a b c) (fun f2 _ _ => gb_L 1 f f2) := fun g w2 a b c hg hp ia ib ic => by
    unfold ms_deedLine_139
    refine gm_if (fun _ => ?_) (fun _ => t152 g w2 a b c hg hp ia ib ic)
    exact gm_bd (mi_numbered (a := 0) (b := 10) hn hg (by decide) (by decide) (by decide)) (fun f3 w3 r3 h3 => t152 f3 w3 r3 b c h3.1 (gb_Pwt hp h3.2.1.1) (gb_iw h3.2.2 (by decide)) ib ic)
  have t125 : ∀ (g : gb_F) (w2 : Int64) (a b c : Int32), gb_I 1 g → gb_Pw f1 g → gb_iv (-1) 10 a → gb_iv (-1) 60 b → gb_iv (-1) 4 c → gb_tm (ms_deedLine_125 n g w2 v a b c) (fun f2 _ _ => gb_L 1 f f2) := fun g w2 a b c hg hp ia ib ic => by
    unfold ms_deedLine_125
    refine gm_if (fun _ => ?_) (fun _ => t139 g w2 a b c hg hp ia ib ic)
    exact gm_bd (mi_numbered (a := 0) (b := 60) hn hg (by decide) (by decide) (by decide)) (fun f3 w3 r3 h3 => t139 f3 w3 a r3 c h3.1 (gb_Pwt hp h3.2.1.1) ia (gb_iw h3.2.2 (by decide)) ic)
  have t113 : ∀ (g : gb_F) (w2 : Int64) (a : Int32), gb_I 1 g → gb_Pw f1 g → gb_iv (-1) 10 a → gb_tm (ms_deedLine_113 n g w2 v a) (fun f2 _ _ => gb_L 1 f f2) := fun g w2 a hg hp ia => by
    unfold ms_deedLine_113
    refine gm_bd (mi_gooseTold hn hg) (fun f3 w3 r3 h3 => ?_)
    exact gm_bd (mi_pathTold hn h3.1) (fun f4 w4 r4 h4 => t125 f4 w4 a r3 r4 h4.1 (gb_Pwt hp (gb_Pwt h3.2.1.1 h4.2.1.1)) ia (gb_iw h3.2.2 (by decide)) (gb_iw h4.2.2 (by decide)))
  have t76 : ∀ (g : gb_F) (w2 : Int64) (a b c : Int32), gb_I 1 g → gb_Pw f1 g → gb_iv (-1) 10 a → gb_iv (-1) 60 b → gb_iv (-1) 4 c → gb_tm (ms_deedLine_76 n g w2 v a b c) (fun f2 _ _ => gb_L 1 f f2) := fun g w2 a b c hg hp ia ib ic => by
    unfold ms_deedLine_76
    refine gm_if (fun _ => gm_if (fun _ => gm_if (fun _ => gm_if (fun _ => ?_) (fun _ => t113 g w2 a hg hp ia)) (fun _ => t113 g w2 a hg hp ia)) (fun _ => t113 g w2 a hg hp ia)) (fun _ => t125 g w2 a b c hg hp ia ib ic)
    exact gm_bd (mi_also hg ⟨by decide, by decide⟩ (gb_iw (gb_i4 hg.1) (by decide))) (fun f3 w3 _ h3 => t113 f3 w3 a h3.1 (gb_Pwt hp h3.2.1.1) ia)
  have t61 : ∀ (g : gb_F) (w2 : Int64) (a b c : Int32), gb_I 1 g → gb_Pw f1 g → gb_iv (-1) 10 a → gb_iv (-1) 60 b → gb_iv (-1) 4 c → gb_tm (ms_deedLine_61 n g w2 v a b c) (fun f2 _ _ => gb_L 1 f f2) := fun g w2 a b c hg hp ia ib ic => by
    unfold ms_deedLine_61
    refine gm_bdP mt_isIn (fun r2 _ => gm_if (fun _ => t76 g w2 a b c hg hp ia ib ic) (fun _ => ?_))
    exact gm_bd (mi_pathTold hn hg) (fun f3 w3 r3 h3 => t76 f3 w3 a r3 c h3.1 (gb_Pwt hp h3.2.1.1) ia (gb_iw h3.2.2 (by decide)) ic)
  have t39 : ∀ (g : gb_F) (w2 : Int64), gb_I 1 g → gb_Pw f1 g → gb_tm (ms_deedLine_39 n g w2 v) (fun f2 _ _ => gb_L 1 f f2) := fun g w2 hg hp => by
    unfold ms_deedLine_39
    refine gm_bdP mt_isIn (fun r2 _ => gm_if (fun _ => t61 g w2 (-1) (-1) (-1) hg hp none_a none_b none_c) (fun _ => ?_))
    exact gm_bd (mi_gooseTold hn hg) (fun f3 w3 r3 h3 => t61 f3 w3 r3 (-1) (-1) h3.1 (gb_Pwt hp h3.2.1.1) (gb_iw h3.2.2 (by decide)) none_b none_c)
  refine gm_if (fun _ => gm_lt (fun y ey => gm_if (fun _ => t39 f1 w1 hI1 gb_Pwr) (fun _ => ?_))) (fun _ => t39 f1 w1 hI1 gb_Pwr)
  exact gm_bd (mi_also hI1 ⟨by decide, by decide⟩ ix') (fun f3 w3 _ h3 => t39 f3 w3 h3.1 h3.2.1.1)
set_option maxHeartbeats 4000000 in
theorem mi_termLine {n : Nat} (hn : gb_N ≤ n) {f : gb_F} {w : Int64} (hI : gb_I 2 f) : gb_tm (ms_termLine n f w) (fun f2 _ _ => gb_L 2 f f2) := by
  unfold ms_termLine
  refine gm_lti (gb_i4 hI.1) (fun x ex ix => ?_)
  have ix' : gb_iv (-1) 600 x := gb_iw ix (by decide)
  refine gm_bd (mi_takes (a := 13) (b := 17) hn hI (by decide) (by decide)) (fun f1 w1 r h => ?_)
  obtain ⟨hI1, hP1, hr⟩ := h
  refine gm_lt (fun v ev => ?_)
  have hv : f1 0 8 = 0 → gb_iv 0 4 v := fun q => by
    rw [ev]
    rcases hr with hr | hr
    · exact gb_isub (lo := 0) (hi := 4) hr.1 (gb_ic (a := 13) (by decide)) (by decide)
    · exact absurd q hr.1
  have none_a : gb_iv (-1) 999 (-1 : Int32) := ⟨by decide, by decide⟩
  have none_b : gb_iv (-1) 99 (-1 : Int32) := ⟨by decide, by decide⟩
  have tadd : ∀ (g : gb_F) (w2 : Int64) (a b : Int32), gb_I 2 g → gb_Pw f1 g → gb_iv (-1) 999 a → gb_iv (-1) 99 b → gb_tm (gb_bd (ms_adds n g w2 8 3 v a b (-1)) (fun f_25 wl_26 _ => gb_bd (ms_endsLine n f_25 wl_26) (fun f_30 wl_31 _ => (some (f_30, wl_31, ()) : gb_MR Unit)))) (fun f2 _ _ => gb_L 2 f f2) := fun g w2 a b hg hp ia ib => by
    refine gm_bd (mi_adds 8 3 hg (by decide) (by decide) (by decide) (by decide) (by decide) (by decide) (fun q k hk => ?_) (fun q k hk => ?_) (fun _ q k hk => ?_) (fun h => absurd h (by decide))) (fun f3 w3 _ h3 => ?_)
    · rw [gt_R2t (by decide)]
      exact hv (gb_Pw0 hp q)
    · rw [gt_R2t (by decide)]
      exact ia
    · rw [gt_R2t (by decide)]
      exact ib
    · refine gm_bd (mi_endsLine hn h3.1) (fun f5 w5 _ h5 => gm_some ?_)
      have hp5 := gb_Pwt hp (gb_Pwt h3.2 h5.2.1)
      exact ⟨h5.1, gb_Pwt hP1.1 hp5, gb_fin hr hp5⟩
  have t99 : ∀ (g : gb_F) (w2 : Int64) (a b : Int32), gb_I 2 g → gb_Pw f1 g → gb_iv (-1) 999 a → gb_iv (-1) 99 b → gb_tm (ms_termLine_99 n g w2 v a b) (fun f2 _ _ => gb_L 2 f f2) := fun g w2 a b hg hp ia ib => by
    unfold ms_termLine_99
    refine gm_if (fun _ => ?_) (fun _ => tadd g w2 a b hg hp ia ib)
    exact gm_bd (mi_numbered (a := 0) (b := 999) hn hg (by decide) (by decide) (by decide)) (fun f3 w3 r3 h3 => tadd f3 w3 r3 b h3.1 (gb_Pwt hp h3.2.1.1) (gb_iw h3.2.2 (by decide)) ib)
  have t86 : ∀ (g : gb_F) (w2 : Int64) (a b : Int32), gb_I 2 g → gb_Pw f1 g → gb_iv (-1) 999 a → gb_iv (-1) 99 b → gb_tm (ms_termLine_86 n g w2 v a b) (fun f2 _ _ => gb_L 2 f f2) := fun g w2 a b hg hp ia ib => by
    unfold ms_termLine_86
    refine gm_if (fun _ => ?_) (fun _ => t99 g w2 a b hg hp ia ib)
    exact gm_bd (mi_numbered (a := 0) (b := 99) hn hg (by decide) (by decide) (by decide)) (fun f3 w3 r3 h3 => t99 f3 w3 r3 b h3.1 (gb_Pwt hp h3.2.1.1) (gb_iw h3.2.2 (by decide)) ib)
  have t68 : ∀ (g : gb_F) (w2 : Int64), gb_I 2 g → gb_Pw f1 g → gb_tm (ms_termLine_68 n g w2 v) (fun f2 _ _ => gb_L 2 f f2) := fun g w2 hg hp => by
    unfold ms_termLine_68
    refine gm_bd (mi_numbered (a := 0) (b := 999) hn hg (by decide) (by decide) (by decide)) (fun f3 w3 r3 h3 => ?_)
    exact gm_bd (mi_numbered (a := 0) (b := 99) hn h3.1 (by decide) (by decide) (by decide)) (fun f4 w4 r4 h4 => t86 f4 w4 r3 r4 h4.1 (gb_Pwt hp (gb_Pwt h3.2.1.1 h4.2.1.1)) (gb_iw h3.2.2 (by decide)) (gb_iw h4.2.2 (by decide)))
  have t58 : ∀ (g : gb_F) (w2 : Int64) (a b : Int32), gb_I 2 g → gb_Pw f1 g → gb_iv (-1) 999 a → gb_iv (-1) 99 b → gb_tm (ms_termLine_58 n g w2 v a b) (fun f2 _ _ => gb_L 2 f f2) := fun g w2 a b hg hp ia ib => by
    unfold ms_termLine_58
    exact gm_if (fun _ => t68 g w2 hg hp) (fun _ => gm_if (fun _ => t68 g w2 hg hp) (fun _ => t86 g w2 a b hg hp ia ib))
  have t41 : ∀ (g : gb_F) (w2 : Int64), gb_I 2 g → gb_Pw f1 g → gb_tm (ms_termLine_41 n g w2 v) (fun f2 _ _ => gb_L 2 f f2) := fun g w2 hg hp => by
    unfold ms_termLine_41
    refine gm_if (fun _ => ?_) (fun _ => t58 g w2 (-1) (-1) hg hp none_a none_b)
    exact gm_bd (mi_numbered (a := 0) (b := 9) hn hg (by decide) (by decide) (by decide)) (fun f3 w3 r3 h3 => t58 f3 w3 r3 (-1) h3.1 (gb_Pwt hp h3.2.1.1) (gb_iw h3.2.2 (by decide)) none_b)
  refine gm_if (fun _ => gm_lt (fun y ey => gm_if (fun _ => t41 f1 w1 hI1 gb_Pwr) (fun _ => ?_))) (fun _ => t41 f1 w1 hI1 gb_Pwr)
  exact gm_bd (mi_also hI1 ⟨by decide, by decide⟩ ix') (fun f3 w3 _ h3 => t41 f3 w3 h3.1 h3.2.1.1)
theorem gb_I9 {s : Nat} {f f2 : gb_F} {v : Int32} (hI : gb_I s f) (e2 : f2 = gb_u f 0 (upd (f 0) 9 v)) : gb_I s f2 ∧ gb_Pw f f2 := by
  obtain ⟨k1, k2, k3, k4, k6⟩ := hI
  rw [e2]
  exact ⟨⟨gb_TMfj k1 rfl, k2, k3, k4, k6⟩, ⟨Int.le_refl _, fun q => q, fun _ _ _ => rfl⟩⟩
set_option maxHeartbeats 4000000 in
theorem mi_seenLine_54 {n : Nat} (hn : gb_N ≤ n) {f f1 : gb_F} {r : Int32} {a b : Int} (hP1 : gb_Pw f f1) (hr : gb_iv a b r ∧ (f 0 4).toInt < (f1 0 4).toInt ∨ ¬ f1 0 8 = 0 ∧ r = 0) : ∀ (mm : Nat) (g : gb_F) (w : Int64) (v2 v3 v4 : Int32), gb_I 3 g → gb_Pw f1 g → gb_iv 0 4 v2 → gb_iv 0 999 v3 → gb_iv 0 5 v4 → (5 - v4.toInt).toNat < mm → gb_tm (ms_seenLine_54 n mm g w v2 v3 v4) (fun f2 _ _ => gb_L 3 f f2) := by
  intro mm
  induction mm with
  | zero =>
    intro g w v2 v3 v4 hg hp i2 i3 i4 hm
    exact absurd hm (Nat.not_lt_zero _)
  | succ mm ih =>
    intro g w v2 v3 v4 hg hp i2 i3 i4 hm
    rw [ms_seenLine_54]
    refine gm_lt (fun x ex => ?_)
    have ix : gb_iv 0 5 x := by
      rw [ex]
      exact hg.2.1.1
    refine gm_if (fun c => ?_) (fun c => ?_)
    · refine gm_bd (mi_adds 5 2 hg (by decide) (by decide) (by decide) (by decide) (by decide) (by decide) (fun q k hk => ?_) (fun q k hk => ?_) (fun h => absurd h (by decide)) (fun h => absurd h (by decide))) (fun f3 w3 _ h3 => ?_)
      · rw [gt_R3s (by decide)]
        exact i2
      · rw [gt_R3s (by decide)]
        exact i3
      · refine gm_bd (mi_endsLine hn h3.1) (fun f5 w5 _ h5 => gm_some ?_)
        have hp5 := gb_Pwt hp (gb_Pwt h3.2 h5.2.1)
        exact ⟨h5.1, gb_Pwt hP1 hp5, gb_fin hr hp5⟩
    · have i4' : gb_iv 0 4 v4 := gb_rU (s := 1) (gb_dnle c) i4 ix (by decide)
      have st : ∀ y : Int32, y = v4 + 1 → gb_iv 0 5 y := fun y e => by
        rw [e]
        exact gb_iw (gb_iadd (lo := 1) (hi := 5) i4' (gb_ic (a := 1) (by decide)) (by decide)) (by decide)
      have go : ∀ (g2 : gb_F) (x9 y : Int32), g2 = gb_u g 0 (upd (g 0) 9 x9) → y = v4 + 1 → gb_tm (ms_seenLine_54 n mm g2 w v2 v3 y) (fun f2 _ _ => gb_L 3 f f2) := fun g2 x9 y e2 ey => by
        have k := gb_I9 hg e2
        exact ih g2 w v2 v3 y k.1 (gb_Pwt hp k.2) i2 i3 (st y ey) (gb_mup ey i4' (by decide) hm)
      refine gm_if (fun _ => ?_) (fun _ => gm_lt (fun g2 e2 => gm_lt (fun y ey => go g2 1 y e2 ey)))
      refine gm_ck (gb_iadd (lo := 1) (hi := 9) (gb_ic (a := 1) (by decide)) (gb_imul (lo := 0) (hi := 8) (gb_ic (a := 2) (by decide)) i4' (by decide)) (by decide)) (by decide) (gm_lt (fun z ez => ?_))
      exact gm_if (fun _ => gm_lt (fun g2 e2 => gm_lt (fun y ey => go g2 1 y e2 ey))) (fun _ => gm_lt (fun g2 e2 => gm_lt (fun y ey => go g2 0 y e2 ey)))
theorem mi_seenLine {n : Nat} (hn : gb_N ≤ n) {f : gb_F} {w : Int64} (hI : gb_I 3 f) : gb_tm (ms_seenLine n f w) (fun f2 _ _ => gb_L 3 f f2) := by
  unfold ms_seenLine
  refine gm_lti (gb_i4 hI.1) (fun x ex ix => ?_)
  have ix' : gb_iv (-1) 600 x := gb_iw ix (by decide)
  refine gm_bd (mi_takes (a := 18) (b := 18) hn hI (by decide) (by decide)) (fun f1 w1 r h => ?_)
  obtain ⟨hI1, hP1, hr⟩ := h
  have i0 : gb_iv 0 5 (0 : Int32) := gb_iw (gb_ic (a := 0) (by decide)) (by decide)
  have tl : ∀ (g : gb_F) (w2 : Int64), gb_I 3 g → gb_Pw f1 g → gb_tm (gb_bd (ms_pathTold n g w2) (fun f_57 wl_58 r_59 => gb_bd (ms_numbered n f_57 wl_58 0 999) (fun f_62 wl_63 r_64 => ms_seenLine_54 n n f_62 wl_63 r_59 r_64 0))) (fun f2 _ _ => gb_L 3 f f2) := fun g w2 hg hp => by
    refine gm_bd (mi_pathTold hn hg) (fun f3 w3 r3 h3 => ?_)
    exact gm_bd (mi_numbered (a := 0) (b := 999) hn h3.1 (by decide) (by decide) (by decide)) (fun f4 w4 r4 h4 => mi_seenLine_54 hn hP1.1 hr n f4 w4 r3 r4 0 h4.1 (gb_Pwt hp (gb_Pwt h3.2.1.1 h4.2.1.1)) h3.2.2 h4.2.2 i0 (gb_fuu hn i0 (by decide)))
  refine gm_if (fun _ => gm_lt (fun y ey => gm_if (fun _ => tl f1 w1 hI1 gb_Pwr) (fun _ => ?_))) (fun _ => tl f1 w1 hI1 gb_Pwr)
  exact gm_bd (mi_also hI1 ⟨by decide, by decide⟩ ix') (fun f3 w3 _ h3 => tl f3 w3 h3.1 h3.2.1.1)
/-! text -/
def gb_pl (s k : Nat) : Nat := if s = 0 then 610 + 58 * k else if s = 1 then 726 + 97 * k else if s = 2 then 920 + 25 * k else 970 + 11 * k
def gb_sz (s : Nat) : Nat := if s = 0 then 58 else if s = 1 then 97 else if s = 2 then 25 else 11
theorem gt_1R {s k i : Nat} (hs : s ≤ 3) (hk : k ≤ 1) (hi : i < gb_sz s) : gt_1 ((gb_pl s k + i) % 992) = gt_R s i ∧ gb_pl s k + i < 992 := by
  have hs' : s = 0 ∨ s = 1 ∨ s = 2 ∨ s = 3 := by omega
  have hk' : k = 0 ∨ k = 1 := by omega
  rcases hs' with rfl | rfl | rfl | rfl
  · have h : i < 58 := hi
    have e : gb_pl 0 k = 610 + 58 * k := rfl
    rw [e]
    have q : (610 + 58 * k + i) % 992 = 610 + 58 * k + i := by omega
    have q2 : (610 + 58 * k + i - 610) % 58 = i := by omega
    refine ⟨?_, by omega⟩
    rw [q]
    unfold gt_1
    rw [if_neg (by omega), if_neg (by omega), if_neg (by omega), if_neg (by omega), if_neg (by omega), if_neg (by omega), if_pos (by omega), q2]
  · have h : i < 97 := hi
    have e : gb_pl 1 k = 726 + 97 * k := rfl
    rw [e]
    have q : (726 + 97 * k + i) % 992 = 726 + 97 * k + i := by omega
    have q2 : (726 + 97 * k + i - 726) % 97 = i := by omega
    refine ⟨?_, by omega⟩
    rw [q]
    unfold gt_1
    rw [if_neg (by omega), if_neg (by omega), if_neg (by omega), if_neg (by omega), if_neg (by omega), if_neg (by omega), if_neg (by omega), if_pos (by omega), q2]
  · have h : i < 25 := hi
    have e : gb_pl 2 k = 920 + 25 * k := rfl
    rw [e]
    have q : (920 + 25 * k + i) % 992 = 920 + 25 * k + i := by omega
    have q2 : (920 + 25 * k + i - 920) % 25 = i := by omega
    refine ⟨?_, by omega⟩
    rw [q]
    unfold gt_1
    rw [if_neg (by omega), if_neg (by omega), if_neg (by omega), if_neg (by omega), if_neg (by omega), if_neg (by omega), if_neg (by omega), if_neg (by omega), if_pos (by omega), q2]
  · have h : i < 11 := hi
    have e : gb_pl 3 k = 970 + 11 * k := rfl
    rw [e]
    have q : (970 + 11 * k + i) % 992 = 970 + 11 * k + i := by omega
    have q2 : (970 + 11 * k + i - 970) % 11 = i := by omega
    refine ⟨?_, by omega⟩
    rw [q]
    unfold gt_1
    rw [if_neg (by omega), if_neg (by omega), if_neg (by omega), if_neg (by omega), if_neg (by omega), if_neg (by omega), if_neg (by omega), if_neg (by omega), if_neg (by omega), q2]
theorem gb_so {v : Int32} {s : Nat} (h : v.toInt = s) (hs : s ≤ 3) : (v = 0 ∧ s = 0) ∨ (v = 1 ∧ s = 1) ∨ (v = 2 ∧ s = 2) ∨ (v = 3 ∧ s = 3) := by
  have c : s = 0 ∨ s = 1 ∨ s = 2 ∨ s = 3 := by omega
  rcases c with c | c | c | c
  · exact Or.inl ⟨gb_ieq (h.trans (by rw [c]; decide)), c⟩
  · exact Or.inr (Or.inl ⟨gb_ieq (h.trans (by rw [c]; decide)), c⟩)
  · exact Or.inr (Or.inr (Or.inl ⟨gb_ieq (h.trans (by rw [c]; decide)), c⟩))
  · exact Or.inr (Or.inr (Or.inr ⟨gb_ieq (h.trans (by rw [c]; decide)), c⟩))
theorem mt_sizeOfE {n : Nat} {f : gb_F} {w : Int64} {v : Int32} {s : Nat} (h : v.toInt = s) (hs : s ≤ 3) : gb_tm (ms_sizeOf n f w v) (fun f2 w2 r => f2 = f ∧ w2 = w ∧ r.toInt = gb_sz s) := by
  unfold ms_sizeOf
  rcases gb_so h hs with ⟨rfl, rfl⟩ | ⟨rfl, rfl⟩ | ⟨rfl, rfl⟩ | ⟨rfl, rfl⟩ <;> exact gm_some ⟨rfl, rfl, by decide⟩
theorem mt_placeOfE {n : Nat} {f : gb_F} {w : Int64} {v u : Int32} {s k : Nat} (h : v.toInt = s) (hs : s ≤ 3) (hu : u.toInt = k) (hk : k ≤ 1) : gb_tm (ms_placeOf n f w v u) (fun f2 w2 r => f2 = f ∧ w2 = w ∧ r.toInt = gb_pl s k) := by
  have hk' : (u = 0 ∧ k = 0) ∨ (u = 1 ∧ k = 1) := by
    have c : k = 0 ∨ k = 1 := by omega
    rcases c with c | c
    · exact Or.inl ⟨gb_ieq (hu.trans (by rw [c]; decide)), c⟩
    · exact Or.inr ⟨gb_ieq (hu.trans (by rw [c]; decide)), c⟩
  unfold ms_placeOf
  rcases gb_so h hs with ⟨rfl, rfl⟩ | ⟨rfl, rfl⟩ | ⟨rfl, rfl⟩ | ⟨rfl, rfl⟩ <;> rcases hk' with ⟨rfl, rfl⟩ | ⟨rfl, rfl⟩ <;> exact gm_some ⟨rfl, rfl, by decide⟩
theorem gb_sz_le (s : Nat) : gb_sz s ≤ 97 := by
  unfold gb_sz
  split
  · decide
  · split
    · decide
    · split <;> decide
set_option maxHeartbeats 4000000 in
theorem mt_text_248 {n : Nat} {v1 v3 : Int32} {s k : Nat} (h1 : v1.toInt = s) (hs : s ≤ 3) (h3 : v3.toInt = k) (hk : k ≤ 1) : ∀ (mm : Nat) (f : gb_F) (w : Int64) (v4 : Int32), gb_TM f → (∀ j, j < 97 → gb_iv (gt_R s j).1 (gt_R s j).2 (f 3 j)) → gb_iv 0 97 v4 → (97 - v4.toInt).toNat < mm → gb_tm (ms_text_248 n mm f w v1 v3 v4) (fun f2 _ _ => gb_TM f2) := by
  intro mm
  induction mm with
  | zero =>
    intro f w v4 hT hR i4 hm
    exact absurd hm (Nat.not_lt_zero _)
  | succ mm ih =>
    intro f w v4 hT hR i4 hm
    rw [ms_text_248]
    refine gm_bdP (mt_sizeOfE h1 hs) (fun r hr => gm_if (fun _ => gm_some hT) (fun c => ?_))
    have hc := gb_dnle c
    have hle := gb_sz_le s
    have i4' : gb_iv 0 96 v4 := ⟨i4.1, by omega⟩
    refine gm_bdP (mt_placeOfE h1 hs h3 hk) (fun p hp => ?_)
    obtain ⟨i, hi, -⟩ := gb_cn i4' (by decide)
    obtain ⟨q1, q2⟩ := gt_1R hs hk (i := i) (by omega)
    have ep : (p + v4).toInt = ((gb_pl s k + i : Nat) : Int) := by
      rw [gb_tadd (by rw [hp, hi]; omega) (by rw [hp, hi]; omega), hp, hi]
      omega
    have e4 : Int32.toNatClampNeg v4 = i := gb_tn hi
    have e5 : Int32.toNatClampNeg (p + v4) = gb_pl s k + i := gb_tn ep
    refine gm_ck i4' (by decide) (gm_lt (fun x ex => gm_ck (a := 0) (b := 991) ⟨by omega, by omega⟩ (by decide) (gm_lt (fun f2 e2 => gm_lt (fun y ey => ?_)))))
    have hT2 : gb_TM f2 := by
      rw [e2, e5]
      refine gb_TMu1 hT ?_
      rw [q1, ex, e4]
      exact hR i (by omega)
    have e3 : f2 3 = f 3 := by
      rw [e2]
      rfl
    refine ih f2 w y hT2 (by rw [e3]; exact hR) ?_ (gb_mup ey i4' (by decide) hm)
    rw [ey]
    exact gb_iw (gb_iadd (lo := 1) (hi := 97) i4' (gb_ic (a := 1) (by decide)) (by decide)) (by decide)
/-- what the end of text needs: the number, if it is a further one -/
def gb_E (s : Nat) (v2 : Int32) (f : gb_F) : Prop := (v2 = -1 → (f 1 s).toInt ≤ 1) ∧ (¬ v2 = -1 → gb_iv 0 1 v2)
theorem gb_E_keep {s : Nat} {v2 : Int32} {f f2 : gb_F} (hs : s ≤ 3) (h : gb_E s v2 f) (g : gb_Pw f f2) : gb_E s v2 f2 := by
  refine ⟨fun q => ?_, h.2⟩
  rw [g.2.2 s (by omega) (by omega)]
  exact h.1 q
set_option maxHeartbeats 4000000 in
theorem mt_text_178 {n : Nat} (hn : gb_N ≤ n) {f : gb_F} {w : Int64} {v1 v2 : Int32} {s : Nat} (h1 : v1.toInt = s) (hs : s ≤ 3) (hI : gb_I s f) (hE : gb_E s v2 f) : gb_tm (ms_text_178 n f w v1 v2) (fun f2 _ _ => gb_TM f2) := by
  have es : Int32.toNatClampNeg v1 = s := gb_tn h1
  have i1 : gb_iv 0 3 v1 := ⟨by omega, by omega⟩
  have i0 : gb_iv 0 97 (0 : Int32) := gb_iw (gb_ic (a := 0) (by decide)) (by decide)
  have t203 : ∀ (g : gb_F) (w2 : Int64), gb_I s g → gb_E s v2 g → gb_tm (ms_text_203 n g w2 v1 v2) (fun f2 _ _ => gb_TM f2) := by
    intro g w2 hg he
    have hT := hg.1
    unfold ms_text_203
    refine gm_lt (fun x ex => gm_if (fun c => ?_) (fun _ => gm_some hT))
    have h8 : g 0 8 = 0 := Classical.byContradiction (fun q => hg.2.2.2.2 q (by rw [ex] at c; exact c))
    have hR := hg.2.2.1 h8
    have t229 : ∀ (t : Int32) (k : Nat), t.toInt = k → k ≤ 1 → gb_tm (ms_text_229 n g w2 v1 v2 t) (fun f2 _ _ => gb_TM f2) := fun t k ht hk => by
      unfold ms_text_229
      refine gm_if (fun c2 => ?_) (fun _ => mt_text_248 h1 hs ht hk n g w2 0 hT hR i0 (gb_fuu hn i0 (by decide)))
      refine gm_ck i1 (by decide) (gm_lti (gt_1s hT i1) (fun y ey iy => gm_ck i1 (by decide) (gm_lt (fun g2 eg => ?_))))
      have hy : gb_iv 0 1 y := ⟨iy.1, by rw [ey, es]; exact he.1 c2⟩
      have hT2 : gb_TM g2 := by
        rw [eg]
        refine gb_TMu1 hT ?_
        rw [es]
        have q : s % 992 = s := Nat.mod_eq_of_lt (by omega)
        rw [q]
        unfold gt_1
        rw [if_pos (by omega)]
        exact gb_iw (gb_iadd (lo := 1) (hi := 2) hy (gb_ic (a := 1) (by decide)) (by decide)) (by decide)
      have e3 : g2 3 = g 3 := by
        rw [eg]
        rfl
      exact mt_text_248 h1 hs ht hk n g2 w2 0 hT2 (by rw [e3]; exact hR) i0 (gb_fuu hn i0 (by decide))
    refine gm_if (fun c2 => ?_) (fun c2 => ?_)
    · refine gm_ck i1 (by decide) (gm_lti (gt_1s hT i1) (fun y ey iy => ?_))
      have hy : gb_iv 0 1 y := ⟨iy.1, by rw [ey, es]; exact he.1 c2⟩
      obtain ⟨k, hk, hk1⟩ := gb_cn hy (by decide)
      exact t229 y k hk (by omega)
    · obtain ⟨k, hk, hk1⟩ := gb_cn (he.2 c2) (by decide)
      exact t229 v2 k hk (by omega)
  unfold ms_text_178
  refine gm_lt (fun x ex => gm_if (fun _ => gm_if (fun _ => t203 f w hI hE) (fun _ => ?_)) (fun _ => t203 f w hI hE))
  exact gm_bd (mi_also hI ⟨by decide, by decide⟩ (gb_iw (gb_i4 hI.1) (by decide))) (fun f3 w3 _ h3 => t203 f3 w3 h3.1 (gb_E_keep hs hE h3.2.1.1))
def gb_mz (f : gb_F) : Nat := if f 0 8 = 0 then (601 - (f 0 4).toInt).toNat else 0
set_option maxHeartbeats 4000000 in
theorem mt_text_122 {n : Nat} (hn : gb_N ≤ n) {v1 v2 : Int32} {s : Nat} (h1 : v1.toInt = s) (hs : s ≤ 3) : ∀ (mm : Nat) (f : gb_F) (w : Int64), gb_I s f → gb_E s v2 f → gb_mz f < mm → gb_tm (ms_text_122 n mm f w v1 v2) (fun f2 _ _ => gb_TM f2) := by
  intro mm
  induction mm with
  | zero =>
    intro f w hI hE hm
    exact absurd hm (Nat.not_lt_zero _)
  | succ mm ih =>
    intro f w hI hE hm
    rw [ms_text_122]
    refine gm_if (fun c => gm_if (fun _ => mt_text_178 hn h1 hs hI hE) (fun _ => ?_)) (fun _ => mt_text_178 hn h1 hs hI hE)
    have st : ∀ (f2 : gb_F) (w2 : Int64), gb_L s f f2 → gb_tm (ms_text_122 n mm f2 w2 v1 v2) (fun f2 _ _ => gb_TM f2) := fun f2 w2 h => by
      refine ih f2 w2 h.1 (gb_E_keep hs hE h.2.1) ?_
      have h6 := (gb_i4 h.1.1).2
      have h7 := (gb_i4 hI.1).2
      unfold gb_mz at hm ⊢
      rw [if_pos c] at hm
      by_cases z : f2 0 8 = 0
      · rw [if_pos z]
        rcases h.2.2 with q | q
        · exact absurd z q
        · omega
      · rw [if_neg z]
        omega
    rcases gb_so h1 hs with ⟨e, rfl⟩ | ⟨e, rfl⟩ | ⟨e, rfl⟩ | ⟨e, rfl⟩
    · rw [if_pos e]
      exact gm_bd (mi_borderLine hn hI) (fun f2 w2 _ h => st f2 w2 h)
    · rw [if_neg (by rw [e]; decide), if_pos e]
      exact gm_bd (mi_deedLine hn hI) (fun f2 w2 _ h => st f2 w2 h)
    · rw [if_neg (by rw [e]; decide), if_neg (by rw [e]; decide), if_pos e]
      exact gm_bd (mi_termLine hn hI) (fun f2 w2 _ h => st f2 w2 h)
    · rw [if_neg (by rw [e]; decide), if_neg (by rw [e]; decide), if_neg (by rw [e]; decide)]
      exact gm_bd (mi_seenLine hn hI) (fun f2 w2 _ h => st f2 w2 h)
theorem gt_R00 {s j : Nat} : gb_iv (gt_R s j).1 (gt_R s j).2 0 := by
  have z : (0 : Int32).toInt = 0 := by decide
  unfold gb_iv gt_R
  rw [z]
  repeat' split
  all_goals decide
set_option maxHeartbeats 4000000 in
theorem mt_text_88 {n : Nat} (hn : gb_N ≤ n) {v1 v2 : Int32} {s : Nat} (h1 : v1.toInt = s) (hs : s ≤ 3) : ∀ (mm : Nat) (f : gb_F) (w : Int64) (v3 : Int32), gb_TM f → f 0 3 = 0 → f 0 8 = 0 → gb_E s v2 f → gb_iv 0 97 v3 → (∀ j : Nat, (j : Int) < v3.toInt → f 3 j = 0) → (97 - v3.toInt).toNat < mm → gb_tm (ms_text_88 n mm f w v1 v2 v3) (fun f2 _ _ => gb_TM f2) := by
  intro mm
  induction mm with
  | zero =>
    intro f w v3 hT h3 h8 hE i3 hz hm
    exact absurd hm (Nat.not_lt_zero _)
  | succ mm ih =>
    intro f w v3 hT h3 h8 hE i3 hz hm
    rw [ms_text_88]
    have c97 : (97 : Int32).toInt = 97 := by decide
    refine gm_if (fun c => ?_) (fun c => ?_)
    · have hc := gb_dle c
      have z0 : ∀ j, j < 97 → f 3 j = 0 := fun j hj => hz j (by omega)
      have fin : ∀ (g : gb_F) (w2 : Int64), gb_TM g → g 0 = f 0 → g 1 = f 1 → (∀ j, j < 97 → gb_iv (gt_R s j).1 (gt_R s j).2 (g 3 j)) → gb_tm (gb_bd (ms_advance n g w2) (fun f_24 wl_25 _ => ms_text_122 n n f_24 wl_25 v1 v2)) (fun f2 _ _ => gb_TM f2) := fun g w2 hg e0 e1 hR => by
        refine gm_bd (mt_advance hn hg) (fun f2 w3 _ hA => ?_)
        obtain ⟨⟨a1, a2, a3, a4, a5⟩, b1, b2, b3⟩ := hA
        have q8 : f2 0 8 = 0 := by
          rw [a4, e0]
          exact h8
        have hI : gb_I s f2 := by
          refine ⟨a1, ⟨?_, fun q => ?_⟩, fun _ j hj => ?_, ⟨b2, b3⟩, fun q => absurd q8 q⟩
          · rw [a3]
            exact hR 0 (by decide)
          · rw [a3]
            have := hR 1 (by decide)
            rw [q] at this
            exact this
          · rw [a3]
            exact hR j hj
        refine mt_text_122 hn h1 hs n f2 w3 hI ⟨fun q => ?_, hE.2⟩ ?_
        · rw [a2, e1]
          exact hE.1 q
        · unfold gb_mz
          rw [if_pos q8]
          have h5 := (gb_i4 a1).1
          unfold gb_N at hn
          omega
      refine gm_if (fun c1 => gm_lt (fun f2 e2 => ?_)) (fun _ => fin f w hT rfl rfl (fun j hj => by rw [z0 j hj]; exact gt_R00))
      refine fin f2 w (by rw [e2]; exact (gb_XKu (gb_XKr hT) rfl).1) (by rw [e2]; rfl) (by rw [e2]; rfl) (fun j hj => ?_)
      have e3 : f2 3 = upd (f 3) 2 (-1) := by
        rw [e2]
        rfl
      rw [e3]
      unfold upd
      by_cases q : j = 2
      · rw [if_pos q, q]
        have s0 : s = 0 := by
          rw [c1] at h1
          have : (0 : Int32).toInt = 0 := by decide
          omega
        rw [s0]
        exact ⟨by decide, by decide⟩
      · rw [if_neg q, z0 j hj]
        exact gt_R00
    · have i3' : gb_iv 0 96 v3 := gb_rU (s := 1) (gb_dnle c) i3 (gb_ic (a := 97) (by decide)) (by decide)
      refine gm_ck i3' (by decide) (gm_lt (fun f2 e2 => gm_lt (fun y ey => ?_)))
      have e3 : f2 3 = upd (f 3) (Int32.toNatClampNeg v3) 0 := by
        rw [e2]
        rfl
      have hy := gb_i1 i3' (by decide)
      rw [← ey] at hy
      have hcl := gb_cl i3' (by decide)
      refine ih f2 w y (by rw [e2]; exact (gb_XKu (gb_XKr hT) rfl).1) (by rw [e2]; exact h3) (by rw [e2]; exact h8) ⟨fun q => by rw [e2]; exact hE.1 q, hE.2⟩ ?_ (fun j hj => ?_) (gb_mup ey i3' (by decide) hm)
      · have h5 := i3'.1
        have h6 := i3'.2
        exact ⟨by omega, by omega⟩
      · rw [e3]
        unfold upd
        by_cases q : j = Int32.toNatClampNeg v3
        · rw [if_pos q]
        · rw [if_neg q]
          exact hz j (by omega)
set_option maxHeartbeats 4000000 in
theorem mt_text {n : Nat} (hn : gb_N ≤ n) {f : gb_F} {w : Int64} {p1 p2 : Int32} (hT : gb_TM f) : gb_tm (ms_text n f w p1 p2) (fun f2 _ _ => gb_TM f2) := by
  unfold ms_text
  refine gm_lti (gb_r1 (lo := 0) (hi := 600) (j := Int32.toNatClampNeg 4) hT (by decide)) (fun x ex ix => ?_)
  refine gm_lt (fun f2 e2 => gm_lt (fun f3 e3 => gm_lt (fun f4 e4 => gm_lt (fun f5 e5 => ?_))))
  have t2 : gb_TM f2 := by
    rw [e2]
    exact gb_TMf2 hT ix
  have t3 : gb_TM f3 := by
    rw [e3]
    exact gb_TMu1 t2 ⟨by decide, by decide⟩
  have t4 : gb_TM f4 := by
    rw [e4]
    exact gb_TM5 t3 ⟨by decide, by decide⟩
  have t5 : gb_TM f5 := by
    rw [e5]
    exact gb_TM6 t4 ⟨by decide, by decide⟩
  refine gm_bdP mt_isIn (fun r hr => gm_if (fun _ => gm_some t5) (fun c => ?_))
  have i1 : gb_iv 0 3 p1 := gb_iin (a := 0) (b := 0) (hr.2 c) (by decide) (by decide)
  obtain ⟨s, hs, hs3⟩ := gb_cn i1 (by decide)
  have es : Int32.toNatClampNeg p1 = s := gb_tn hs
  have i0 : gb_iv 0 97 (0 : Int32) := gb_iw (gb_ic (a := 0) (by decide)) (by decide)
  have go : ∀ (w2 : Int64), gb_E s p2 f5 → gb_tm (gb_lt (gb_u f5 0 (upd (f5 0) 3 0)) (fun f_100 => gb_lt (gb_u f_100 0 (upd (f_100 0) 8 0)) (fun f_101 => gb_lt (gb_u f_101 0 (upd (f_101 0) 9 0)) (fun f_102 => ms_text_88 n n f_102 w2 p1 p2 0)))) (fun f2 _ _ => gb_TM f2) := fun w2 hE => by
    refine gm_lt (fun f6 e6 => gm_lt (fun f7 e7 => gm_lt (fun f8 e8 => ?_)))
    have t6 : gb_TM f6 := by
      rw [e6]
      exact gb_TMf3 t5 ⟨by decide, by decide⟩
    have t7 : gb_TM f7 := by
      rw [e7]
      exact gb_TMfj t6 rfl
    have t8 : gb_TM f8 := by
      rw [e8]
      exact gb_TMfj t7 rfl
    have q1 : f8 1 = f5 1 := by
      rw [e8, e7, e6]
      rfl
    refine mt_text_88 hn hs (by omega) n f8 w2 0 t8 (by rw [e8, e7, e6]; rfl) (by rw [e8, e7]; rfl) ⟨fun q => by rw [q1]; exact hE.1 q, hE.2⟩ i0 (fun j hj => absurd hj ?_) (gb_fuu hn i0 (by decide))
    have : (0 : Int32).toInt = 0 := by decide
    omega
  refine gm_if (fun c2 => ?_) (fun c2 => ?_)
  · refine gm_ck i1 (by decide) (gm_lt (fun y ey => gm_if (fun c3 => go w ⟨fun _ => ?_, fun q => absurd c2 q⟩) (fun _ => gm_some t5)))
    have := gb_dlt c3
    have e2 : (2 : Int32).toInt = 2 := by decide
    rw [ey, es] at this
    omega
  · refine gm_bdP (mt_isOf t5 i1) (fun r2 h2 => gm_if (fun _ => gm_some t5) (fun c3 => go w ⟨fun q => absurd q c2, fun _ => h2.2 c3⟩))
/-! THE CLASS: what holds of its numbers in every state; rules -/
def gc_cat (k : Nat) : Nat := ([0, 7, 0, 0, 1, 0, 1, 0, 0, 2, 0, 2, 0, 0, 3, 0, 3, 0, 0, 4, 0, 4, 5, 6, 0, 7, 0, 0, 1, 0, 1, 0, 0, 2, 0, 2, 0, 0, 3, 0, 3, 0, 0, 4, 0, 4, 5, 6, 7, 0, 0, 1, 0, 1, 0, 0, 2, 0, 2, 0, 0, 3, 0, 3, 0, 0, 4, 0, 4, 5, 6, 7, 0, 0, 1, 0, 1, 0, 0, 2, 0, 2, 0, 0, 3, 0, 3, 0, 0, 4, 0, 4, 5, 6, 0, 0, 0, 1, 0, 2, 0, 3, 0, 4, 0, 2, 12, 0, 0, 10, 0, 1, 0, 0, 0, 0, 0, 0, 0, 0, 8, 0, 1, 0, 9, 9, 0, 0, 0, 0, 11, 0, 0, 0, 0] : List Nat).getD k 0
def gc_ty (c j : Nat) : Int × Int := match c with
  | 1 => if j = 0 then (0, 5) else if j = 1 then (0, 8) else (-2147483648, 2147483647)
  | 2 => if j = 0 then (0, 24) else (-2147483648, 2147483647)
  | 3 => if j = 0 then (0, 8) else (-2147483648, 2147483647)
  | 4 => if j = 0 then (0, 5) else (-2147483648, 2147483647)
  | 5 => (0, 2)
  | 6 => (-128, 127)
  | 7 => if j = 6 then (0, 600) else (-2147483648, 2147483647)
  | 8 => if j = 4 then (0, 5) else (-2147483648, 2147483647)
  | 9 => (0, 4)
  | 10 => if j = 11 then (0, 24) else (-2147483648, 2147483647)
  | 11 => if j = 4 then (0, 256) else (-2147483648, 2147483647)
  | 12 => if j = 2 then (0, 600) else if j = 3 then (0, 600) else (-2147483648, 2147483647)
  | _ => (-2147483648, 2147483647)
def gb_TC (σ : gb_S) : Prop := (∀ k j, gb_iv (gc_ty (gc_cat k) j).1 (gc_ty (gc_cat k) j).2 (σ.1 k j)) ∧ gb_kB (σ.2.1 1) = true ∧ gb_kB (σ.2.1 2) = true ∧ (σ.2.1 3 = 0 ∨ gb_kL (σ.2.1 3) = true) ∧ gb_kJ (σ.2.1 4) = true ∧ gb_kJ (σ.2.1 5) = true
theorem gc_catB {k : Nat} (h : gb_kB k = true) : gc_cat (k + 1) = 1 := by
  rcases gb_kB_or h with rfl | rfl | rfl | rfl | rfl | rfl | rfl | rfl | rfl | rfl | rfl <;> rfl
theorem gc_catN {k : Nat} (h : gb_kN k = true) : gc_cat (k + 1) = 2 := by
  rcases gb_kN_or h with rfl | rfl | rfl | rfl | rfl | rfl | rfl | rfl | rfl | rfl <;> rfl
theorem gc_catL {k : Nat} (h : gb_kL k = true) : gc_cat (k + 1) = 3 := by
  rcases gb_kL_or h with rfl | rfl | rfl | rfl | rfl | rfl | rfl | rfl | rfl <;> rfl
theorem gc_catD {k : Nat} (h : gb_kD k = true) : gc_cat (k + 1) = 4 := by
  rcases gb_kD_or h with rfl | rfl | rfl | rfl | rfl | rfl | rfl | rfl | rfl <;> rfl
theorem gc_catT {k : Nat} (h : gb_kT k = true) : gc_cat k = 7 ∧ gc_cat (k + 21) = 5 ∧ gc_cat (k + 22) = 6 := by
  rcases gb_kT_or h with rfl | rfl | rfl | rfl <;> exact ⟨rfl, rfl, rfl⟩
theorem gc_rd {σ : gb_S} {k j c : Nat} {lo hi : Int} (h : gb_TC σ) (e : gc_cat k = c) (q : lo ≤ (gc_ty c j).1 ∧ (gc_ty c j).2 ≤ hi) : gb_iv lo hi (σ.1 k j) := by
  have := h.1 k j
  rw [e] at this
  exact gb_iw this q
theorem gc_su {σ : gb_S} {k i c : Nat} {v : Int32} {lo hi : Int} (h : gb_TC σ) (e : gc_cat k = c) (hv : gb_iv lo hi v) (q : (gc_ty c i).1 ≤ lo ∧ hi ≤ (gc_ty c i).2) : gb_TC (gb_su σ k (upd (σ.1 k) i v)) := by
  refine ⟨fun k2 j => ?_, h.2⟩
  show gb_iv _ _ (gb_u σ.1 k (upd (σ.1 k) i v) k2 j)
  unfold gb_u
  by_cases c2 : k2 = k
  · rw [if_pos c2, c2, e]
    unfold upd
    by_cases c1 : j = i
    · rw [if_pos c1, c1]
      exact gb_iw hv q
    · rw [if_neg c1]
      have := h.1 k j
      rw [e] at this
      exact this
  · rw [if_neg c2]
    exact h.1 k2 j
theorem gc_su0 {σ : gb_S} {k i : Nat} {v : Int32} (h : gb_TC σ) (e : gc_cat k = 0) : gb_TC (gb_su σ k (upd (σ.1 k) i v)) := gc_su h e (gb_it v) ⟨Int.le_refl _, Int.le_refl _⟩
theorem gc_cpy {σ : gb_S} {k k2 c n : Nat} (h : gb_TC σ) (e : gc_cat k = c) (e2 : gc_cat k2 = c) : gb_TC (gb_su σ k (va_cpy (σ.1 k2) (σ.1 k) (Int32.toNatClampNeg 0) (Int32.toNatClampNeg 0) n)) := by
  refine ⟨fun k3 j => ?_, h.2⟩
  show gb_iv _ _ (gb_u σ.1 k (va_cpy (σ.1 k2) (σ.1 k) 0 0 n) k3 j)
  unfold gb_u
  by_cases c2 : k3 = k
  · rw [if_pos c2, c2, e]
    unfold va_cpy
    by_cases c1 : 0 ≤ j ∧ j < 0 + n
    · rw [if_pos c1, Nat.zero_add, Nat.sub_zero]
      have := h.1 k2 j
      rw [e2] at this
      exact this
    · rw [if_neg c1]
      have := h.1 k j
      rw [e] at this
      exact this
  · rw [if_neg c2]
    exact h.1 k3 j
theorem gc_sq1 {σ : gb_S} {v : Nat} (h : gb_TC σ) (hv : gb_kB v = true) : gb_TC (gb_sq σ 1 v) := ⟨h.1, hv, h.2.2⟩
theorem gc_sq2 {σ : gb_S} {v : Nat} (h : gb_TC σ) (hv : gb_kB v = true) : gb_TC (gb_sq σ 2 v) := ⟨h.1, h.2.1, hv, h.2.2.2⟩
theorem gc_sq3 {σ : gb_S} {v : Nat} (h : gb_TC σ) (hv : v = 0 ∨ gb_kL v = true) : gb_TC (gb_sq σ 3 v) := ⟨h.1, h.2.1, h.2.2.1, hv, h.2.2.2.2⟩
theorem gc_sq4 {σ : gb_S} {v : Nat} (h : gb_TC σ) (hv : gb_kJ v = true) : gb_TC (gb_sq σ 4 v) := ⟨h.1, h.2.1, h.2.2.1, h.2.2.2.1, hv, h.2.2.2.2.2⟩
theorem gc_sq5 {σ : gb_S} {v : Nat} (h : gb_TC σ) (hv : gb_kJ v = true) : gb_TC (gb_sq σ 5 v) := ⟨h.1, h.2.1, h.2.2.1, h.2.2.2.1, h.2.2.2.2.1, hv⟩
theorem gc_sg {σ : gb_S} {k : Nat} {F : Nat → Int64} (h : gb_TC σ) : gb_TC (gb_sg σ k F) := h
theorem gc_q1 {σ : gb_S} (h : gb_TC σ) : gb_kB (σ.2.1 1) = true := h.2.1
theorem gc_q2 {σ : gb_S} (h : gb_TC σ) : gb_kB (σ.2.1 2) = true := h.2.2.1
theorem gc_q3 {σ : gb_S} (h : gb_TC σ) (c : ¬ σ.2.1 3 = 0) : gb_kL (σ.2.1 3) = true := h.2.2.2.1.resolve_left c
theorem gc_q4 {σ : gb_S} (h : gb_TC σ) : gb_kJ (σ.2.1 4) = true := h.2.2.2.2.1
theorem gc_q5 {σ : gb_S} (h : gb_TC σ) : gb_kJ (σ.2.1 5) = true := h.2.2.2.2.2
theorem gc_cdT {ρ τ : Type} {x : gb_CR ρ} {k : gb_S → ρ → gb_CR τ} {R : ρ → Prop} {Q : gb_S → τ → Prop} (h : gb_tc x (fun s r => gb_TC s ∧ R r)) (H : ∀ s r, gb_TC s → R r → gb_tc (k s r) Q) : gb_tc (gb_cd x k) Q := by
  obtain ⟨s, r, e, hf, hp⟩ := h
  rw [e]
  exact H s r hf hp
theorem gc_cdP {ρ τ : Type} {x : gb_CR ρ} {k : gb_S → ρ → gb_CR τ} {σ : gb_S} {R : ρ → Prop} {Q : gb_S → τ → Prop} (h : gb_tc x (fun s r => s = σ ∧ R r)) (H : ∀ r, x = some (σ, r) → R r → gb_tc (k σ r) Q) : gb_tc (gb_cd x k) Q := by
  obtain ⟨s, r, e, hf, hp⟩ := h
  subst hf
  have := H r e hp
  rw [e]
  exact this
theorem gc_cdE {ρ τ : Type} {x : gb_CR ρ} {k : gb_S → ρ → gb_CR τ} {σ : gb_S} {r : ρ} {Q : gb_S → τ → Prop} (e : x = some (σ, r)) (H : gb_tc (k σ r) Q) : gb_tc (gb_cd x k) Q := by
  rw [e]
  exact H
theorem gc_ltT {ρ : Type} {v : gb_S} {k : gb_S → gb_CR ρ} {Q : gb_S → ρ → Prop} (h : gb_TC v) (H : ∀ s, s = v → gb_TC s → gb_tc (k s) Q) : gb_tc (gb_lt v k) Q := H v rfl h
theorem gc_01 {p : Int32} (i : gb_iv 0 1 p) : Int32.toNatClampNeg p = 0 ∨ Int32.toNatClampNeg p = 1 := by
  rcases gb_01 i with e | e
  · rw [e]
    exact Or.inl (by decide)
  · rw [e]
    exact Or.inr (by decide)
theorem gc_gB {p : Int32} (i : gb_iv 0 1 p) : gb_kB (([3, 5] : List Nat).getD (Int32.toNatClampNeg p) 0) = true := by
  rcases gc_01 i with e | e <;> (rw [e]; rfl)
theorem gc_gN {p : Int32} (i : gb_iv 0 1 p) : gb_kN (([8, 10] : List Nat).getD (Int32.toNatClampNeg p) 0) = true := by
  rcases gc_01 i with e | e <;> (rw [e]; rfl)
theorem gc_gL {p : Int32} (i : gb_iv 0 1 p) : gb_kL (([13, 15] : List Nat).getD (Int32.toNatClampNeg p) 0) = true := by
  rcases gc_01 i with e | e <;> (rw [e]; rfl)
theorem gc_gD {p : Int32} (i : gb_iv 0 1 p) : gb_kD (([18, 20] : List Nat).getD (Int32.toNatClampNeg p) 0) = true := by
  rcases gc_01 i with e | e <;> (rw [e]; rfl)
theorem gc_ibit (x : Int32) : gb_iv (-2147483648) 2147483647 x := gb_it x
/-! THE CLASS's methods answer (written by wip/tot) -/
set_option maxHeartbeats 4000000 in
theorem ct_Border_geese_B {n : Nat} (hn : gb_N ≤ n) {σ : gb_S} {k0 : Nat} (hT : gb_TC σ) (hk0 : gb_kB k0 = true) : gb_tc (cs_Border_geese_B n σ k0) (fun s r => s = σ ∧ gb_iv 0 8 r) := by
  unfold cs_Border_geese_B
  refine gc_kk hk0 ?_
  refine gc_lti (lo := 0) (hi := 8) (gc_rd (c := 1) (lo := 0) (hi := 8) hT (gc_catB hk0) (by decide)) (fun x_2 ex_2 ix_2 => ?_)
  exact gc_some ⟨rfl, ix_2⟩
set_option maxHeartbeats 4000000 in
theorem ct_Border_paths_B {n : Nat} (hn : gb_N ≤ n) {σ : gb_S} {k0 : Nat} (hT : gb_TC σ) (hk0 : gb_kB k0 = true) : gb_tc (cs_Border_paths_B n σ k0) (fun s r => s = σ ∧ gb_iv 0 5 r) := by
  unfold cs_Border_paths_B
  refine gc_kk hk0 ?_
  refine gc_lti (lo := 0) (hi := 5) (gc_rd (c := 1) (lo := 0) (hi := 5) hT (gc_catB hk0) (by decide)) (fun x_2 ex_2 ix_2 => ?_)
  exact gc_some ⟨rfl, ix_2⟩
set_option maxHeartbeats 4000000 in
theorem ct_Border_cap_B {n : Nat} (hn : gb_N ≤ n) {σ : gb_S} {k0 : Nat} (hT : gb_TC σ) (hk0 : gb_kB k0 = true) : gb_tc (cs_Border_cap_B n σ k0) (fun s r => s = σ ∧ gb_iv (-2147483648) 2147483647 r) := by
  unfold cs_Border_cap_B
  refine gc_kk hk0 ?_
  refine gc_lti (lo := (-2147483648)) (hi := 2147483647) (gb_it _) (fun x_2 ex_2 ix_2 => ?_)
  exact gc_some ⟨rfl, (gb_it _)⟩
set_option maxHeartbeats 4000000 in
theorem ct_Border_hasPath_B {n : Nat} (hn : gb_N ≤ n) {σ : gb_S} {k0 : Nat} {p1 : Int32} (hT : gb_TC σ) (hk0 : gb_kB k0 = true) : gb_tc (cs_Border_hasPath_B n σ k0 p1) (fun s r => s = σ ∧ (gb_iv 0 1 r ∧ (¬ r = 0 → gb_iv 0 4 p1))) := by
  unfold cs_Border_hasPath_B
  refine gc_kk hk0 ?_
  refine gc_if (fun c_8 => ?_) (fun c_8 => ?_)
  · have j_9 : gb_iv (-2147483648) (-1) p1 := (gb_rU (lo := (-2147483648)) (hi := (-1)) (gb_dlt c_8) (gb_it _) (gb_ic (a := 0) (by decide)) (by decide))
    exact gc_some ⟨rfl, ⟨(gb_iw (lo := 0) (hi := 1) (gb_ic (a := 0) (by decide)) (by decide)), (fun h => absurd rfl h)⟩⟩
  · have j_10 : gb_iv 0 2147483647 p1 := (gb_rL (lo := 0) (hi := 2147483647) (gb_dnlt c_8) (gb_it _) (gb_ic (a := 0) (by decide)) (by decide))
    refine gc_cdP (ct_Border_paths_B hn hT hk0) (fun r_4 qr_4 h_11 => ?_)
    refine gc_if (fun c_12 => ?_) (fun c_12 => ?_)
    · exact gc_some ⟨rfl, ⟨(gb_iw (lo := 0) (hi := 1) (gb_ic (a := 0) (by decide)) (by decide)), (fun h => absurd rfl h)⟩⟩
    · have j_13 : gb_iv 0 4 p1 := (gb_rU (lo := 0) (hi := 4) (gb_dnle c_12) j_10 h_11 (by decide))
      have j_14 : gb_iv 1 5 r_4 := (gb_rL (lo := 1) (hi := 5) (gb_dnle c_12) h_11 j_13 (by decide))
      exact gc_some ⟨rfl, ⟨(gb_iw (lo := 0) (hi := 1) (gb_ic (a := 1) (by decide)) (by decide)), (fun _ => j_13)⟩⟩
set_option maxHeartbeats 4000000 in
theorem ct_Border_hasGoose_B {n : Nat} (hn : gb_N ≤ n) {σ : gb_S} {k0 : Nat} {p1 : Int32} (hT : gb_TC σ) (hk0 : gb_kB k0 = true) : gb_tc (cs_Border_hasGoose_B n σ k0 p1) (fun s r => s = σ ∧ (gb_iv 0 1 r ∧ (¬ r = 0 → gb_iv 0 7 p1))) := by
  unfold cs_Border_hasGoose_B
  refine gc_kk hk0 ?_
  refine gc_if (fun c_22 => ?_) (fun c_22 => ?_)
  · have j_23 : gb_iv (-2147483648) (-1) p1 := (gb_rU (lo := (-2147483648)) (hi := (-1)) (gb_dlt c_22) (gb_it _) (gb_ic (a := 0) (by decide)) (by decide))
    exact gc_some ⟨rfl, ⟨(gb_iw (lo := 0) (hi := 1) (gb_ic (a := 0) (by decide)) (by decide)), (fun h => absurd rfl h)⟩⟩
  · have j_24 : gb_iv 0 2147483647 p1 := (gb_rL (lo := 0) (hi := 2147483647) (gb_dnlt c_22) (gb_it _) (gb_ic (a := 0) (by decide)) (by decide))
    refine gc_cdP (ct_Border_geese_B hn hT hk0) (fun r_4 qr_4 h_25 => ?_)
    refine gc_if (fun c_26 => ?_) (fun c_26 => ?_)
    · exact gc_some ⟨rfl, ⟨(gb_iw (lo := 0) (hi := 1) (gb_ic (a := 0) (by decide)) (by decide)), (fun h => absurd rfl h)⟩⟩
    · have j_27 : gb_iv 0 7 p1 := (gb_rU (lo := 0) (hi := 7) (gb_dnle c_26) j_24 h_25 (by decide))
      have j_28 : gb_iv 1 8 r_4 := (gb_rL (lo := 1) (hi := 8) (gb_dnle c_26) h_25 j_27 (by decide))
      exact gc_some ⟨rfl, ⟨(gb_iw (lo := 0) (hi := 1) (gb_ic (a := 1) (by decide)) (by decide)), (fun _ => j_27)⟩⟩
set_option maxHeartbeats 4000000 in
theorem ct_Border_numberTold_B {n : Nat} (hn : gb_N ≤ n) {σ : gb_S} {k0 : Nat} {p1 : Int32} (hT : gb_TC σ) (hk0 : gb_kB k0 = true) : gb_tc (cs_Border_numberTold_B n σ k0 p1) (fun s r => s = σ ∧ gb_iv (-2147483648) 2147483647 r) := by
  unfold cs_Border_numberTold_B
  refine gc_kk hk0 ?_
  refine gc_if (fun c_48 => ?_) (fun c_48 => ?_)
  · have j_49 : gb_iv (-2147483648) 9 p1 := (gb_rU (lo := (-2147483648)) (hi := 9) (gb_dlt c_48) (gb_it _) (gb_ic (a := 10) (by decide)) (by decide))
    exact gc_some ⟨rfl, (gb_iw (lo := (-2147483648)) (hi := 2147483647) (gb_ic (a := (-2)) (by decide)) (by decide))⟩
  · have j_50 : gb_iv 10 2147483647 p1 := (gb_rL (lo := 10) (hi := 2147483647) (gb_dnlt c_48) (gb_it _) (gb_ic (a := 10) (by decide)) (by decide))
    refine gc_if (fun c_51 => ?_) (fun c_51 => ?_)
    · have j_52 : gb_iv 10 89 p1 := (gb_rU (lo := 10) (hi := 89) (gb_dle c_51) j_50 (gb_ic (a := 89) (by decide)) (by decide))
      refine gc_lti (lo := 1) (hi := 8) (gb_idivc (v := 10) (lo := 1) (hi := 8) j_52 (by decide) (by decide)) (fun x_4 ex_4 ix_4 => ?_)
      refine gc_lti (lo := 0) (hi := 9) (gb_irem (lo := 0) (hi := 9) j_52 (gb_ic (a := 10) (by decide)) (by decide)) (fun x_5 ex_5 ix_5 => ?_)
      refine gc_if (fun c_53 => ?_) (fun c_53 => ?_)
      · have j_54 : gb_iv 4 8 x_4 := (gb_rL (lo := 4) (hi := 8) (gb_dlt c_53) ix_4 (gb_ic (a := 3) (by decide)) (by decide))
        refine gc_lti (lo := 0) (hi := 4) (gb_isub (lo := 0) (hi := 4) (gb_isub (lo := 3) (hi := 7) j_54 (gb_ic (a := 1) (by decide)) (by decide)) (gb_ic (a := 3) (by decide)) (by decide)) (fun x_7 ex_7 ix_7 => ?_)
        refine gc_cdP (ct_Border_hasGoose_B hn hT hk0) (fun r_9 qr_9 h_55 => ?_)
        refine gc_if (fun c_56 => ?_) (fun c_56 => ?_)
        · have j_57 : gb_iv 0 0 r_9 := (gb_rU (lo := 0) (hi := 0) (gb_deq c_56) h_55.1 (gb_ic (a := 0) (by decide)) (by decide))
          exact gc_some ⟨rfl, (gb_iw (lo := (-2147483648)) (hi := 2147483647) (gb_ic (a := (-2)) (by decide)) (by decide))⟩
        · have j_58 : gb_iv 1 1 r_9 := (gb_rN (lo := 1) (hi := 1) (v := 0) c_56 h_55.1 (by decide) (by decide))
          have j_59 : gb_iv 0 7 x_5 := (h_55.2 c_56)
          refine gc_ck (gb_iadd (lo := 18) (hi := 57) (gb_iadd (lo := 18) (hi := 53) (gb_ic (a := 18) (by decide)) (gb_imul (lo := 0) (hi := 35) j_59 (gb_ic (a := 5) (by decide)) (by decide)) (by decide)) ix_7 (by decide)) (by decide) ?_
          refine gc_lti (lo := (-2147483648)) (hi := 2147483647) (gb_it _) (fun x_14 ex_14 ix_14 => ?_)
          exact gc_some ⟨rfl, (gb_it _)⟩
      · have j_60 : gb_iv 1 3 x_4 := (gb_rU (lo := 1) (hi := 3) (gb_dnlt c_53) ix_4 (gb_ic (a := 3) (by decide)) (by decide))
        refine gc_cdP (ct_Border_hasPath_B hn hT hk0) (fun r_16 qr_16 h_61 => ?_)
        refine gc_if (fun c_62 => ?_) (fun c_62 => ?_)
        · have j_63 : gb_iv 0 0 r_16 := (gb_rU (lo := 0) (hi := 0) (gb_deq c_62) h_61.1 (gb_ic (a := 0) (by decide)) (by decide))
          exact gc_some ⟨rfl, (gb_iw (lo := (-2147483648)) (hi := 2147483647) (gb_ic (a := (-2)) (by decide)) (by decide))⟩
        · have j_64 : gb_iv 1 1 r_16 := (gb_rN (lo := 1) (hi := 1) (v := 0) c_62 h_61.1 (by decide) (by decide))
          have j_65 : gb_iv 0 4 x_5 := (h_61.2 c_62)
          refine gc_ck (gb_isub (lo := 3) (hi := 17) (gb_iadd (lo := 4) (hi := 18) (gb_iadd (lo := 3) (hi := 15) (gb_ic (a := 3) (by decide)) (gb_imul (lo := 0) (hi := 12) j_65 (gb_ic (a := 3) (by decide)) (by decide)) (by decide)) j_60 (by decide)) (gb_ic (a := 1) (by decide)) (by decide)) (by decide) ?_
          refine gc_lti (lo := (-2147483648)) (hi := 2147483647) (gb_it _) (fun x_21 ex_21 ix_21 => ?_)
          exact gc_some ⟨rfl, (gb_it _)⟩
    · have j_66 : gb_iv 90 2147483647 p1 := (gb_rL (lo := 90) (hi := 2147483647) (gb_dnle c_51) j_50 (gb_ic (a := 89) (by decide)) (by decide))
      exact gc_some ⟨rfl, (gb_iw (lo := (-2147483648)) (hi := 2147483647) (gb_ic (a := (-2)) (by decide)) (by decide))⟩
set_option maxHeartbeats 4000000 in
theorem ct_Border_miles_B {n : Nat} (hn : gb_N ≤ n) {σ : gb_S} {k0 : Nat} {p1 : Int32} (hT : gb_TC σ) (hk0 : gb_kB k0 = true) (ip1 : gb_iv 0 4 p1) : gb_tc (cs_Border_miles_B n σ k0 p1) (fun s r => s = σ ∧ gb_iv (-2147483648) 2147483647 r) := by
  unfold cs_Border_miles_B
  refine gc_kk hk0 ?_
  refine gc_ck (gb_iadd (lo := 3) (hi := 15) (gb_ic (a := 3) (by decide)) (gb_imul (lo := 0) (hi := 12) ip1 (gb_ic (a := 3) (by decide)) (by decide)) (by decide)) (by decide) ?_
  refine gc_lti (lo := (-2147483648)) (hi := 2147483647) (gb_it _) (fun x_3 ex_3 ix_3 => ?_)
  exact gc_some ⟨rfl, (gb_it _)⟩
set_option maxHeartbeats 4000000 in
theorem ct_Border_rate_B {n : Nat} (hn : gb_N ≤ n) {σ : gb_S} {k0 : Nat} {p1 : Int32} (hT : gb_TC σ) (hk0 : gb_kB k0 = true) (ip1 : gb_iv 0 4 p1) : gb_tc (cs_Border_rate_B n σ k0 p1) (fun s r => s = σ ∧ gb_iv (-2147483648) 2147483647 r) := by
  unfold cs_Border_rate_B
  refine gc_kk hk0 ?_
  refine gc_ck (gb_iadd (lo := 4) (hi := 16) (gb_iadd (lo := 3) (hi := 15) (gb_ic (a := 3) (by decide)) (gb_imul (lo := 0) (hi := 12) ip1 (gb_ic (a := 3) (by decide)) (by decide)) (by decide)) (gb_ic (a := 1) (by decide)) (by decide)) (by decide) ?_
  refine gc_lti (lo := (-2147483648)) (hi := 2147483647) (gb_it _) (fun x_3 ex_3 ix_3 => ?_)
  exact gc_some ⟨rfl, (gb_it _)⟩
set_option maxHeartbeats 4000000 in
theorem ct_Border_pad_B {n : Nat} (hn : gb_N ≤ n) {σ : gb_S} {k0 : Nat} {p1 : Int32} (hT : gb_TC σ) (hk0 : gb_kB k0 = true) (ip1 : gb_iv 0 4 p1) : gb_tc (cs_Border_pad_B n σ k0 p1) (fun s r => s = σ ∧ gb_iv (-2147483648) 2147483647 r) := by
  unfold cs_Border_pad_B
  refine gc_kk hk0 ?_
  refine gc_ck (gb_iadd (lo := 5) (hi := 17) (gb_iadd (lo := 3) (hi := 15) (gb_ic (a := 3) (by decide)) (gb_imul (lo := 0) (hi := 12) ip1 (gb_ic (a := 3) (by decide)) (by decide)) (by decide)) (gb_ic (a := 2) (by decide)) (by decide)) (by decide) ?_
  refine gc_lti (lo := (-2147483648)) (hi := 2147483647) (gb_it _) (fun x_3 ex_3 ix_3 => ?_)
  exact gc_some ⟨rfl, (gb_it _)⟩
set_option maxHeartbeats 4000000 in
theorem ct_Border_toes_B {n : Nat} (hn : gb_N ≤ n) {σ : gb_S} {k0 : Nat} {p1 : Int32} (hT : gb_TC σ) (hk0 : gb_kB k0 = true) (ip1 : gb_iv 0 7 p1) : gb_tc (cs_Border_toes_B n σ k0 p1) (fun s r => s = σ ∧ gb_iv (-2147483648) 2147483647 r) := by
  unfold cs_Border_toes_B
  refine gc_kk hk0 ?_
  refine gc_lti (lo := 18) (hi := 53) (gb_iadd (lo := 18) (hi := 53) (gb_ic (a := 18) (by decide)) (gb_imul (lo := 0) (hi := 35) ip1 (gb_ic (a := 5) (by decide)) (by decide)) (by decide)) (fun x_2 ex_2 ix_2 => ?_)
  refine gc_ck ix_2 (by decide) ?_
  refine gc_lti (lo := (-2147483648)) (hi := 2147483647) (gb_it _) (fun x_4 ex_4 ix_4 => ?_)
  refine gc_ck (gb_iadd (lo := 19) (hi := 54) ix_2 (gb_ic (a := 1) (by decide)) (by decide)) (by decide) ?_
  refine gc_lti (lo := (-2147483648)) (hi := 2147483647) (gb_it _) (fun x_6 ex_6 ix_6 => ?_)
  exact gc_some ⟨rfl, (gb_it _)⟩
set_option maxHeartbeats 4000000 in
theorem ct_Border_boots_B {n : Nat} (hn : gb_N ≤ n) {σ : gb_S} {k0 : Nat} {p1 : Int32} (hT : gb_TC σ) (hk0 : gb_kB k0 = true) (ip1 : gb_iv 0 7 p1) : gb_tc (cs_Border_boots_B n σ k0 p1) (fun s r => s = σ ∧ gb_iv (-2147483648) 2147483647 r) := by
  unfold cs_Border_boots_B
  refine gc_kk hk0 ?_
  refine gc_ck (gb_iadd (lo := 20) (hi := 55) (gb_iadd (lo := 18) (hi := 53) (gb_ic (a := 18) (by decide)) (gb_imul (lo := 0) (hi := 35) ip1 (gb_ic (a := 5) (by decide)) (by decide)) (by decide)) (gb_ic (a := 2) (by decide)) (by decide)) (by decide) ?_
  refine gc_lti (lo := (-2147483648)) (hi := 2147483647) (gb_it _) (fun x_3 ex_3 ix_3 => ?_)
  exact gc_some ⟨rfl, (gb_it _)⟩
set_option maxHeartbeats 4000000 in
theorem ct_Border_limps_B {n : Nat} (hn : gb_N ≤ n) {σ : gb_S} {k0 : Nat} {p1 : Int32} (hT : gb_TC σ) (hk0 : gb_kB k0 = true) (ip1 : gb_iv 0 7 p1) : gb_tc (cs_Border_limps_B n σ k0 p1) (fun s r => s = σ ∧ gb_iv 0 1 r) := by
  unfold cs_Border_limps_B
  refine gc_kk hk0 ?_
  refine gc_ck (gb_iadd (lo := 21) (hi := 56) (gb_iadd (lo := 18) (hi := 53) (gb_ic (a := 18) (by decide)) (gb_imul (lo := 0) (hi := 35) ip1 (gb_ic (a := 5) (by decide)) (by decide)) (by decide)) (gb_ic (a := 3) (by decide)) (by decide)) (by decide) ?_
  refine gc_lti (lo := (-2147483648)) (hi := 2147483647) (gb_it _) (fun x_3 ex_3 ix_3 => ?_)
  refine gc_if (fun c_70 => ?_) (fun c_70 => ?_)
  · have j_71 : gb_iv (-2147483648) 1 x_3 := (gb_rU (lo := (-2147483648)) (hi := 1) (gb_deq c_70) (gb_it _) (gb_ic (a := 1) (by decide)) (by decide))
    have j_72 : gb_iv 1 1 x_3 := (gb_rL (lo := 1) (hi := 1) (gb_deq2 c_70) j_71 (gb_ic (a := 1) (by decide)) (by decide))
    exact gc_some ⟨rfl, (gb_iw (lo := 0) (hi := 1) (gb_ic (a := 1) (by decide)) (by decide))⟩
  · exact gc_some ⟨rfl, (gb_iw (lo := 0) (hi := 1) (gb_ic (a := 0) (by decide)) (by decide))⟩
set_option maxHeartbeats 4000000 in
theorem ct_Border_worth_B {n : Nat} (hn : gb_N ≤ n) {σ : gb_S} {k0 : Nat} {p1 : Int32} (hT : gb_TC σ) (hk0 : gb_kB k0 = true) (ip1 : gb_iv 0 7 p1) : gb_tc (cs_Border_worth_B n σ k0 p1) (fun s r => s = σ ∧ gb_iv (-2147483648) 2147483647 r) := by
  unfold cs_Border_worth_B
  refine gc_kk hk0 ?_
  refine gc_ck (gb_iadd (lo := 22) (hi := 57) (gb_iadd (lo := 18) (hi := 53) (gb_ic (a := 18) (by decide)) (gb_imul (lo := 0) (hi := 35) ip1 (gb_ic (a := 5) (by decide)) (by decide)) (by decide)) (gb_ic (a := 4) (by decide)) (by decide)) (by decide) ?_
  refine gc_lti (lo := (-2147483648)) (hi := 2147483647) (gb_it _) (fun x_3 ex_3 ix_3 => ?_)
  exact gc_some ⟨rfl, (gb_it _)⟩
set_option maxHeartbeats 4000000 in
theorem ct_Border_worthOf_B_4 {n : Nat} (hn : gb_N ≤ n) {Q : gb_S → Int32 → Prop} {σ : gb_S} (hT : gb_TC σ) (hret : ∀ (r : Int32), gb_iv (-2147483648) 2147483647 r → Q σ r) : ∀ (mm : Nat) (v0 : Nat) (v1 : Int32) (v2 : Int32) (v3 : Int32), gb_kB v0 = true → gb_iv (-2147483648) 2147483647 v1 → gb_iv (-2147483648) 2147483647 v2 → gb_iv 0 8 v3 → (8 - v3.toInt).toNat < mm → gb_tc (cs_Border_worthOf_B_4 n mm σ v0 v1 v2 v3) Q := by
  intro mm
  induction mm with
  | zero =>
    intro v0 v1 v2 v3 hv0 iv1 iv2 iv3 hm
    exact absurd hm (Nat.not_lt_zero _)
  | succ mm ih =>
    intro v0 v1 v2 v3 hv0 iv1 iv2 iv3 hm
    rw [cs_Border_worthOf_B_4]
    refine gc_kk hv0 ?_
    refine gc_cdP (ct_Border_geese_B hn hT hv0) (fun r_4 qr_4 h_313 => ?_)
    refine gc_if (fun c_314 => ?_) (fun c_314 => ?_)
    · exact gc_some (hret _ (gb_it _))
    · have j_315 : gb_iv 0 7 v3 := (gb_rU (lo := 0) (hi := 7) (gb_dnle c_314) iv3 h_313 (by decide))
      have j_316 : gb_iv 1 8 r_4 := (gb_rL (lo := 1) (hi := 8) (gb_dnle c_314) h_313 j_315 (by decide))
      refine gc_if (fun c_317 => ?_) (fun c_317 => ?_)
      · have j_318 : gb_iv 1 1 ((v1 >>> (v3 &&& 31)) &&& 1) := (gb_rL (lo := 1) (hi := 1) (gb_deq2 c_317) (gb_iandr (lo := 0) (hi := 1) (gb_iw (lo := 0) (hi := 1) (gb_ic (a := 1) (by decide)) (by decide)) (by decide)) (gb_ic (a := 1) (by decide)) (by decide))
        refine gc_cdP (ct_Border_worth_B hn hT hv0 j_315) (fun r_11 qr_11 h_319 => ?_)
        refine gc_lti (lo := (-2147483648)) (hi := 2147483647) (gb_it _) (fun x_14 ex_14 ix_14 => ?_)
        refine gc_lti (lo := 1) (hi := 8) (gb_iadd (lo := 1) (hi := 8) j_315 (gb_ic (a := 1) (by decide)) (by decide)) (fun x_15 ex_15 ix_15 => ?_)
        exact ih _ _ _ _ hv0 (gb_it _) (gb_it _) (gb_iw (lo := 0) (hi := 8) ix_15 (by decide)) (gb_mup ex_15 j_315 (by decide) hm)
      · have j_320 : gb_iv 0 0 ((v1 >>> (v3 &&& 31)) &&& 1) := (gb_rN (lo := 0) (hi := 0) (v := 1) c_317 (gb_iandr (lo := 0) (hi := 1) (gb_iw (lo := 0) (hi := 1) (gb_ic (a := 1) (by decide)) (by decide)) (by decide)) (by decide) (by decide))
        refine gc_lti (lo := 1) (hi := 8) (gb_iadd (lo := 1) (hi := 8) j_315 (gb_ic (a := 1) (by decide)) (by decide)) (fun x_9 ex_9 ix_9 => ?_)
        exact ih _ _ _ _ hv0 (gb_it _) (gb_it _) (gb_iw (lo := 0) (hi := 8) ix_9 (by decide)) (gb_mup ex_9 j_315 (by decide) hm)
set_option maxHeartbeats 4000000 in
theorem ct_Border_worthOf_B {n : Nat} (hn : gb_N ≤ n) {σ : gb_S} {k0 : Nat} {p1 : Int32} (hT : gb_TC σ) (hk0 : gb_kB k0 = true) : gb_tc (cs_Border_worthOf_B n σ k0 p1) (fun s r => s = σ ∧ gb_iv (-2147483648) 2147483647 r) := by
  unfold cs_Border_worthOf_B
  refine gc_kk hk0 ?_
  exact ct_Border_worthOf_B_4 hn hT (fun _ h => ⟨rfl, h⟩) n _ _ _ _ hk0 (gb_it _) (gb_iw (lo := (-2147483648)) (hi := 2147483647) (gb_ic (a := 0) (by decide)) (by decide)) (gb_iw (lo := 0) (hi := 8) (gb_ic (a := 0) (by decide)) (by decide)) (gb_fuu hn (gb_iw (lo := 0) (hi := 8) (gb_ic (a := 0) (by decide)) (by decide)) (by decide))
set_option maxHeartbeats 4000000 in
theorem ct_Border_marksOver_B_20 {n : Nat} (hn : gb_N ≤ n) {Q : gb_S → Int32 → Prop} {σ : gb_S} (hT : gb_TC σ) (hret : ∀ (r : Int32), gb_iv (-2147483648) 2147483647 r → Q σ r) : ∀ (v0 : Nat) (v1 : Int32) (v2 : Int32) (v5 : Int32) (t0 : Int32), gb_kB v0 = true → gb_iv 0 7 v1 → gb_iv (-2147483648) 2147483647 v2 → gb_iv (-2147483648) 2147483647 v5 → gb_iv (-2147483648) 2147483647 t0 → gb_tc (cs_Border_marksOver_B_20 n σ v0 v1 v2 v5 t0) Q := by
  intro v0 v1 v2 v5 t0 hv0 iv1 iv2 iv5 it0
  unfold cs_Border_marksOver_B_20
  refine gc_kk hv0 ?_
  refine gc_cdP (ct_Border_toes_B hn hT hv0 iv1) (fun r_6 qr_6 h_337 => ?_)
  refine gc_lti (lo := (-2147483648)) (hi := 2147483647) (gb_it _) (fun x_9 ex_9 ix_9 => ?_)
  refine gc_cdP (ct_Border_limps_B hn hT hv0 iv1) (fun r_11 qr_11 h_338 => ?_)
  refine gc_if (fun c_339 => ?_) (fun c_339 => ?_)
  · have j_340 : gb_iv 0 0 r_11 := (gb_rU (lo := 0) (hi := 0) (gb_deq c_339) h_338 (gb_ic (a := 0) (by decide)) (by decide))
    exact gc_some (hret _ (gb_it _))
  · have j_341 : gb_iv 1 1 r_11 := (gb_rN (lo := 1) (hi := 1) (v := 0) c_339 h_338 (by decide) (by decide))
    exact gc_some (hret _ (gb_it _))
set_option maxHeartbeats 4000000 in
theorem ct_Border_marksOver_B_20_i1 {n : Nat} (hn : gb_N ≤ n) {Q : gb_S → Int32 → Prop} {σ : gb_S} (hT : gb_TC σ) (hret : ∀ (r : Int32), gb_iv (-2147483648) 2147483647 r → Q σ r) : ∀ (v0 : Nat) (v1 : Int32) (v2 : Int32) (v5 : Int32) (t0 : Int32), gb_kB v0 = true → gb_iv 0 7 v1 → gb_iv (-2147483648) 2147483647 v2 → gb_iv (-2147483648) 2147483647 v5 → gb_iv 0 0 t0 → gb_tc (cs_Border_marksOver_B_20 n σ v0 v1 v2 v5 t0) Q := by
  intro v0 v1 v2 v5 t0 hv0 iv1 iv2 iv5 it0
  unfold cs_Border_marksOver_B_20
  refine gc_kk hv0 ?_
  refine gc_cdP (ct_Border_toes_B hn hT hv0 iv1) (fun r_6 qr_6 h_342 => ?_)
  refine gc_lti (lo := (-2147483648)) (hi := 2147483647) (gb_iadd (lo := (-2147483648)) (hi := 2147483647) it0 (gb_it _) (by decide)) (fun x_9 ex_9 ix_9 => ?_)
  refine gc_cdP (ct_Border_limps_B hn hT hv0 iv1) (fun r_11 qr_11 h_343 => ?_)
  refine gc_if (fun c_344 => ?_) (fun c_344 => ?_)
  · have j_345 : gb_iv 0 0 r_11 := (gb_rU (lo := 0) (hi := 0) (gb_deq c_344) h_343 (gb_ic (a := 0) (by decide)) (by decide))
    exact gc_some (hret _ (gb_it _))
  · have j_346 : gb_iv 1 1 r_11 := (gb_rN (lo := 1) (hi := 1) (v := 0) c_344 h_343 (by decide) (by decide))
    exact gc_some (hret _ (gb_it _))
set_option maxHeartbeats 4000000 in
theorem ct_Border_marksOver_B {n : Nat} (hn : gb_N ≤ n) {σ : gb_S} {k0 : Nat} {p1 : Int32} {p2 : Int32} {p3 : Int32} {p4 : Int32} (hT : gb_TC σ) (hk0 : gb_kB k0 = true) (ip1 : gb_iv 0 7 p1) : gb_tc (cs_Border_marksOver_B n σ k0 p1 p2 p3 p4) (fun s r => s = σ ∧ gb_iv (-2147483648) 2147483647 r) := by
  unfold cs_Border_marksOver_B
  refine gc_kk hk0 ?_
  refine gc_lti (lo := (-2147483648)) (hi := 2147483647) (gb_imin (lo := (-2147483648)) (hi := 2147483647) (gb_it _) (gb_it _) (by decide)) (fun x_2 ex_2 ix_2 => ?_)
  refine gc_if (fun c_334 => ?_) (fun c_334 => ?_)
  · have j_335 : gb_iv (-2147483648) 0 p4 := (gb_rU (lo := (-2147483648)) (hi := 0) (gb_deq c_334) (gb_it _) (gb_ic (a := 0) (by decide)) (by decide))
    have j_336 : gb_iv 0 0 p4 := (gb_rL (lo := 0) (hi := 0) (gb_deq2 c_334) j_335 (gb_ic (a := 0) (by decide)) (by decide))
    exact ct_Border_marksOver_B_20 hn hT (fun _ h => ⟨rfl, h⟩) _ _ _ _ _ hk0 ip1 (gb_it _) (gb_it _) (gb_it _)
  · exact ct_Border_marksOver_B_20_i1 hn hT (fun _ h => ⟨rfl, h⟩) _ _ _ _ _ hk0 ip1 (gb_it _) (gb_it _) (gb_ic (a := 0) (by decide))
set_option maxHeartbeats 4000000 in
theorem ct_Border_marksFirst_B {n : Nat} (hn : gb_N ≤ n) {σ : gb_S} {k0 : Nat} {p1 : Int32} {p2 : Int32} (hT : gb_TC σ) (hk0 : gb_kB k0 = true) (ip1 : gb_iv 0 7 p1) (ip2 : gb_iv 0 4 p2) : gb_tc (cs_Border_marksFirst_B n σ k0 p1 p2) (fun s r => s = σ ∧ gb_iv (-2147483648) 2147483647 r) := by
  unfold cs_Border_marksFirst_B
  refine gc_kk hk0 ?_
  refine gc_cdP (ct_Border_miles_B hn hT hk0 ip2) (fun r_3 qr_3 h_350 => ?_)
  refine gc_cdP (ct_Border_boots_B hn hT hk0 ip1) (fun r_7 qr_7 h_351 => ?_)
  refine gc_cdP (ct_Border_marksOver_B hn hT hk0 ip1) (fun r_11 qr_11 h_352 => ?_)
  exact gc_some ⟨rfl, (gb_it _)⟩
set_option maxHeartbeats 4000000 in
theorem ct_Border_padded_B {n : Nat} (hn : gb_N ≤ n) {σ : gb_S} {k0 : Nat} {p1 : Int32} {p2 : Int32} (hT : gb_TC σ) (hk0 : gb_kB k0 = true) (ip1 : gb_iv 0 4 p1) : gb_tc (cs_Border_padded_B n σ k0 p1 p2) (fun s r => s = σ ∧ gb_iv (-2147483648) 2147483647 r) := by
  unfold cs_Border_padded_B
  refine gc_kk hk0 ?_
  refine gc_cdP (ct_Border_pad_B hn hT hk0 ip1) (fun r_3 qr_3 h_354 => ?_)
  refine gc_lti (lo := (-2147483648)) (hi := 2147483647) (gb_it _) (fun x_6 ex_6 ix_6 => ?_)
  exact gc_some ⟨rfl, (gb_it _)⟩
set_option maxHeartbeats 4000000 in
theorem ct_Border_payOf_B {n : Nat} (hn : gb_N ≤ n) {σ : gb_S} {k0 : Nat} {p1 : Int32} {p2 : Int32} (hT : gb_TC σ) (hk0 : gb_kB k0 = true) (ip1 : gb_iv 0 4 p1) : gb_tc (cs_Border_payOf_B n σ k0 p1 p2) (fun s r => s = σ ∧ gb_iv (-2147483648) 2147483647 r) := by
  unfold cs_Border_payOf_B
  refine gc_kk hk0 ?_
  refine gc_cdP (ct_Border_rate_B hn hT hk0 ip1) (fun r_3 qr_3 h_357 => ?_)
  refine gc_cdP (ct_Border_padded_B hn hT hk0 ip1) (fun r_7 qr_7 h_358 => ?_)
  exact gc_some ⟨rfl, (gb_it _)⟩
set_option maxHeartbeats 4000000 in
theorem ct_Border_barefoot_B_4 {n : Nat} (hn : gb_N ≤ n) {Q : gb_S → Int32 → Prop} {σ : gb_S} (hT : gb_TC σ) (hret : ∀ (r : Int32), gb_iv (-2147483648) 2147483647 r → Q σ r) : ∀ (mm : Nat) (v0 : Nat) (v1 : Int32) (v2 : Int32) (v3 : Int32), gb_kB v0 = true → gb_iv 0 4 v1 → gb_iv (-2147483648) 2147483647 v2 → gb_iv 0 8 v3 → (8 - v3.toInt).toNat < mm → gb_tc (cs_Border_barefoot_B_4 n mm σ v0 v1 v2 v3) Q := by
  intro mm
  induction mm with
  | zero =>
    intro v0 v1 v2 v3 hv0 iv1 iv2 iv3 hm
    exact absurd hm (Nat.not_lt_zero _)
  | succ mm ih =>
    intro v0 v1 v2 v3 hv0 iv1 iv2 iv3 hm
    rw [cs_Border_barefoot_B_4]
    refine gc_kk hv0 ?_
    refine gc_cdP (ct_Border_geese_B hn hT hv0) (fun r_4 qr_4 h_539 => ?_)
    refine gc_if (fun c_540 => ?_) (fun c_540 => ?_)
    · exact gc_some (hret _ (gb_it _))
    · have j_541 : gb_iv 0 7 v3 := (gb_rU (lo := 0) (hi := 7) (gb_dnle c_540) iv3 h_539 (by decide))
      have j_542 : gb_iv 1 8 r_4 := (gb_rL (lo := 1) (hi := 8) (gb_dnle c_540) h_539 j_541 (by decide))
      refine gc_cdP (ct_Border_miles_B hn hT hv0 iv1) (fun r_9 qr_9 h_543 => ?_)
      refine gc_cdP (ct_Border_marksOver_B hn hT hv0 j_541) (fun r_13 qr_13 h_544 => ?_)
      refine gc_lti (lo := (-2147483648)) (hi := 2147483647) (gb_it _) (fun x_16 ex_16 ix_16 => ?_)
      refine gc_lti (lo := 1) (hi := 8) (gb_iadd (lo := 1) (hi := 8) j_541 (gb_ic (a := 1) (by decide)) (by decide)) (fun x_17 ex_17 ix_17 => ?_)
      exact ih _ _ _ _ hv0 iv1 (gb_it _) (gb_iw (lo := 0) (hi := 8) ix_17 (by decide)) (gb_mup ex_17 j_541 (by decide) hm)
set_option maxHeartbeats 4000000 in
theorem ct_Border_barefoot_B {n : Nat} (hn : gb_N ≤ n) {σ : gb_S} {k0 : Nat} {p1 : Int32} (hT : gb_TC σ) (hk0 : gb_kB k0 = true) (ip1 : gb_iv 0 4 p1) : gb_tc (cs_Border_barefoot_B n σ k0 p1) (fun s r => s = σ ∧ gb_iv (-2147483648) 2147483647 r) := by
  unfold cs_Border_barefoot_B
  refine gc_kk hk0 ?_
  exact ct_Border_barefoot_B_4 hn hT (fun _ h => ⟨rfl, h⟩) n _ _ _ _ hk0 ip1 (gb_iw (lo := (-2147483648)) (hi := 2147483647) (gb_ic (a := 0) (by decide)) (by decide)) (gb_iw (lo := 0) (hi := 8) (gb_ic (a := 0) (by decide)) (by decide)) (gb_fuu hn (gb_iw (lo := 0) (hi := 8) (gb_ic (a := 0) (by decide)) (by decide)) (by decide))
set_option maxHeartbeats 4000000 in
theorem ct_Border_milesThatSpare_B_5 {n : Nat} (hn : gb_N ≤ n) {Q : gb_S → Int32 → Prop} {σ : gb_S} (hT : gb_TC σ) (hret : ∀ (r : Int32), gb_iv (-2147483648) 2147483647 r → Q σ r) : ∀ (mm : Nat) (v0 : Nat) (v1 : Int32) (v2 : Int32) (v3 : Int32) (v4 : Int32), gb_kB v0 = true → gb_iv 0 4 v1 → gb_iv (-2147483648) 2147483647 v2 → gb_iv (-2147483648) 2147483647 v3 → gb_iv 0 8 v4 → (8 - v4.toInt).toNat < mm → gb_tc (cs_Border_milesThatSpare_B_5 n mm σ v0 v1 v2 v3 v4) Q := by
  intro mm
  induction mm with
  | zero =>
    intro v0 v1 v2 v3 v4 hv0 iv1 iv2 iv3 iv4 hm
    exact absurd hm (Nat.not_lt_zero _)
  | succ mm ih =>
    intro v0 v1 v2 v3 v4 hv0 iv1 iv2 iv3 iv4 hm
    rw [cs_Border_milesThatSpare_B_5]
    refine gc_kk hv0 ?_
    refine gc_cdP (ct_Border_geese_B hn hT hv0) (fun r_4 qr_4 h_935 => ?_)
    refine gc_if (fun c_936 => ?_) (fun c_936 => ?_)
    · exact gc_some (hret _ (gb_it _))
    · have j_937 : gb_iv 0 7 v4 := (gb_rU (lo := 0) (hi := 7) (gb_dnle c_936) iv4 h_935 (by decide))
      have j_938 : gb_iv 1 8 r_4 := (gb_rL (lo := 1) (hi := 8) (gb_dnle c_936) h_935 j_937 (by decide))
      refine gc_cdP (ct_Border_toes_B hn hT hv0 j_937) (fun r_9 qr_9 h_939 => ?_)
      refine gc_cdP (ct_Border_limps_B hn hT hv0 j_937) (fun r_13 qr_13 h_940 => ?_)
      refine gc_if (fun c_941 => ?_) (fun c_941 => ?_)
      · have j_942 : gb_iv 0 0 r_13 := (gb_rU (lo := 0) (hi := 0) (gb_deq c_941) h_940 (gb_ic (a := 0) (by decide)) (by decide))
        refine gc_lti (lo := (-2147483648)) (hi := 2147483647) (gb_it _) (fun x_17 ex_17 ix_17 => ?_)
        refine gc_if (fun c_943 => ?_) (fun c_943 => ?_)
        · refine gc_cdP (ct_Border_miles_B hn hT hv0 iv1) (fun r_21 qr_21 h_944 => ?_)
          refine gc_lti (lo := (-2147483648)) (hi := 2147483647) (gb_it _) (fun x_24 ex_24 ix_24 => ?_)
          refine gc_lti (lo := 1) (hi := 8) (gb_iadd (lo := 1) (hi := 8) j_937 (gb_ic (a := 1) (by decide)) (by decide)) (fun x_25 ex_25 ix_25 => ?_)
          exact ih _ _ _ _ _ hv0 iv1 (gb_it _) (gb_it _) (gb_iw (lo := 0) (hi := 8) ix_25 (by decide)) (gb_mup ex_25 j_937 (by decide) hm)
        · refine gc_lti (lo := 1) (hi := 8) (gb_iadd (lo := 1) (hi := 8) j_937 (gb_ic (a := 1) (by decide)) (by decide)) (fun x_19 ex_19 ix_19 => ?_)
          exact ih _ _ _ _ _ hv0 iv1 (gb_it _) (gb_it _) (gb_iw (lo := 0) (hi := 8) ix_19 (by decide)) (gb_mup ex_19 j_937 (by decide) hm)
      · have j_945 : gb_iv 1 1 r_13 := (gb_rN (lo := 1) (hi := 1) (v := 0) c_941 h_940 (by decide) (by decide))
        refine gc_lti (lo := (-2147483648)) (hi := 2147483647) (gb_it _) (fun x_26 ex_26 ix_26 => ?_)
        refine gc_if (fun c_946 => ?_) (fun c_946 => ?_)
        · refine gc_cdP (ct_Border_miles_B hn hT hv0 iv1) (fun r_30 qr_30 h_947 => ?_)
          refine gc_lti (lo := (-2147483648)) (hi := 2147483647) (gb_it _) (fun x_33 ex_33 ix_33 => ?_)
          refine gc_lti (lo := 1) (hi := 8) (gb_iadd (lo := 1) (hi := 8) j_937 (gb_ic (a := 1) (by decide)) (by decide)) (fun x_34 ex_34 ix_34 => ?_)
          exact ih _ _ _ _ _ hv0 iv1 (gb_it _) (gb_it _) (gb_iw (lo := 0) (hi := 8) ix_34 (by decide)) (gb_mup ex_34 j_937 (by decide) hm)
        · refine gc_lti (lo := 1) (hi := 8) (gb_iadd (lo := 1) (hi := 8) j_937 (gb_ic (a := 1) (by decide)) (by decide)) (fun x_28 ex_28 ix_28 => ?_)
          exact ih _ _ _ _ _ hv0 iv1 (gb_it _) (gb_it _) (gb_iw (lo := 0) (hi := 8) ix_28 (by decide)) (gb_mup ex_28 j_937 (by decide) hm)
set_option maxHeartbeats 4000000 in
theorem ct_Border_milesThatSpare_B {n : Nat} (hn : gb_N ≤ n) {σ : gb_S} {k0 : Nat} {p1 : Int32} {p2 : Int32} (hT : gb_TC σ) (hk0 : gb_kB k0 = true) (ip1 : gb_iv 0 4 p1) : gb_tc (cs_Border_milesThatSpare_B n σ k0 p1 p2) (fun s r => s = σ ∧ gb_iv (-2147483648) 2147483647 r) := by
  unfold cs_Border_milesThatSpare_B
  refine gc_kk hk0 ?_
  exact ct_Border_milesThatSpare_B_5 hn hT (fun _ h => ⟨rfl, h⟩) n _ _ _ _ _ hk0 ip1 (gb_it _) (gb_iw (lo := (-2147483648)) (hi := 2147483647) (gb_ic (a := 0) (by decide)) (by decide)) (gb_iw (lo := 0) (hi := 8) (gb_ic (a := 0) (by decide)) (by decide)) (gb_fuu hn (gb_iw (lo := 0) (hi := 8) (gb_ic (a := 0) (by decide)) (by decide)) (by decide))
set_option maxHeartbeats 4000000 in
theorem ct_Face_end {n : Nat} (hn : gb_N ≤ n) {σ : gb_S} {p1 : Int32} (hT : gb_TC σ) : gb_tc (cs_Face_end n σ p1) (fun s r => gb_TC s ∧ gb_iv (-1) 600 r) := by
  unfold cs_Face_end
  refine gc_if (fun c_959 => ?_) (fun c_959 => ?_)
  · have j_960 : gb_iv (-2147483648) (-1) p1 := (gb_rU (lo := (-2147483648)) (hi := (-1)) (gb_dlt c_959) (gb_it _) (gb_ic (a := 0) (by decide)) (by decide))
    exact gc_some ⟨hT, (gb_iw (lo := (-1)) (hi := 600) (gb_ic (a := (-1)) (by decide)) (by decide))⟩
  · have j_961 : gb_iv 0 2147483647 p1 := (gb_rL (lo := 0) (hi := 2147483647) (gb_dnlt c_959) (gb_it _) (gb_ic (a := 0) (by decide)) (by decide))
    refine gc_if (fun c_962 => ?_) (fun c_962 => ?_)
    · have j_963 : gb_iv 0 600 p1 := (gb_rU (lo := 0) (hi := 600) (gb_dle c_962) j_961 (gc_rd (c := 7) (lo := 0) (hi := 600) hT (rfl : gc_cat 1 = 7) (by decide)) (by decide))
      refine gc_ltT (gc_su (c := 7) (lo := 0) (hi := 600) hT (rfl : gc_cat 1 = 7) j_963 (by decide)) (fun s_3 es_3 hTs_3 => ?_)
      exact gc_some ⟨hTs_3, (gb_iw (lo := (-1)) (hi := 600) j_963 (by decide))⟩
    · have j_964 : gb_iv 1 2147483647 p1 := (gb_rL (lo := 1) (hi := 2147483647) (gb_dnle c_962) j_961 (gc_rd (c := 7) (lo := 0) (hi := 600) hT (rfl : gc_cat 1 = 7) (by decide)) (by decide))
      exact gc_some ⟨hT, (gb_iw (lo := (-1)) (hi := 600) (gb_ic (a := (-1)) (by decide)) (by decide))⟩
set_option maxHeartbeats 4000000 in
theorem ct_Lines_size_D {n : Nat} (hn : gb_N ≤ n) {σ : gb_S} {k0 : Nat} (hT : gb_TC σ) (hk0 : gb_kD k0 = true) : gb_tc (cs_Lines_size_D n σ k0) (fun s r => s = σ ∧ gb_iv 0 5 r) := by
  unfold cs_Lines_size_D
  refine gc_kk hk0 ?_
  refine gc_lti (lo := 0) (hi := 5) (gc_rd (c := 4) (lo := 0) (hi := 5) hT (gc_catD hk0) (by decide)) (fun x_2 ex_2 ix_2 => ?_)
  exact gc_some ⟨rfl, ix_2⟩
set_option maxHeartbeats 4000000 in
theorem ct_Lines_cell_D {n : Nat} (hn : gb_N ≤ n) {σ : gb_S} {k0 : Nat} {p1 : Int32} {p2 : Int32} (hT : gb_TC σ) (hk0 : gb_kD k0 = true) (ip1 : gb_iv 0 4 p1) (ip2 : gb_iv 0 2 p2) : gb_tc (cs_Lines_cell_D n σ k0 p1 p2) (fun s r => s = σ ∧ gb_iv (-2147483648) 2147483647 r) := by
  unfold cs_Lines_cell_D
  refine gc_kk hk0 ?_
  refine gc_ck (gb_iadd (lo := 1) (hi := 15) (gb_iadd (lo := 1) (hi := 13) (gb_ic (a := 1) (by decide)) (gb_imul (lo := 0) (hi := 12) ip1 (gb_iadd (lo := 3) (hi := 3) (gb_ic (a := 2) (by decide)) (gb_ic (a := 1) (by decide)) (by decide)) (by decide)) (by decide)) ip2 (by decide)) (by decide) ?_
  refine gc_lti (lo := (-2147483648)) (hi := 2147483647) (gb_it _) (fun x_3 ex_3 ix_3 => ?_)
  exact gc_some ⟨rfl, (gb_it _)⟩
set_option maxHeartbeats 4000000 in
theorem ct_Dawn_pathSeen_D {n : Nat} (hn : gb_N ≤ n) {σ : gb_S} {k0 : Nat} {p1 : Int32} (hT : gb_TC σ) (hk0 : gb_kD k0 = true) (ip1 : gb_iv 0 4 p1) : gb_tc (cs_Dawn_pathSeen_D n σ k0 p1) (fun s r => s = σ ∧ gb_iv (-2147483648) 2147483647 r) := by
  unfold cs_Dawn_pathSeen_D
  refine gc_kk hk0 ?_
  refine gc_cdP (ct_Lines_cell_D hn hT hk0 ip1 (gb_iw (lo := 0) (hi := 2) (gb_ic (a := 1) (by decide)) (by decide))) (fun r_3 qr_3 h_966 => ?_)
  exact gc_some ⟨rfl, (gb_it _)⟩
set_option maxHeartbeats 4000000 in
theorem ct_Face_fault {n : Nat} (hn : gb_N ≤ n) {σ : gb_S} {p1 : Int32} (hT : gb_TC σ) : gb_tc (cs_Face_fault n σ p1) (fun s r => s = σ ∧ gb_iv (-2147483648) 2147483647 r) := by
  unfold cs_Face_fault
  refine gc_if (fun c_973 => ?_) (fun c_973 => ?_)
  · have j_974 : gb_iv (-2147483648) 0 p1 := (gb_rU (lo := (-2147483648)) (hi := 0) (gb_deq c_973) (gb_it _) (gb_ic (a := 0) (by decide)) (by decide))
    have j_975 : gb_iv 0 0 p1 := (gb_rL (lo := 0) (hi := 0) (gb_deq2 c_973) j_974 (gb_ic (a := 0) (by decide)) (by decide))
    exact gc_some ⟨rfl, (gb_it _)⟩
  · refine gc_if (fun c_976 => ?_) (fun c_976 => ?_)
    · have j_977 : gb_iv (-2147483648) 1 p1 := (gb_rU (lo := (-2147483648)) (hi := 1) (gb_deq c_976) (gb_it _) (gb_ic (a := 1) (by decide)) (by decide))
      have j_978 : gb_iv 1 1 p1 := (gb_rL (lo := 1) (hi := 1) (gb_deq2 c_976) j_977 (gb_ic (a := 1) (by decide)) (by decide))
      exact gc_some ⟨rfl, (gb_it _)⟩
    · exact gc_some ⟨rfl, (gb_iw (lo := (-2147483648)) (hi := 2147483647) (gb_ic (a := (-1)) (by decide)) (by decide))⟩
set_option maxHeartbeats 4000000 in
theorem ct_Face_count {n : Nat} (hn : gb_N ≤ n) {σ : gb_S} {p1 : Int32} (hT : gb_TC σ) : gb_tc (cs_Face_count n σ p1) (fun s r => s = σ ∧ gb_iv (-2) 2 r) := by
  unfold cs_Face_count
  refine gc_if (fun c_985 => ?_) (fun c_985 => ?_)
  · have j_986 : gb_iv (-2147483648) (-1) p1 := (gb_rU (lo := (-2147483648)) (hi := (-1)) (gb_dlt c_985) (gb_it _) (gb_ic (a := 0) (by decide)) (by decide))
    exact gc_some ⟨rfl, (gb_iw (lo := (-2)) (hi := 2) (gb_ic (a := (-2)) (by decide)) (by decide))⟩
  · have j_987 : gb_iv 0 2147483647 p1 := (gb_rL (lo := 0) (hi := 2147483647) (gb_dnlt c_985) (gb_it _) (gb_ic (a := 0) (by decide)) (by decide))
    refine gc_if (fun c_988 => ?_) (fun c_988 => ?_)
    · have j_989 : gb_iv 4 2147483647 p1 := (gb_rL (lo := 4) (hi := 2147483647) (gb_dle c_988) j_987 (gb_ic (a := 4) (by decide)) (by decide))
      exact gc_some ⟨rfl, (gb_iw (lo := (-2)) (hi := 2) (gb_ic (a := (-2)) (by decide)) (by decide))⟩
    · have j_990 : gb_iv 0 3 p1 := (gb_rU (lo := 0) (hi := 3) (gb_dnle c_988) j_987 (gb_ic (a := 4) (by decide)) (by decide))
      refine gc_ck j_990 (by decide) ?_
      refine gc_lti (lo := 0) (hi := 2) (gc_rd (c := 5) (lo := 0) (hi := 2) hT (rfl : gc_cat 22 = 5) ⟨Int.le_refl _, Int.le_refl _⟩) (fun x_4 ex_4 ix_4 => ?_)
      exact gc_some ⟨rfl, (gb_iw (lo := (-2)) (hi := 2) ix_4 (by decide))⟩
set_option maxHeartbeats 4000000 in
theorem ct_Face_borderAt {n : Nat} (hn : gb_N ≤ n) {σ : gb_S} {p1 : Int32} (hT : gb_TC σ) : gb_tc (cs_Face_borderAt n σ p1) (fun s r => s = σ ∧ (r = 0 ∨ gb_kB r = true)) := by
  unfold cs_Face_borderAt
  refine gc_if (fun c_998 => ?_) (fun c_998 => ?_)
  · have j_999 : gb_iv (-2147483648) (-1) p1 := (gb_rU (lo := (-2147483648)) (hi := (-1)) (gb_dlt c_998) (gb_it _) (gb_ic (a := 0) (by decide)) (by decide))
    exact gc_some ⟨rfl, (Or.inl rfl)⟩
  · have j_1000 : gb_iv 0 2147483647 p1 := (gb_rL (lo := 0) (hi := 2147483647) (gb_dnlt c_998) (gb_it _) (gb_ic (a := 0) (by decide)) (by decide))
    refine gc_lti (lo := 0) (hi := 2) (gc_rd (c := 5) (lo := 0) (hi := 2) hT (rfl : gc_cat 22 = 5) (by decide)) (fun x_2 ex_2 ix_2 => ?_)
    refine gc_if (fun c_1001 => ?_) (fun c_1001 => ?_)
    · exact gc_some ⟨rfl, (Or.inl rfl)⟩
    · have j_1002 : gb_iv 0 1 p1 := (gb_rU (lo := 0) (hi := 1) (gb_dnle c_1001) j_1000 ix_2 (by decide))
      have j_1003 : gb_iv 1 2 x_2 := (gb_rL (lo := 1) (hi := 2) (gb_dnle c_1001) ix_2 j_1002 (by decide))
      refine gc_ck j_1002 (by decide) ?_
      refine gc_lt (fun a_5 ea_5 => ?_)
      have k_1004 : gb_kB a_5 = true := by rw [ea_5]; exact gc_gB j_1002
      refine gc_kk k_1004 ?_
      exact gc_some ⟨rfl, (Or.inr k_1004)⟩
set_option maxHeartbeats 4000000 in
theorem ct_Face_border {n : Nat} (hn : gb_N ≤ n) {σ : gb_S} {p1 : Int32} {p2 : Int32} (hT : gb_TC σ) : gb_tc (cs_Face_border n σ p1 p2) (fun s r => s = σ ∧ gb_iv (-2147483648) 2147483647 r) := by
  unfold cs_Face_border
  refine gc_cdP (ct_Face_borderAt hn hT) (fun r_2 qr_2 h_1020 => ?_)
  refine gc_if (fun c_1021 => ?_) (fun c_1021 => ?_)
  · exact gc_some ⟨rfl, (gb_iw (lo := (-2147483648)) (hi := 2147483647) (gb_ic (a := (-2)) (by decide)) (by decide))⟩
  · refine gc_kk (Or.resolve_left h_1020 c_1021) ?_
    refine gc_if (fun c_1022 => ?_) (fun c_1022 => ?_)
    · have j_1023 : gb_iv (-2147483648) 0 p2 := (gb_rU (lo := (-2147483648)) (hi := 0) (gb_deq c_1022) (gb_it _) (gb_ic (a := 0) (by decide)) (by decide))
      have j_1024 : gb_iv 0 0 p2 := (gb_rL (lo := 0) (hi := 0) (gb_deq2 c_1022) j_1023 (gb_ic (a := 0) (by decide)) (by decide))
      refine gc_cdP (ct_Border_paths_B hn hT (Or.resolve_left h_1020 c_1021)) (fun r_9 qr_9 h_1025 => ?_)
      exact gc_some ⟨rfl, (gb_iw (lo := (-2147483648)) (hi := 2147483647) h_1025 (by decide))⟩
    · refine gc_if (fun c_1026 => ?_) (fun c_1026 => ?_)
      · have j_1027 : gb_iv (-2147483648) 1 p2 := (gb_rU (lo := (-2147483648)) (hi := 1) (gb_deq c_1026) (gb_it _) (gb_ic (a := 1) (by decide)) (by decide))
        have j_1028 : gb_iv 1 1 p2 := (gb_rL (lo := 1) (hi := 1) (gb_deq2 c_1026) j_1027 (gb_ic (a := 1) (by decide)) (by decide))
        refine gc_cdP (ct_Border_geese_B hn hT (Or.resolve_left h_1020 c_1021)) (fun r_14 qr_14 h_1029 => ?_)
        exact gc_some ⟨rfl, (gb_iw (lo := (-2147483648)) (hi := 2147483647) h_1029 (by decide))⟩
      · refine gc_if (fun c_1030 => ?_) (fun c_1030 => ?_)
        · have j_1031 : gb_iv (-2147483648) 2 p2 := (gb_rU (lo := (-2147483648)) (hi := 2) (gb_deq c_1030) (gb_it _) (gb_ic (a := 2) (by decide)) (by decide))
          have j_1032 : gb_iv 2 2 p2 := (gb_rL (lo := 2) (hi := 2) (gb_deq2 c_1030) j_1031 (gb_ic (a := 2) (by decide)) (by decide))
          refine gc_cdP (ct_Border_cap_B hn hT (Or.resolve_left h_1020 c_1021)) (fun r_19 qr_19 h_1033 => ?_)
          exact gc_some ⟨rfl, (gb_it _)⟩
        · refine gc_cdP (ct_Border_numberTold_B hn hT (Or.resolve_left h_1020 c_1021)) (fun r_23 qr_23 h_1034 => ?_)
          exact gc_some ⟨rfl, (gb_it _)⟩
set_option maxHeartbeats 4000000 in
theorem ct_Face_marks {n : Nat} (hn : gb_N ≤ n) {σ : gb_S} {p1 : Int32} {p2 : Int32} {p3 : Int32} {p4 : Int32} (hT : gb_TC σ) : gb_tc (cs_Face_marks n σ p1 p2 p3 p4) (fun s r => s = σ ∧ gb_iv (-2147483648) 2147483647 r) := by
  unfold cs_Face_marks
  refine gc_cdP (ct_Face_borderAt hn hT) (fun r_2 qr_2 h_1050 => ?_)
  refine gc_if (fun c_1051 => ?_) (fun c_1051 => ?_)
  · exact gc_some ⟨rfl, (gb_iw (lo := (-2147483648)) (hi := 2147483647) (gb_ic (a := (-1)) (by decide)) (by decide))⟩
  · refine gc_kk (Or.resolve_left h_1050 c_1051) ?_
    refine gc_cdP (ct_Border_hasGoose_B hn hT (Or.resolve_left h_1050 c_1051)) (fun r_8 qr_8 h_1052 => ?_)
    refine gc_if (fun c_1053 => ?_) (fun c_1053 => ?_)
    · have j_1054 : gb_iv 0 0 r_8 := (gb_rU (lo := 0) (hi := 0) (gb_deq c_1053) h_1052.1 (gb_ic (a := 0) (by decide)) (by decide))
      exact gc_some ⟨rfl, (gb_iw (lo := (-2147483648)) (hi := 2147483647) (gb_ic (a := (-1)) (by decide)) (by decide))⟩
    · have j_1055 : gb_iv 1 1 r_8 := (gb_rN (lo := 1) (hi := 1) (v := 0) c_1053 h_1052.1 (by decide) (by decide))
      have j_1056 : gb_iv 0 7 p2 := (h_1052.2 c_1053)
      refine gc_cdP (ct_Border_hasPath_B hn hT (Or.resolve_left h_1050 c_1051)) (fun r_13 qr_13 h_1057 => ?_)
      refine gc_if (fun c_1058 => ?_) (fun c_1058 => ?_)
      · have j_1059 : gb_iv 0 0 r_13 := (gb_rU (lo := 0) (hi := 0) (gb_deq c_1058) h_1057.1 (gb_ic (a := 0) (by decide)) (by decide))
        exact gc_some ⟨rfl, (gb_iw (lo := (-2147483648)) (hi := 2147483647) (gb_ic (a := (-1)) (by decide)) (by decide))⟩
      · have j_1060 : gb_iv 1 1 r_13 := (gb_rN (lo := 1) (hi := 1) (v := 0) c_1058 h_1057.1 (by decide) (by decide))
        have j_1061 : gb_iv 0 4 p3 := (h_1057.2 c_1058)
        refine gc_cdP (ct_Border_miles_B hn hT (Or.resolve_left h_1050 c_1051) j_1061) (fun r_18 qr_18 h_1062 => ?_)
        refine gc_cdP (ct_Border_boots_B hn hT (Or.resolve_left h_1050 c_1051) j_1056) (fun r_22 qr_22 h_1063 => ?_)
        refine gc_cdP (ct_Border_marksOver_B hn hT (Or.resolve_left h_1050 c_1051) j_1056) (fun r_26 qr_26 h_1064 => ?_)
        exact gc_some ⟨rfl, (gb_it _)⟩
set_option maxHeartbeats 4000000 in
theorem ct_Face_nightAt {n : Nat} (hn : gb_N ≤ n) {σ : gb_S} {p1 : Int32} (hT : gb_TC σ) : gb_tc (cs_Face_nightAt n σ p1) (fun s r => s = σ ∧ (r = 0 ∨ gb_kN r = true)) := by
  unfold cs_Face_nightAt
  refine gc_if (fun c_1072 => ?_) (fun c_1072 => ?_)
  · have j_1073 : gb_iv (-2147483648) (-1) p1 := (gb_rU (lo := (-2147483648)) (hi := (-1)) (gb_dlt c_1072) (gb_it _) (gb_ic (a := 0) (by decide)) (by decide))
    exact gc_some ⟨rfl, (Or.inl rfl)⟩
  · have j_1074 : gb_iv 0 2147483647 p1 := (gb_rL (lo := 0) (hi := 2147483647) (gb_dnlt c_1072) (gb_it _) (gb_ic (a := 0) (by decide)) (by decide))
    refine gc_lti (lo := 0) (hi := 2) (gc_rd (c := 5) (lo := 0) (hi := 2) hT (rfl : gc_cat 22 = 5) (by decide)) (fun x_2 ex_2 ix_2 => ?_)
    refine gc_if (fun c_1075 => ?_) (fun c_1075 => ?_)
    · exact gc_some ⟨rfl, (Or.inl rfl)⟩
    · have j_1076 : gb_iv 0 1 p1 := (gb_rU (lo := 0) (hi := 1) (gb_dnle c_1075) j_1074 ix_2 (by decide))
      have j_1077 : gb_iv 1 2 x_2 := (gb_rL (lo := 1) (hi := 2) (gb_dnle c_1075) ix_2 j_1076 (by decide))
      refine gc_ck j_1076 (by decide) ?_
      refine gc_lt (fun a_5 ea_5 => ?_)
      have k_1078 : gb_kN a_5 = true := by rw [ea_5]; exact gc_gN j_1076
      refine gc_kk k_1078 ?_
      exact gc_some ⟨rfl, (Or.inr k_1078)⟩
set_option maxHeartbeats 4000000 in
theorem ct_Lines_size_N {n : Nat} (hn : gb_N ≤ n) {σ : gb_S} {k0 : Nat} (hT : gb_TC σ) (hk0 : gb_kN k0 = true) : gb_tc (cs_Lines_size_N n σ k0) (fun s r => s = σ ∧ gb_iv 0 24 r) := by
  unfold cs_Lines_size_N
  refine gc_kk hk0 ?_
  refine gc_lti (lo := 0) (hi := 24) (gc_rd (c := 2) (lo := 0) (hi := 24) hT (gc_catN hk0) (by decide)) (fun x_2 ex_2 ix_2 => ?_)
  exact gc_some ⟨rfl, ix_2⟩
set_option maxHeartbeats 4000000 in
theorem ct_Lines_cell_N {n : Nat} (hn : gb_N ≤ n) {σ : gb_S} {k0 : Nat} {p1 : Int32} {p2 : Int32} (hT : gb_TC σ) (hk0 : gb_kN k0 = true) (ip1 : gb_iv 0 23 p1) (ip2 : gb_iv 0 3 p2) : gb_tc (cs_Lines_cell_N n σ k0 p1 p2) (fun s r => s = σ ∧ gb_iv (-2147483648) 2147483647 r) := by
  unfold cs_Lines_cell_N
  refine gc_kk hk0 ?_
  refine gc_ck (gb_iadd (lo := 1) (hi := 96) (gb_iadd (lo := 1) (hi := 93) (gb_ic (a := 1) (by decide)) (gb_imul (lo := 0) (hi := 92) ip1 (gb_iadd (lo := 4) (hi := 4) (gb_ic (a := 3) (by decide)) (gb_ic (a := 1) (by decide)) (by decide)) (by decide)) (by decide)) ip2 (by decide)) (by decide) ?_
  refine gc_lti (lo := (-2147483648)) (hi := 2147483647) (gb_it _) (fun x_3 ex_3 ix_3 => ?_)
  exact gc_some ⟨rfl, (gb_it _)⟩
set_option maxHeartbeats 4000000 in
theorem ct_Face_lineOf_N {n : Nat} (hn : gb_N ≤ n) {σ : gb_S} {p1 : Nat} {p2 : Int32} {p3 : Int32} (hT : gb_TC σ) (hp1 : gb_kN p1 = true) : gb_tc (cs_Face_lineOf_N n σ p1 p2 p3) (fun s r => s = σ ∧ gb_iv (-2147483648) 2147483647 r) := by
  unfold cs_Face_lineOf_N
  refine gc_kk hp1 ?_
  refine gc_if (fun c_1100 => ?_) (fun c_1100 => ?_)
  · have j_1101 : gb_iv (-2147483648) (-1) p2 := (gb_rU (lo := (-2147483648)) (hi := (-1)) (gb_deq c_1100) (gb_it _) (gb_ic (a := (-1)) (by decide)) (by decide))
    have j_1102 : gb_iv (-1) (-1) p2 := (gb_rL (lo := (-1)) (hi := (-1)) (gb_deq2 c_1100) j_1101 (gb_ic (a := (-1)) (by decide)) (by decide))
    refine gc_if (fun c_1103 => ?_) (fun c_1103 => ?_)
    · have j_1104 : gb_iv (-2147483648) 0 p3 := (gb_rU (lo := (-2147483648)) (hi := 0) (gb_deq c_1103) (gb_it _) (gb_ic (a := 0) (by decide)) (by decide))
      have j_1105 : gb_iv 0 0 p3 := (gb_rL (lo := 0) (hi := 0) (gb_deq2 c_1103) j_1104 (gb_ic (a := 0) (by decide)) (by decide))
      refine gc_cdP (ct_Lines_size_N hn hT hp1) (fun r_17 qr_17 h_1106 => ?_)
      exact gc_some ⟨rfl, (gb_iw (lo := (-2147483648)) (hi := 2147483647) h_1106 (by decide))⟩
    · exact gc_some ⟨rfl, (gb_iw (lo := (-2147483648)) (hi := 2147483647) (gb_ic (a := (-2)) (by decide)) (by decide))⟩
  · refine gc_if (fun c_1107 => ?_) (fun c_1107 => ?_)
    · have j_1108 : gb_iv (-2147483648) (-1) p2 := (gb_rU (lo := (-2147483648)) (hi := (-1)) (gb_dlt c_1107) (gb_it _) (gb_ic (a := 0) (by decide)) (by decide))
      exact gc_some ⟨rfl, (gb_iw (lo := (-2147483648)) (hi := 2147483647) (gb_ic (a := (-2)) (by decide)) (by decide))⟩
    · have j_1109 : gb_iv 0 2147483647 p2 := (gb_rL (lo := 0) (hi := 2147483647) (gb_dnlt c_1107) (gb_it _) (gb_ic (a := 0) (by decide)) (by decide))
      refine gc_cdP (ct_Lines_size_N hn hT hp1) (fun r_5 qr_5 h_1110 => ?_)
      refine gc_if (fun c_1111 => ?_) (fun c_1111 => ?_)
      · exact gc_some ⟨rfl, (gb_iw (lo := (-2147483648)) (hi := 2147483647) (gb_ic (a := (-2)) (by decide)) (by decide))⟩
      · have j_1112 : gb_iv 0 23 p2 := (gb_rU (lo := 0) (hi := 23) (gb_dnle c_1111) j_1109 h_1110 (by decide))
        have j_1113 : gb_iv 1 24 r_5 := (gb_rL (lo := 1) (hi := 24) (gb_dnle c_1111) h_1110 j_1112 (by decide))
        refine gc_if (fun c_1114 => ?_) (fun c_1114 => ?_)
        · have j_1115 : gb_iv (-2147483648) (-1) p3 := (gb_rU (lo := (-2147483648)) (hi := (-1)) (gb_dlt c_1114) (gb_it _) (gb_ic (a := 0) (by decide)) (by decide))
          exact gc_some ⟨rfl, (gb_iw (lo := (-2147483648)) (hi := 2147483647) (gb_ic (a := (-2)) (by decide)) (by decide))⟩
        · have j_1116 : gb_iv 0 2147483647 p3 := (gb_rL (lo := 0) (hi := 2147483647) (gb_dnlt c_1114) (gb_it _) (gb_ic (a := 0) (by decide)) (by decide))
          refine gc_if (fun c_1117 => ?_) (fun c_1117 => ?_)
          · have j_1118 : gb_iv 0 3 p3 := (gb_rU (lo := 0) (hi := 3) (gb_dle c_1117) j_1116 (gb_ic (a := 3) (by decide)) (by decide))
            refine gc_cdP (ct_Lines_cell_N hn hT hp1 j_1112 j_1118) (fun r_12 qr_12 h_1119 => ?_)
            exact gc_some ⟨rfl, (gb_it _)⟩
          · have j_1120 : gb_iv 4 2147483647 p3 := (gb_rL (lo := 4) (hi := 2147483647) (gb_dnle c_1117) j_1116 (gb_ic (a := 3) (by decide)) (by decide))
            exact gc_some ⟨rfl, (gb_iw (lo := (-2147483648)) (hi := 2147483647) (gb_ic (a := (-2)) (by decide)) (by decide))⟩
set_option maxHeartbeats 4000000 in
theorem ct_Face_deed {n : Nat} (hn : gb_N ≤ n) {σ : gb_S} {p1 : Int32} {p2 : Int32} {p3 : Int32} (hT : gb_TC σ) : gb_tc (cs_Face_deed n σ p1 p2 p3) (fun s r => s = σ ∧ gb_iv (-2147483648) 2147483647 r) := by
  unfold cs_Face_deed
  refine gc_cdP (ct_Face_nightAt hn hT) (fun r_2 qr_2 h_1124 => ?_)
  refine gc_if (fun c_1125 => ?_) (fun c_1125 => ?_)
  · exact gc_some ⟨rfl, (gb_iw (lo := (-2147483648)) (hi := 2147483647) (gb_ic (a := (-2)) (by decide)) (by decide))⟩
  · refine gc_kk (Or.resolve_left h_1124 c_1125) ?_
    refine gc_cdP (ct_Face_lineOf_N hn hT (Or.resolve_left h_1124 c_1125)) (fun r_8 qr_8 h_1126 => ?_)
    exact gc_some ⟨rfl, (gb_it _)⟩
set_option maxHeartbeats 4000000 in
theorem ct_Face_lawAt {n : Nat} (hn : gb_N ≤ n) {σ : gb_S} {p1 : Int32} (hT : gb_TC σ) : gb_tc (cs_Face_lawAt n σ p1) (fun s r => s = σ ∧ (r = 0 ∨ gb_kL r = true)) := by
  unfold cs_Face_lawAt
  refine gc_if (fun c_1134 => ?_) (fun c_1134 => ?_)
  · have j_1135 : gb_iv (-2147483648) (-1) p1 := (gb_rU (lo := (-2147483648)) (hi := (-1)) (gb_dlt c_1134) (gb_it _) (gb_ic (a := 0) (by decide)) (by decide))
    exact gc_some ⟨rfl, (Or.inl rfl)⟩
  · have j_1136 : gb_iv 0 2147483647 p1 := (gb_rL (lo := 0) (hi := 2147483647) (gb_dnlt c_1134) (gb_it _) (gb_ic (a := 0) (by decide)) (by decide))
    refine gc_lti (lo := 0) (hi := 2) (gc_rd (c := 5) (lo := 0) (hi := 2) hT (rfl : gc_cat 22 = 5) (by decide)) (fun x_2 ex_2 ix_2 => ?_)
    refine gc_if (fun c_1137 => ?_) (fun c_1137 => ?_)
    · exact gc_some ⟨rfl, (Or.inl rfl)⟩
    · have j_1138 : gb_iv 0 1 p1 := (gb_rU (lo := 0) (hi := 1) (gb_dnle c_1137) j_1136 ix_2 (by decide))
      have j_1139 : gb_iv 1 2 x_2 := (gb_rL (lo := 1) (hi := 2) (gb_dnle c_1137) ix_2 j_1138 (by decide))
      refine gc_ck j_1138 (by decide) ?_
      refine gc_lt (fun a_5 ea_5 => ?_)
      have k_1140 : gb_kL a_5 = true := by rw [ea_5]; exact gc_gL j_1138
      refine gc_kk k_1140 ?_
      exact gc_some ⟨rfl, (Or.inr k_1140)⟩
set_option maxHeartbeats 4000000 in
theorem ct_Lines_size_L {n : Nat} (hn : gb_N ≤ n) {σ : gb_S} {k0 : Nat} (hT : gb_TC σ) (hk0 : gb_kL k0 = true) : gb_tc (cs_Lines_size_L n σ k0) (fun s r => s = σ ∧ gb_iv 0 8 r) := by
  unfold cs_Lines_size_L
  refine gc_kk hk0 ?_
  refine gc_lti (lo := 0) (hi := 8) (gc_rd (c := 3) (lo := 0) (hi := 8) hT (gc_catL hk0) (by decide)) (fun x_2 ex_2 ix_2 => ?_)
  exact gc_some ⟨rfl, ix_2⟩
set_option maxHeartbeats 4000000 in
theorem ct_Lines_cell_L {n : Nat} (hn : gb_N ≤ n) {σ : gb_S} {k0 : Nat} {p1 : Int32} {p2 : Int32} (hT : gb_TC σ) (hk0 : gb_kL k0 = true) (ip1 : gb_iv 0 7 p1) (ip2 : gb_iv 0 2 p2) : gb_tc (cs_Lines_cell_L n σ k0 p1 p2) (fun s r => s = σ ∧ gb_iv (-2147483648) 2147483647 r) := by
  unfold cs_Lines_cell_L
  refine gc_kk hk0 ?_
  refine gc_ck (gb_iadd (lo := 1) (hi := 24) (gb_iadd (lo := 1) (hi := 22) (gb_ic (a := 1) (by decide)) (gb_imul (lo := 0) (hi := 21) ip1 (gb_iadd (lo := 3) (hi := 3) (gb_ic (a := 2) (by decide)) (gb_ic (a := 1) (by decide)) (by decide)) (by decide)) (by decide)) ip2 (by decide)) (by decide) ?_
  refine gc_lti (lo := (-2147483648)) (hi := 2147483647) (gb_it _) (fun x_3 ex_3 ix_3 => ?_)
  exact gc_some ⟨rfl, (gb_it _)⟩
set_option maxHeartbeats 4000000 in
theorem ct_Face_lineOf_L {n : Nat} (hn : gb_N ≤ n) {σ : gb_S} {p1 : Nat} {p2 : Int32} {p3 : Int32} (hT : gb_TC σ) (hp1 : gb_kL p1 = true) : gb_tc (cs_Face_lineOf_L n σ p1 p2 p3) (fun s r => s = σ ∧ gb_iv (-2147483648) 2147483647 r) := by
  unfold cs_Face_lineOf_L
  refine gc_kk hp1 ?_
  refine gc_if (fun c_1162 => ?_) (fun c_1162 => ?_)
  · have j_1163 : gb_iv (-2147483648) (-1) p2 := (gb_rU (lo := (-2147483648)) (hi := (-1)) (gb_deq c_1162) (gb_it _) (gb_ic (a := (-1)) (by decide)) (by decide))
    have j_1164 : gb_iv (-1) (-1) p2 := (gb_rL (lo := (-1)) (hi := (-1)) (gb_deq2 c_1162) j_1163 (gb_ic (a := (-1)) (by decide)) (by decide))
    refine gc_if (fun c_1165 => ?_) (fun c_1165 => ?_)
    · have j_1166 : gb_iv (-2147483648) 0 p3 := (gb_rU (lo := (-2147483648)) (hi := 0) (gb_deq c_1165) (gb_it _) (gb_ic (a := 0) (by decide)) (by decide))
      have j_1167 : gb_iv 0 0 p3 := (gb_rL (lo := 0) (hi := 0) (gb_deq2 c_1165) j_1166 (gb_ic (a := 0) (by decide)) (by decide))
      refine gc_cdP (ct_Lines_size_L hn hT hp1) (fun r_17 qr_17 h_1168 => ?_)
      exact gc_some ⟨rfl, (gb_iw (lo := (-2147483648)) (hi := 2147483647) h_1168 (by decide))⟩
    · exact gc_some ⟨rfl, (gb_iw (lo := (-2147483648)) (hi := 2147483647) (gb_ic (a := (-2)) (by decide)) (by decide))⟩
  · refine gc_if (fun c_1169 => ?_) (fun c_1169 => ?_)
    · have j_1170 : gb_iv (-2147483648) (-1) p2 := (gb_rU (lo := (-2147483648)) (hi := (-1)) (gb_dlt c_1169) (gb_it _) (gb_ic (a := 0) (by decide)) (by decide))
      exact gc_some ⟨rfl, (gb_iw (lo := (-2147483648)) (hi := 2147483647) (gb_ic (a := (-2)) (by decide)) (by decide))⟩
    · have j_1171 : gb_iv 0 2147483647 p2 := (gb_rL (lo := 0) (hi := 2147483647) (gb_dnlt c_1169) (gb_it _) (gb_ic (a := 0) (by decide)) (by decide))
      refine gc_cdP (ct_Lines_size_L hn hT hp1) (fun r_5 qr_5 h_1172 => ?_)
      refine gc_if (fun c_1173 => ?_) (fun c_1173 => ?_)
      · exact gc_some ⟨rfl, (gb_iw (lo := (-2147483648)) (hi := 2147483647) (gb_ic (a := (-2)) (by decide)) (by decide))⟩
      · have j_1174 : gb_iv 0 7 p2 := (gb_rU (lo := 0) (hi := 7) (gb_dnle c_1173) j_1171 h_1172 (by decide))
        have j_1175 : gb_iv 1 8 r_5 := (gb_rL (lo := 1) (hi := 8) (gb_dnle c_1173) h_1172 j_1174 (by decide))
        refine gc_if (fun c_1176 => ?_) (fun c_1176 => ?_)
        · have j_1177 : gb_iv (-2147483648) (-1) p3 := (gb_rU (lo := (-2147483648)) (hi := (-1)) (gb_dlt c_1176) (gb_it _) (gb_ic (a := 0) (by decide)) (by decide))
          exact gc_some ⟨rfl, (gb_iw (lo := (-2147483648)) (hi := 2147483647) (gb_ic (a := (-2)) (by decide)) (by decide))⟩
        · have j_1178 : gb_iv 0 2147483647 p3 := (gb_rL (lo := 0) (hi := 2147483647) (gb_dnlt c_1176) (gb_it _) (gb_ic (a := 0) (by decide)) (by decide))
          refine gc_if (fun c_1179 => ?_) (fun c_1179 => ?_)
          · have j_1180 : gb_iv 0 2 p3 := (gb_rU (lo := 0) (hi := 2) (gb_dle c_1179) j_1178 (gb_ic (a := 2) (by decide)) (by decide))
            refine gc_cdP (ct_Lines_cell_L hn hT hp1 j_1174 j_1180) (fun r_12 qr_12 h_1181 => ?_)
            exact gc_some ⟨rfl, (gb_it _)⟩
          · have j_1182 : gb_iv 3 2147483647 p3 := (gb_rL (lo := 3) (hi := 2147483647) (gb_dnle c_1179) j_1178 (gb_ic (a := 2) (by decide)) (by decide))
            exact gc_some ⟨rfl, (gb_iw (lo := (-2147483648)) (hi := 2147483647) (gb_ic (a := (-2)) (by decide)) (by decide))⟩
set_option maxHeartbeats 4000000 in
theorem ct_Face_term {n : Nat} (hn : gb_N ≤ n) {σ : gb_S} {p1 : Int32} {p2 : Int32} {p3 : Int32} (hT : gb_TC σ) : gb_tc (cs_Face_term n σ p1 p2 p3) (fun s r => s = σ ∧ gb_iv (-2147483648) 2147483647 r) := by
  unfold cs_Face_term
  refine gc_cdP (ct_Face_lawAt hn hT) (fun r_2 qr_2 h_1186 => ?_)
  refine gc_if (fun c_1187 => ?_) (fun c_1187 => ?_)
  · exact gc_some ⟨rfl, (gb_iw (lo := (-2147483648)) (hi := 2147483647) (gb_ic (a := (-2)) (by decide)) (by decide))⟩
  · refine gc_kk (Or.resolve_left h_1186 c_1187) ?_
    refine gc_cdP (ct_Face_lineOf_L hn hT (Or.resolve_left h_1186 c_1187)) (fun r_8 qr_8 h_1188 => ?_)
    exact gc_some ⟨rfl, (gb_it _)⟩
set_option maxHeartbeats 4000000 in
theorem ct_Face_dawnAt {n : Nat} (hn : gb_N ≤ n) {σ : gb_S} {p1 : Int32} (hT : gb_TC σ) : gb_tc (cs_Face_dawnAt n σ p1) (fun s r => s = σ ∧ (r = 0 ∨ gb_kD r = true)) := by
  unfold cs_Face_dawnAt
  refine gc_if (fun c_1196 => ?_) (fun c_1196 => ?_)
  · have j_1197 : gb_iv (-2147483648) (-1) p1 := (gb_rU (lo := (-2147483648)) (hi := (-1)) (gb_dlt c_1196) (gb_it _) (gb_ic (a := 0) (by decide)) (by decide))
    exact gc_some ⟨rfl, (Or.inl rfl)⟩
  · have j_1198 : gb_iv 0 2147483647 p1 := (gb_rL (lo := 0) (hi := 2147483647) (gb_dnlt c_1196) (gb_it _) (gb_ic (a := 0) (by decide)) (by decide))
    refine gc_lti (lo := 0) (hi := 2) (gc_rd (c := 5) (lo := 0) (hi := 2) hT (rfl : gc_cat 22 = 5) (by decide)) (fun x_2 ex_2 ix_2 => ?_)
    refine gc_if (fun c_1199 => ?_) (fun c_1199 => ?_)
    · exact gc_some ⟨rfl, (Or.inl rfl)⟩
    · have j_1200 : gb_iv 0 1 p1 := (gb_rU (lo := 0) (hi := 1) (gb_dnle c_1199) j_1198 ix_2 (by decide))
      have j_1201 : gb_iv 1 2 x_2 := (gb_rL (lo := 1) (hi := 2) (gb_dnle c_1199) ix_2 j_1200 (by decide))
      refine gc_ck j_1200 (by decide) ?_
      refine gc_lt (fun a_5 ea_5 => ?_)
      have k_1202 : gb_kD a_5 = true := by rw [ea_5]; exact gc_gD j_1200
      refine gc_kk k_1202 ?_
      exact gc_some ⟨rfl, (Or.inr k_1202)⟩
set_option maxHeartbeats 4000000 in
theorem ct_Face_lineOf_D {n : Nat} (hn : gb_N ≤ n) {σ : gb_S} {p1 : Nat} {p2 : Int32} {p3 : Int32} (hT : gb_TC σ) (hp1 : gb_kD p1 = true) : gb_tc (cs_Face_lineOf_D n σ p1 p2 p3) (fun s r => s = σ ∧ gb_iv (-2147483648) 2147483647 r) := by
  unfold cs_Face_lineOf_D
  refine gc_kk hp1 ?_
  refine gc_if (fun c_1224 => ?_) (fun c_1224 => ?_)
  · have j_1225 : gb_iv (-2147483648) (-1) p2 := (gb_rU (lo := (-2147483648)) (hi := (-1)) (gb_deq c_1224) (gb_it _) (gb_ic (a := (-1)) (by decide)) (by decide))
    have j_1226 : gb_iv (-1) (-1) p2 := (gb_rL (lo := (-1)) (hi := (-1)) (gb_deq2 c_1224) j_1225 (gb_ic (a := (-1)) (by decide)) (by decide))
    refine gc_if (fun c_1227 => ?_) (fun c_1227 => ?_)
    · have j_1228 : gb_iv (-2147483648) 0 p3 := (gb_rU (lo := (-2147483648)) (hi := 0) (gb_deq c_1227) (gb_it _) (gb_ic (a := 0) (by decide)) (by decide))
      have j_1229 : gb_iv 0 0 p3 := (gb_rL (lo := 0) (hi := 0) (gb_deq2 c_1227) j_1228 (gb_ic (a := 0) (by decide)) (by decide))
      refine gc_cdP (ct_Lines_size_D hn hT hp1) (fun r_17 qr_17 h_1230 => ?_)
      exact gc_some ⟨rfl, (gb_iw (lo := (-2147483648)) (hi := 2147483647) h_1230 (by decide))⟩
    · exact gc_some ⟨rfl, (gb_iw (lo := (-2147483648)) (hi := 2147483647) (gb_ic (a := (-2)) (by decide)) (by decide))⟩
  · refine gc_if (fun c_1231 => ?_) (fun c_1231 => ?_)
    · have j_1232 : gb_iv (-2147483648) (-1) p2 := (gb_rU (lo := (-2147483648)) (hi := (-1)) (gb_dlt c_1231) (gb_it _) (gb_ic (a := 0) (by decide)) (by decide))
      exact gc_some ⟨rfl, (gb_iw (lo := (-2147483648)) (hi := 2147483647) (gb_ic (a := (-2)) (by decide)) (by decide))⟩
    · have j_1233 : gb_iv 0 2147483647 p2 := (gb_rL (lo := 0) (hi := 2147483647) (gb_dnlt c_1231) (gb_it _) (gb_ic (a := 0) (by decide)) (by decide))
      refine gc_cdP (ct_Lines_size_D hn hT hp1) (fun r_5 qr_5 h_1234 => ?_)
      refine gc_if (fun c_1235 => ?_) (fun c_1235 => ?_)
      · exact gc_some ⟨rfl, (gb_iw (lo := (-2147483648)) (hi := 2147483647) (gb_ic (a := (-2)) (by decide)) (by decide))⟩
      · have j_1236 : gb_iv 0 4 p2 := (gb_rU (lo := 0) (hi := 4) (gb_dnle c_1235) j_1233 h_1234 (by decide))
        have j_1237 : gb_iv 1 5 r_5 := (gb_rL (lo := 1) (hi := 5) (gb_dnle c_1235) h_1234 j_1236 (by decide))
        refine gc_if (fun c_1238 => ?_) (fun c_1238 => ?_)
        · have j_1239 : gb_iv (-2147483648) (-1) p3 := (gb_rU (lo := (-2147483648)) (hi := (-1)) (gb_dlt c_1238) (gb_it _) (gb_ic (a := 0) (by decide)) (by decide))
          exact gc_some ⟨rfl, (gb_iw (lo := (-2147483648)) (hi := 2147483647) (gb_ic (a := (-2)) (by decide)) (by decide))⟩
        · have j_1240 : gb_iv 0 2147483647 p3 := (gb_rL (lo := 0) (hi := 2147483647) (gb_dnlt c_1238) (gb_it _) (gb_ic (a := 0) (by decide)) (by decide))
          refine gc_if (fun c_1241 => ?_) (fun c_1241 => ?_)
          · have j_1242 : gb_iv 0 2 p3 := (gb_rU (lo := 0) (hi := 2) (gb_dle c_1241) j_1240 (gb_ic (a := 2) (by decide)) (by decide))
            refine gc_cdP (ct_Lines_cell_D hn hT hp1 j_1236 j_1242) (fun r_12 qr_12 h_1243 => ?_)
            exact gc_some ⟨rfl, (gb_it _)⟩
          · have j_1244 : gb_iv 3 2147483647 p3 := (gb_rL (lo := 3) (hi := 2147483647) (gb_dnle c_1241) j_1240 (gb_ic (a := 2) (by decide)) (by decide))
            exact gc_some ⟨rfl, (gb_iw (lo := (-2147483648)) (hi := 2147483647) (gb_ic (a := (-2)) (by decide)) (by decide))⟩
set_option maxHeartbeats 4000000 in
theorem ct_Face_seen {n : Nat} (hn : gb_N ≤ n) {σ : gb_S} {p1 : Int32} {p2 : Int32} {p3 : Int32} (hT : gb_TC σ) : gb_tc (cs_Face_seen n σ p1 p2 p3) (fun s r => s = σ ∧ gb_iv (-2147483648) 2147483647 r) := by
  unfold cs_Face_seen
  refine gc_cdP (ct_Face_dawnAt hn hT) (fun r_2 qr_2 h_1258 => ?_)
  refine gc_if (fun c_1259 => ?_) (fun c_1259 => ?_)
  · exact gc_some ⟨rfl, (gb_iw (lo := (-2147483648)) (hi := 2147483647) (gb_ic (a := (-2)) (by decide)) (by decide))⟩
  · refine gc_kk (Or.resolve_left h_1258 c_1259) ?_
    refine gc_if (fun c_1260 => ?_) (fun c_1260 => ?_)
    · have j_1261 : gb_iv (-2147483648) (-1) p3 := (gb_rU (lo := (-2147483648)) (hi := (-1)) (gb_dlt c_1260) (gb_it _) (gb_ic (a := 0) (by decide)) (by decide))
      exact gc_some ⟨rfl, (gb_iw (lo := (-2147483648)) (hi := 2147483647) (gb_ic (a := (-2)) (by decide)) (by decide))⟩
    · have j_1262 : gb_iv 0 2147483647 p3 := (gb_rL (lo := 0) (hi := 2147483647) (gb_dnlt c_1260) (gb_it _) (gb_ic (a := 0) (by decide)) (by decide))
      refine gc_if (fun c_1263 => ?_) (fun c_1263 => ?_)
      · have j_1264 : gb_iv 0 1 p3 := (gb_rU (lo := 0) (hi := 1) (gb_dle c_1263) j_1262 (gb_ic (a := 1) (by decide)) (by decide))
        refine gc_if (fun c_1265 => ?_) (fun c_1265 => ?_)
        · have j_1266 : gb_iv (-2147483648) (-1) p2 := (gb_rU (lo := (-2147483648)) (hi := (-1)) (gb_deq c_1265) (gb_it _) (gb_ic (a := (-1)) (by decide)) (by decide))
          have j_1267 : gb_iv (-1) (-1) p2 := (gb_rL (lo := (-1)) (hi := (-1)) (gb_deq2 c_1265) j_1266 (gb_ic (a := (-1)) (by decide)) (by decide))
          refine gc_cdP (ct_Face_lineOf_D hn hT (Or.resolve_left h_1258 c_1259)) (fun r_15 qr_15 h_1268 => ?_)
          exact gc_some ⟨rfl, (gb_it _)⟩
        · refine gc_cdP (ct_Face_lineOf_D hn hT (Or.resolve_left h_1258 c_1259)) (fun r_11 qr_11 h_1269 => ?_)
          exact gc_some ⟨rfl, (gb_it _)⟩
      · have j_1270 : gb_iv 2 2147483647 p3 := (gb_rL (lo := 2) (hi := 2147483647) (gb_dnle c_1263) j_1262 (gb_ic (a := 1) (by decide)) (by decide))
        exact gc_some ⟨rfl, (gb_iw (lo := (-2147483648)) (hi := 2147483647) (gb_ic (a := (-2)) (by decide)) (by decide))⟩
set_option maxHeartbeats 4000000 in
theorem ct_Lines_kind_L {n : Nat} (hn : gb_N ≤ n) {σ : gb_S} {k0 : Nat} {p1 : Int32} (hT : gb_TC σ) (hk0 : gb_kL k0 = true) (ip1 : gb_iv 0 7 p1) : gb_tc (cs_Lines_kind_L n σ k0 p1) (fun s r => s = σ ∧ gb_iv (-2147483648) 2147483647 r) := by
  unfold cs_Lines_kind_L
  refine gc_kk hk0 ?_
  refine gc_cdP (ct_Lines_cell_L hn hT hk0 ip1 (gb_iw (lo := 0) (hi := 2) (gb_ic (a := 0) (by decide)) (by decide))) (fun r_3 qr_3 h_1272 => ?_)
  exact gc_some ⟨rfl, (gb_it _)⟩
set_option maxHeartbeats 4000000 in
theorem ct_Law_payFor_L_4 {n : Nat} (hn : gb_N ≤ n) {Q : gb_S → Int32 → Prop} {σ : gb_S} (hT : gb_TC σ) (hret : ∀ (r : Int32), gb_iv (-2147483648) 2147483647 r → Q σ r) : ∀ (mm : Nat) (v0 : Nat) (v1 : Int32) (v2 : Int32) (v3 : Int32), gb_kL v0 = true → gb_iv (-2147483648) 2147483647 v1 → gb_iv (-2147483648) 2147483647 v2 → gb_iv 0 8 v3 → (8 - v3.toInt).toNat < mm → gb_tc (cs_Law_payFor_L_4 n mm σ v0 v1 v2 v3) Q := by
  intro mm
  induction mm with
  | zero =>
    intro v0 v1 v2 v3 hv0 iv1 iv2 iv3 hm
    exact absurd hm (Nat.not_lt_zero _)
  | succ mm ih =>
    intro v0 v1 v2 v3 hv0 iv1 iv2 iv3 hm
    rw [cs_Law_payFor_L_4]
    refine gc_kk hv0 ?_
    refine gc_cdP (ct_Lines_size_L hn hT hv0) (fun r_4 qr_4 h_2203 => ?_)
    refine gc_if (fun c_2204 => ?_) (fun c_2204 => ?_)
    · exact gc_some (hret _ (gb_it _))
    · have j_2205 : gb_iv 0 7 v3 := (gb_rU (lo := 0) (hi := 7) (gb_dnle c_2204) iv3 h_2203 (by decide))
      have j_2206 : gb_iv 1 8 r_4 := (gb_rL (lo := 1) (hi := 8) (gb_dnle c_2204) h_2203 j_2205 (by decide))
      refine gc_cdP (ct_Lines_cell_L hn hT hv0 j_2205 (gb_iw (lo := 0) (hi := 2) (gb_ic (a := 1) (by decide)) (by decide))) (fun r_9 qr_9 h_2207 => ?_)
      refine gc_cdP (ct_Lines_cell_L hn hT hv0 j_2205 (gb_iw (lo := 0) (hi := 2) (gb_ic (a := 2) (by decide)) (by decide))) (fun r_13 qr_13 h_2208 => ?_)
      refine gc_cdP (ct_Lines_kind_L hn hT hv0 j_2205) (fun r_17 qr_17 h_2209 => ?_)
      refine gc_if (fun c_2210 => ?_) (fun c_2210 => ?_)
      · have j_2211 : gb_iv (-2147483648) 0 r_17 := (gb_rU (lo := (-2147483648)) (hi := 0) (gb_deq c_2210) (gb_it _) (gb_ic (a := 0) (by decide)) (by decide))
        have j_2212 : gb_iv 0 0 r_17 := (gb_rL (lo := 0) (hi := 0) (gb_deq2 c_2210) j_2211 (gb_ic (a := 0) (by decide)) (by decide))
        refine gc_lti (lo := (-2147483648)) (hi := 2147483647) (gb_it _) (fun x_21 ex_21 ix_21 => ?_)
        refine gc_lti (lo := 1) (hi := 8) (gb_iadd (lo := 1) (hi := 8) j_2205 (gb_ic (a := 1) (by decide)) (by decide)) (fun x_22 ex_22 ix_22 => ?_)
        exact ih _ _ _ _ hv0 (gb_it _) (gb_it _) (gb_iw (lo := 0) (hi := 8) ix_22 (by decide)) (gb_mup ex_22 j_2205 (by decide) hm)
      · refine gc_if (fun c_2213 => ?_) (fun c_2213 => ?_)
        · have j_2214 : gb_iv (-2147483648) 1 r_17 := (gb_rU (lo := (-2147483648)) (hi := 1) (gb_deq c_2213) (gb_it _) (gb_ic (a := 1) (by decide)) (by decide))
          have j_2215 : gb_iv 1 1 r_17 := (gb_rL (lo := 1) (hi := 1) (gb_deq2 c_2213) j_2214 (gb_ic (a := 1) (by decide)) (by decide))
          refine gc_if (fun c_2216 => ?_) (fun c_2216 => ?_)
          · refine gc_lti (lo := (-2147483648)) (hi := 2147483647) (gb_iadd (lo := (-2147483648)) (hi := 2147483647) (gb_it _) (gb_ic (a := 0) (by decide)) (by decide)) (fun x_25 ex_25 ix_25 => ?_)
            refine gc_lti (lo := 1) (hi := 8) (gb_iadd (lo := 1) (hi := 8) j_2205 (gb_ic (a := 1) (by decide)) (by decide)) (fun x_26 ex_26 ix_26 => ?_)
            exact ih _ _ _ _ hv0 (gb_it _) (gb_it _) (gb_iw (lo := 0) (hi := 8) ix_26 (by decide)) (gb_mup ex_26 j_2205 (by decide) hm)
          · have j_2217 : gb_iv (-2147483648) 2147483646 r_9 := (gb_rU (lo := (-2147483648)) (hi := 2147483646) (gb_dnle c_2216) (gb_it _) (gb_it _) (by decide))
            have j_2218 : gb_iv (-2147483647) 2147483647 v1 := (gb_rL (lo := (-2147483647)) (hi := 2147483647) (gb_dnle c_2216) (gb_it _) j_2217 (by decide))
            refine gc_lti (lo := (-2147483648)) (hi := 2147483647) (gb_it _) (fun x_27 ex_27 ix_27 => ?_)
            refine gc_lti (lo := 1) (hi := 8) (gb_iadd (lo := 1) (hi := 8) j_2205 (gb_ic (a := 1) (by decide)) (by decide)) (fun x_28 ex_28 ix_28 => ?_)
            exact ih _ _ _ _ hv0 (gb_iw (lo := (-2147483648)) (hi := 2147483647) j_2218 (by decide)) (gb_it _) (gb_iw (lo := 0) (hi := 8) ix_28 (by decide)) (gb_mup ex_28 j_2205 (by decide) hm)
        · refine gc_if (fun c_2219 => ?_) (fun c_2219 => ?_)
          · have j_2220 : gb_iv (-2147483648) 2 r_17 := (gb_rU (lo := (-2147483648)) (hi := 2) (gb_deq c_2219) (gb_it _) (gb_ic (a := 2) (by decide)) (by decide))
            have j_2221 : gb_iv 2 2 r_17 := (gb_rL (lo := 2) (hi := 2) (gb_deq2 c_2219) j_2220 (gb_ic (a := 2) (by decide)) (by decide))
            refine gc_if (fun c_2222 => ?_) (fun c_2222 => ?_)
            · refine gc_lti (lo := (-2147483648)) (hi := 2147483647) (gb_iadd (lo := (-2147483648)) (hi := 2147483647) (gb_it _) (gb_ic (a := 0) (by decide)) (by decide)) (fun x_31 ex_31 ix_31 => ?_)
              refine gc_lti (lo := 1) (hi := 8) (gb_iadd (lo := 1) (hi := 8) j_2205 (gb_ic (a := 1) (by decide)) (by decide)) (fun x_32 ex_32 ix_32 => ?_)
              exact ih _ _ _ _ hv0 (gb_it _) (gb_it _) (gb_iw (lo := 0) (hi := 8) ix_32 (by decide)) (gb_mup ex_32 j_2205 (by decide) hm)
            · have j_2223 : gb_iv (-2147483648) 2147483646 v1 := (gb_rU (lo := (-2147483648)) (hi := 2147483646) (gb_dnle c_2222) (gb_it _) (gb_it _) (by decide))
              have j_2224 : gb_iv (-2147483647) 2147483647 r_9 := (gb_rL (lo := (-2147483647)) (hi := 2147483647) (gb_dnle c_2222) (gb_it _) j_2223 (by decide))
              refine gc_lti (lo := (-2147483648)) (hi := 2147483647) (gb_it _) (fun x_33 ex_33 ix_33 => ?_)
              refine gc_lti (lo := 1) (hi := 8) (gb_iadd (lo := 1) (hi := 8) j_2205 (gb_ic (a := 1) (by decide)) (by decide)) (fun x_34 ex_34 ix_34 => ?_)
              exact ih _ _ _ _ hv0 (gb_iw (lo := (-2147483648)) (hi := 2147483647) j_2223 (by decide)) (gb_it _) (gb_iw (lo := 0) (hi := 8) ix_34 (by decide)) (gb_mup ex_34 j_2205 (by decide) hm)
          · refine gc_if (fun c_2225 => ?_) (fun c_2225 => ?_)
            · have j_2226 : gb_iv (-2147483648) 3 r_17 := (gb_rU (lo := (-2147483648)) (hi := 3) (gb_deq c_2225) (gb_it _) (gb_ic (a := 3) (by decide)) (by decide))
              have j_2227 : gb_iv 3 3 r_17 := (gb_rL (lo := 3) (hi := 3) (gb_deq2 c_2225) j_2226 (gb_ic (a := 3) (by decide)) (by decide))
              refine gc_lti (lo := (-2147483648)) (hi := 2147483647) (gb_it _) (fun x_36 ex_36 ix_36 => ?_)
              refine gc_if (fun c_2228 => ?_) (fun c_2228 => ?_)
              · have j_2229 : gb_iv (-2147483648) 1 x_36 := (gb_rU (lo := (-2147483648)) (hi := 1) (gb_deq c_2228) (gb_it _) (gb_ic (a := 1) (by decide)) (by decide))
                have j_2230 : gb_iv 1 1 x_36 := (gb_rL (lo := 1) (hi := 1) (gb_deq2 c_2228) j_2229 (gb_ic (a := 1) (by decide)) (by decide))
                refine gc_lti (lo := (-2147483648)) (hi := 2147483647) (gb_it _) (fun x_40 ex_40 ix_40 => ?_)
                refine gc_lti (lo := 1) (hi := 8) (gb_iadd (lo := 1) (hi := 8) j_2205 (gb_ic (a := 1) (by decide)) (by decide)) (fun x_41 ex_41 ix_41 => ?_)
                exact ih _ _ _ _ hv0 (gb_it _) (gb_it _) (gb_iw (lo := 0) (hi := 8) ix_41 (by decide)) (gb_mup ex_41 j_2205 (by decide) hm)
              · refine gc_lti (lo := (-2147483648)) (hi := 2147483647) (gb_iadd (lo := (-2147483648)) (hi := 2147483647) (gb_it _) (gb_ic (a := 0) (by decide)) (by decide)) (fun x_38 ex_38 ix_38 => ?_)
                refine gc_lti (lo := 1) (hi := 8) (gb_iadd (lo := 1) (hi := 8) j_2205 (gb_ic (a := 1) (by decide)) (by decide)) (fun x_39 ex_39 ix_39 => ?_)
                exact ih _ _ _ _ hv0 (gb_it _) (gb_it _) (gb_iw (lo := 0) (hi := 8) ix_39 (by decide)) (gb_mup ex_39 j_2205 (by decide) hm)
            · refine gc_if (fun c_2231 => ?_) (fun c_2231 => ?_)
              · have j_2232 : gb_iv (-2147483648) 4 r_17 := (gb_rU (lo := (-2147483648)) (hi := 4) (gb_deq c_2231) (gb_it _) (gb_ic (a := 4) (by decide)) (by decide))
                have j_2233 : gb_iv 4 4 r_17 := (gb_rL (lo := 4) (hi := 4) (gb_deq2 c_2231) j_2232 (gb_ic (a := 4) (by decide)) (by decide))
                refine gc_lti (lo := (-2147483648)) (hi := 2147483647) (gb_imin (lo := (-2147483648)) (hi := 2147483647) (gb_it _) (gb_it _) (by decide)) (fun x_43 ex_43 ix_43 => ?_)
                refine gc_lti (lo := 1) (hi := 8) (gb_iadd (lo := 1) (hi := 8) j_2205 (gb_ic (a := 1) (by decide)) (by decide)) (fun x_44 ex_44 ix_44 => ?_)
                exact ih _ _ _ _ hv0 (gb_it _) (gb_it _) (gb_iw (lo := 0) (hi := 8) ix_44 (by decide)) (gb_mup ex_44 j_2205 (by decide) hm)
              · refine gc_lti (lo := 1) (hi := 8) (gb_iadd (lo := 1) (hi := 8) j_2205 (gb_ic (a := 1) (by decide)) (by decide)) (fun x_45 ex_45 ix_45 => ?_)
                exact ih _ _ _ _ hv0 (gb_it _) (gb_it _) (gb_iw (lo := 0) (hi := 8) ix_45 (by decide)) (gb_mup ex_45 j_2205 (by decide) hm)
set_option maxHeartbeats 4000000 in
theorem ct_Law_payFor_L {n : Nat} (hn : gb_N ≤ n) {σ : gb_S} {k0 : Nat} {p1 : Int32} (hT : gb_TC σ) (hk0 : gb_kL k0 = true) : gb_tc (cs_Law_payFor_L n σ k0 p1) (fun s r => s = σ ∧ gb_iv (-2147483648) 2147483647 r) := by
  unfold cs_Law_payFor_L
  refine gc_kk hk0 ?_
  exact ct_Law_payFor_L_4 hn hT (fun _ h => ⟨rfl, h⟩) n _ _ _ _ hk0 (gb_it _) (gb_iw (lo := (-2147483648)) (hi := 2147483647) (gb_ic (a := 0) (by decide)) (by decide)) (gb_iw (lo := 0) (hi := 8) (gb_ic (a := 0) (by decide)) (by decide)) (gb_fuu hn (gb_iw (lo := 0) (hi := 8) (gb_ic (a := 0) (by decide)) (by decide)) (by decide))
set_option maxHeartbeats 4000000 in
theorem ct_Face_pays {n : Nat} (hn : gb_N ≤ n) {σ : gb_S} {p1 : Int32} {p2 : Int32} (hT : gb_TC σ) : gb_tc (cs_Face_pays n σ p1 p2) (fun s r => s = σ ∧ gb_iv (-2147483648) 2147483647 r) := by
  unfold cs_Face_pays
  refine gc_cdP (ct_Face_lawAt hn hT) (fun r_2 qr_2 h_2243 => ?_)
  refine gc_if (fun c_2244 => ?_) (fun c_2244 => ?_)
  · exact gc_some ⟨rfl, (gb_iw (lo := (-2147483648)) (hi := 2147483647) (gb_ic (a := (-1)) (by decide)) (by decide))⟩
  · refine gc_kk (Or.resolve_left h_2243 c_2244) ?_
    refine gc_if (fun c_2245 => ?_) (fun c_2245 => ?_)
    · have j_2246 : gb_iv (-2147483648) (-1) p2 := (gb_rU (lo := (-2147483648)) (hi := (-1)) (gb_dlt c_2245) (gb_it _) (gb_ic (a := 0) (by decide)) (by decide))
      exact gc_some ⟨rfl, (gb_iw (lo := (-2147483648)) (hi := 2147483647) (gb_ic (a := (-1)) (by decide)) (by decide))⟩
    · have j_2247 : gb_iv 0 2147483647 p2 := (gb_rL (lo := 0) (hi := 2147483647) (gb_dnlt c_2245) (gb_it _) (gb_ic (a := 0) (by decide)) (by decide))
      refine gc_if (fun c_2248 => ?_) (fun c_2248 => ?_)
      · have j_2249 : gb_iv 0 9999 p2 := (gb_rU (lo := 0) (hi := 9999) (gb_dle c_2248) j_2247 (gb_ic (a := 9999) (by decide)) (by decide))
        refine gc_cdP (ct_Law_payFor_L hn hT (Or.resolve_left h_2243 c_2244)) (fun r_10 qr_10 h_2250 => ?_)
        exact gc_some ⟨rfl, (gb_it _)⟩
      · have j_2251 : gb_iv 10000 2147483647 p2 := (gb_rL (lo := 10000) (hi := 2147483647) (gb_dnle c_2248) j_2247 (gb_ic (a := 9999) (by decide)) (by decide))
        exact gc_some ⟨rfl, (gb_iw (lo := (-2147483648)) (hi := 2147483647) (gb_ic (a := (-1)) (by decide)) (by decide))⟩
set_option maxHeartbeats 4000000 in
theorem ct_Face_playedOut_n_n {n : Nat} (hn : gb_N ≤ n) {σ : gb_S} (hT : gb_TC σ) : gb_tc (cs_Face_playedOut_n_n n σ) (fun s r => s = σ ∧ gb_iv 0 0 r) := by
  unfold cs_Face_playedOut_n_n
  exact gc_some ⟨rfl, (gb_ic (a := 0) (by decide))⟩
set_option maxHeartbeats 4000000 in
theorem ct_Face_playedOut_n_N {n : Nat} (hn : gb_N ≤ n) {σ : gb_S} {p2 : Nat} (hT : gb_TC σ) (hp2 : gb_kN p2 = true) : gb_tc (cs_Face_playedOut_n_N n σ p2) (fun s r => s = σ ∧ gb_iv 0 0 r) := by
  unfold cs_Face_playedOut_n_N
  refine gc_kk hp2 ?_
  exact gc_some ⟨rfl, (gb_ic (a := 0) (by decide))⟩
set_option maxHeartbeats 4000000 in
theorem ct_Face_playedOut_B_n {n : Nat} (hn : gb_N ≤ n) {σ : gb_S} {p1 : Nat} (hT : gb_TC σ) (hp1 : gb_kB p1 = true) : gb_tc (cs_Face_playedOut_B_n n σ p1) (fun s r => s = σ ∧ gb_iv 0 0 r) := by
  unfold cs_Face_playedOut_B_n
  refine gc_kk hp1 ?_
  exact gc_some ⟨rfl, (gb_ic (a := 0) (by decide))⟩
set_option maxHeartbeats 4000000 in
theorem ct_java_util_Arrays_fill_c116_5 {n : Nat} (hn : gb_N ≤ n) {Q : gb_S → Unit → Prop} (hret : ∀ (σ : gb_S) (r : Unit), gb_TC σ → True → Q σ r) : ∀ (mm : Nat) (σ : gb_S) (v1 : Int32) (v2 : Int32) (v3 : Int32), gb_TC σ → gb_iv (-2147483648) 2147483647 v1 → gb_iv 0 5 v2 → gb_iv 5 5 v3 → (5 - v2.toInt).toNat < mm → gb_tc (cs_java_util_Arrays_fill_c116_5 n mm σ v1 v2 v3) Q := by
  intro mm
  induction mm with
  | zero =>
    intro σ v1 v2 v3 hT iv1 iv2 iv3 hm
    exact absurd hm (Nat.not_lt_zero _)
  | succ mm ih =>
    intro σ v1 v2 v3 hT iv1 iv2 iv3 hm
    rw [cs_java_util_Arrays_fill_c116_5]
    refine gc_if (fun c_2310 => ?_) (fun c_2310 => ?_)
    · have j_2311 : gb_iv 5 5 v2 := (gb_rL (lo := 5) (hi := 5) (gb_dle c_2310) iv2 iv3 (by decide))
      exact gc_some (hret _ _ hT trivial)
    · have j_2312 : gb_iv 0 4 v2 := (gb_rU (lo := 0) (hi := 4) (gb_dnle c_2310) iv2 iv3 (by decide))
      refine gc_ck j_2312 (by decide) ?_
      refine gc_ltT (gc_su0 hT (rfl : gc_cat 116 = 0)) (fun s_3 es_3 hTs_3 => ?_)
      refine gc_lti (lo := 1) (hi := 5) (gb_iadd (lo := 1) (hi := 5) j_2312 (gb_ic (a := 1) (by decide)) (by decide)) (fun x_4 ex_4 ix_4 => ?_)
      exact ih _ _ _ _ hTs_3 (gb_it _) (gb_iw (lo := 0) (hi := 5) ix_4 (by decide)) iv3 (gb_mup ex_4 j_2312 (by decide) hm)
set_option maxHeartbeats 4000000 in
theorem ct_java_util_Arrays_fill_c116 {n : Nat} (hn : gb_N ≤ n) {σ : gb_S} {p2 : Int32} (hT : gb_TC σ) : gb_tc (cs_java_util_Arrays_fill_c116 n σ p2) (fun s _ => gb_TC s ∧ True) := by
  unfold cs_java_util_Arrays_fill_c116
  exact ct_java_util_Arrays_fill_c116_5 hn (fun _ _ hT h => ⟨hT, h⟩) n _ _ _ _ hT (gb_it _) (gb_iw (lo := 0) (hi := 5) (gb_ic (a := 0) (by decide)) (by decide)) (gb_ic (a := 5) (by decide)) (gb_fuu hn (gb_iw (lo := 0) (hi := 5) (gb_ic (a := 0) (by decide)) (by decide)) (by decide))
set_option maxHeartbeats 4000000 in
theorem ct_java_util_Arrays_fill_c117_5 {n : Nat} (hn : gb_N ≤ n) {Q : gb_S → Unit → Prop} (hret : ∀ (σ : gb_S) (r : Unit), gb_TC σ → True → Q σ r) : ∀ (mm : Nat) (σ : gb_S) (v1 : Int32) (v2 : Int32) (v3 : Int32), gb_TC σ → gb_iv (-2147483648) 2147483647 v1 → gb_iv 0 5 v2 → gb_iv 5 5 v3 → (5 - v2.toInt).toNat < mm → gb_tc (cs_java_util_Arrays_fill_c117_5 n mm σ v1 v2 v3) Q := by
  intro mm
  induction mm with
  | zero =>
    intro σ v1 v2 v3 hT iv1 iv2 iv3 hm
    exact absurd hm (Nat.not_lt_zero _)
  | succ mm ih =>
    intro σ v1 v2 v3 hT iv1 iv2 iv3 hm
    rw [cs_java_util_Arrays_fill_c117_5]
    refine gc_if (fun c_2371 => ?_) (fun c_2371 => ?_)
    · have j_2372 : gb_iv 5 5 v2 := (gb_rL (lo := 5) (hi := 5) (gb_dle c_2371) iv2 iv3 (by decide))
      exact gc_some (hret _ _ hT trivial)
    · have j_2373 : gb_iv 0 4 v2 := (gb_rU (lo := 0) (hi := 4) (gb_dnle c_2371) iv2 iv3 (by decide))
      refine gc_ck j_2373 (by decide) ?_
      refine gc_ltT (gc_su0 hT (rfl : gc_cat 117 = 0)) (fun s_3 es_3 hTs_3 => ?_)
      refine gc_lti (lo := 1) (hi := 5) (gb_iadd (lo := 1) (hi := 5) j_2373 (gb_ic (a := 1) (by decide)) (by decide)) (fun x_4 ex_4 ix_4 => ?_)
      exact ih _ _ _ _ hTs_3 (gb_it _) (gb_iw (lo := 0) (hi := 5) ix_4 (by decide)) iv3 (gb_mup ex_4 j_2373 (by decide) hm)
set_option maxHeartbeats 4000000 in
theorem ct_java_util_Arrays_fill_c117 {n : Nat} (hn : gb_N ≤ n) {σ : gb_S} {p2 : Int32} (hT : gb_TC σ) : gb_tc (cs_java_util_Arrays_fill_c117 n σ p2) (fun s _ => gb_TC s ∧ True) := by
  unfold cs_java_util_Arrays_fill_c117
  exact ct_java_util_Arrays_fill_c117_5 hn (fun _ _ hT h => ⟨hT, h⟩) n _ _ _ _ hT (gb_it _) (gb_iw (lo := 0) (hi := 5) (gb_ic (a := 0) (by decide)) (by decide)) (gb_ic (a := 5) (by decide)) (gb_fuu hn (gb_iw (lo := 0) (hi := 5) (gb_ic (a := 0) (by decide)) (by decide)) (by decide))
set_option maxHeartbeats 4000000 in
theorem ct_java_util_Arrays_fill_c118_5 {n : Nat} (hn : gb_N ≤ n) {Q : gb_S → Unit → Prop} (hret : ∀ (σ : gb_S) (r : Unit), gb_TC σ → True → Q σ r) : ∀ (mm : Nat) (σ : gb_S) (v1 : Int32) (v2 : Int32) (v3 : Int32), gb_TC σ → gb_iv (-2147483648) 2147483647 v1 → gb_iv 0 5 v2 → gb_iv 5 5 v3 → (5 - v2.toInt).toNat < mm → gb_tc (cs_java_util_Arrays_fill_c118_5 n mm σ v1 v2 v3) Q := by
  intro mm
  induction mm with
  | zero =>
    intro σ v1 v2 v3 hT iv1 iv2 iv3 hm
    exact absurd hm (Nat.not_lt_zero _)
  | succ mm ih =>
    intro σ v1 v2 v3 hT iv1 iv2 iv3 hm
    rw [cs_java_util_Arrays_fill_c118_5]
    refine gc_if (fun c_2432 => ?_) (fun c_2432 => ?_)
    · have j_2433 : gb_iv 5 5 v2 := (gb_rL (lo := 5) (hi := 5) (gb_dle c_2432) iv2 iv3 (by decide))
      exact gc_some (hret _ _ hT trivial)
    · have j_2434 : gb_iv 0 4 v2 := (gb_rU (lo := 0) (hi := 4) (gb_dnle c_2432) iv2 iv3 (by decide))
      refine gc_ck j_2434 (by decide) ?_
      refine gc_ltT (gc_su0 hT (rfl : gc_cat 118 = 0)) (fun s_3 es_3 hTs_3 => ?_)
      refine gc_lti (lo := 1) (hi := 5) (gb_iadd (lo := 1) (hi := 5) j_2434 (gb_ic (a := 1) (by decide)) (by decide)) (fun x_4 ex_4 ix_4 => ?_)
      exact ih _ _ _ _ hTs_3 (gb_it _) (gb_iw (lo := 0) (hi := 5) ix_4 (by decide)) iv3 (gb_mup ex_4 j_2434 (by decide) hm)
set_option maxHeartbeats 4000000 in
theorem ct_java_util_Arrays_fill_c118 {n : Nat} (hn : gb_N ≤ n) {σ : gb_S} {p2 : Int32} (hT : gb_TC σ) : gb_tc (cs_java_util_Arrays_fill_c118 n σ p2) (fun s _ => gb_TC s ∧ True) := by
  unfold cs_java_util_Arrays_fill_c118
  exact ct_java_util_Arrays_fill_c118_5 hn (fun _ _ hT h => ⟨hT, h⟩) n _ _ _ _ hT (gb_it _) (gb_iw (lo := 0) (hi := 5) (gb_ic (a := 0) (by decide)) (by decide)) (gb_ic (a := 5) (by decide)) (gb_fuu hn (gb_iw (lo := 0) (hi := 5) (gb_ic (a := 0) (by decide)) (by decide)) (by decide))
set_option maxHeartbeats 4000000 in
theorem ct_java_util_Arrays_fill_c119_5 {n : Nat} (hn : gb_N ≤ n) {Q : gb_S → Unit → Prop} (hret : ∀ (σ : gb_S) (r : Unit), gb_TC σ → True → Q σ r) : ∀ (mm : Nat) (σ : gb_S) (v1 : Int32) (v2 : Int32) (v3 : Int32), gb_TC σ → gb_iv (-2147483648) 2147483647 v1 → gb_iv 0 40 v2 → gb_iv 40 40 v3 → (40 - v2.toInt).toNat < mm → gb_tc (cs_java_util_Arrays_fill_c119_5 n mm σ v1 v2 v3) Q := by
  intro mm
  induction mm with
  | zero =>
    intro σ v1 v2 v3 hT iv1 iv2 iv3 hm
    exact absurd hm (Nat.not_lt_zero _)
  | succ mm ih =>
    intro σ v1 v2 v3 hT iv1 iv2 iv3 hm
    rw [cs_java_util_Arrays_fill_c119_5]
    refine gc_if (fun c_2517 => ?_) (fun c_2517 => ?_)
    · have j_2518 : gb_iv 40 40 v2 := (gb_rL (lo := 40) (hi := 40) (gb_dle c_2517) iv2 iv3 (by decide))
      exact gc_some (hret _ _ hT trivial)
    · have j_2519 : gb_iv 0 39 v2 := (gb_rU (lo := 0) (hi := 39) (gb_dnle c_2517) iv2 iv3 (by decide))
      refine gc_ck j_2519 (by decide) ?_
      refine gc_ltT (gc_su0 hT (rfl : gc_cat 119 = 0)) (fun s_3 es_3 hTs_3 => ?_)
      refine gc_lti (lo := 1) (hi := 40) (gb_iadd (lo := 1) (hi := 40) j_2519 (gb_ic (a := 1) (by decide)) (by decide)) (fun x_4 ex_4 ix_4 => ?_)
      exact ih _ _ _ _ hTs_3 (gb_it _) (gb_iw (lo := 0) (hi := 40) ix_4 (by decide)) iv3 (gb_mup ex_4 j_2519 (by decide) hm)
set_option maxHeartbeats 4000000 in
theorem ct_java_util_Arrays_fill_c119 {n : Nat} (hn : gb_N ≤ n) {σ : gb_S} {p2 : Int32} (hT : gb_TC σ) : gb_tc (cs_java_util_Arrays_fill_c119 n σ p2) (fun s _ => gb_TC s ∧ True) := by
  unfold cs_java_util_Arrays_fill_c119
  exact ct_java_util_Arrays_fill_c119_5 hn (fun _ _ hT h => ⟨hT, h⟩) n _ _ _ _ hT (gb_it _) (gb_iw (lo := 0) (hi := 40) (gb_ic (a := 0) (by decide)) (by decide)) (gb_ic (a := 40) (by decide)) (gb_fuu hn (gb_iw (lo := 0) (hi := 40) (gb_ic (a := 0) (by decide)) (by decide)) (by decide))
set_option maxHeartbeats 4000000 in
theorem ct_Play_begin_B_7 {n : Nat} (hn : gb_N ≤ n) {Q : gb_S → Unit → Prop} (hret : ∀ (σ : gb_S) (r : Unit), gb_TC σ → True → Q σ r) : ∀ (mm : Nat) (σ : gb_S) (v1 : Nat) (v2 : Int32), gb_TC σ → gb_kB v1 = true → gb_iv 0 8 v2 → (8 - v2.toInt).toNat < mm → gb_tc (cs_Play_begin_B_7 n mm σ v1 v2) Q := by
  intro mm
  induction mm with
  | zero =>
    intro σ v1 v2 hT hv1 iv2 hm
    exact absurd hm (Nat.not_lt_zero _)
  | succ mm ih =>
    intro σ v1 v2 hT hv1 iv2 hm
    rw [cs_Play_begin_B_7]
    refine gc_kk hv1 ?_
    refine gc_if (fun c_2796 => ?_) (fun c_2796 => ?_)
    · have j_2797 : gb_iv 8 8 v2 := (gb_rL (lo := 8) (hi := 8) (gb_dle c_2796) iv2 (gb_ic (a := 8) (by decide)) (by decide))
      refine gc_cdT (ct_java_util_Arrays_fill_c116 hn hT) (fun s_5 u_2798 hTs_5 _ => ?_)
      refine gc_cdT (ct_java_util_Arrays_fill_c117 hn hTs_5) (fun s_9 u_2799 hTs_9 _ => ?_)
      refine gc_cdT (ct_java_util_Arrays_fill_c118 hn hTs_9) (fun s_13 u_2800 hTs_13 _ => ?_)
      refine gc_cdT (ct_java_util_Arrays_fill_c119 hn hTs_13) (fun s_17 u_2801 hTs_17 _ => ?_)
      refine gc_ltT (gc_su (c := 10) (lo := (-2147483648)) (hi := 2147483647) hTs_17 (rfl : gc_cat 109 = 10) (gb_iw (lo := (-2147483648)) (hi := 2147483647) (gb_ic (a := 0) (by decide)) (by decide)) (by decide)) (fun s_21 es_21 hTs_21 => ?_)
      refine gc_ltT (gc_su (c := 10) (lo := (-2147483648)) (hi := 2147483647) hTs_21 (rfl : gc_cat 109 = 10) (gb_iw (lo := (-2147483648)) (hi := 2147483647) (gb_ic (a := 0) (by decide)) (by decide)) (by decide)) (fun s_22 es_22 hTs_22 => ?_)
      refine gc_ltT (gc_su (c := 10) (lo := 0) (hi := 24) hTs_22 (rfl : gc_cat 109 = 10) (gb_iw (lo := 0) (hi := 24) (gb_ic (a := 0) (by decide)) (by decide)) (by decide)) (fun s_23 es_23 hTs_23 => ?_)
      exact gc_some (hret _ _ hTs_23 trivial)
    · have j_2802 : gb_iv 0 7 v2 := (gb_rU (lo := 0) (hi := 7) (gb_dnle c_2796) iv2 (gb_ic (a := 8) (by decide)) (by decide))
      refine gc_ck j_2802 (by decide) ?_
      refine gc_ltT (gc_su0 hT (rfl : gc_cat 112 = 0)) (fun s_25 es_25 hTs_25 => ?_)
      refine gc_cdP (ct_Border_hasGoose_B hn hTs_25 hv1) (fun r_27 qr_27 h_2803 => ?_)
      refine gc_if (fun c_2804 => ?_) (fun c_2804 => ?_)
      · have j_2805 : gb_iv 0 0 r_27 := (gb_rU (lo := 0) (hi := 0) (gb_deq c_2804) h_2803.1 (gb_ic (a := 0) (by decide)) (by decide))
        refine gc_ck j_2802 (by decide) ?_
        refine gc_ltT (gc_su0 hTs_25 (rfl : gc_cat 113 = 0)) (fun s_32 es_32 hTs_32 => ?_)
        refine gc_ck j_2802 (by decide) ?_
        refine gc_ltT (gc_su0 hTs_32 (rfl : gc_cat 114 = 0)) (fun s_34 es_34 hTs_34 => ?_)
        refine gc_ck j_2802 (by decide) ?_
        refine gc_ltT (gc_su0 hTs_34 (rfl : gc_cat 115 = 0)) (fun s_36 es_36 hTs_36 => ?_)
        refine gc_lti (lo := 1) (hi := 8) (gb_iadd (lo := 1) (hi := 8) j_2802 (gb_ic (a := 1) (by decide)) (by decide)) (fun x_37 ex_37 ix_37 => ?_)
        exact ih _ _ _ hTs_36 hv1 (gb_iw (lo := 0) (hi := 8) ix_37 (by decide)) (gb_mup ex_37 j_2802 (by decide) hm)
      · have j_2806 : gb_iv 1 1 r_27 := (gb_rN (lo := 1) (hi := 1) (v := 0) c_2804 h_2803.1 (by decide) (by decide))
        refine gc_cdP (ct_Border_boots_B hn hTs_25 hv1 j_2802) (fun r_39 qr_39 h_2807 => ?_)
        refine gc_ck j_2802 (by decide) ?_
        refine gc_ltT (gc_su0 hTs_25 (rfl : gc_cat 113 = 0)) (fun s_43 es_43 hTs_43 => ?_)
        refine gc_ck j_2802 (by decide) ?_
        refine gc_ltT (gc_su0 hTs_43 (rfl : gc_cat 114 = 0)) (fun s_45 es_45 hTs_45 => ?_)
        refine gc_ck j_2802 (by decide) ?_
        refine gc_ltT (gc_su0 hTs_45 (rfl : gc_cat 115 = 0)) (fun s_47 es_47 hTs_47 => ?_)
        refine gc_lti (lo := 1) (hi := 8) (gb_iadd (lo := 1) (hi := 8) j_2802 (gb_ic (a := 1) (by decide)) (by decide)) (fun x_48 ex_48 ix_48 => ?_)
        exact ih _ _ _ hTs_47 hv1 (gb_iw (lo := 0) (hi := 8) ix_48 (by decide)) (gb_mup ex_48 j_2802 (by decide) hm)
set_option maxHeartbeats 4000000 in
theorem ct_Play_begin_B {n : Nat} (hn : gb_N ≤ n) {σ : gb_S} {p1 : Nat} (hT : gb_TC σ) (hp1 : gb_kB p1 = true) : gb_tc (cs_Play_begin_B n σ p1) (fun s _ => gb_TC s ∧ True) := by
  unfold cs_Play_begin_B
  refine gc_kk hp1 ?_
  refine gc_ltT (gc_sq1 hT hp1) (fun s_2 es_2 hTs_2 => ?_)
  exact ct_Play_begin_B_7 hn (fun _ _ hT h => ⟨hT, h⟩) n _ _ _ hTs_2 hp1 (gb_iw (lo := 0) (hi := 8) (gb_ic (a := 0) (by decide)) (by decide)) (gb_fuu hn (gb_iw (lo := 0) (hi := 8) (gb_ic (a := 0) (by decide)) (by decide)) (by decide))
set_option maxHeartbeats 4000000 in
theorem ct_Lines_kind_N {n : Nat} (hn : gb_N ≤ n) {σ : gb_S} {k0 : Nat} {p1 : Int32} (hT : gb_TC σ) (hk0 : gb_kN k0 = true) (ip1 : gb_iv 0 23 p1) : gb_tc (cs_Lines_kind_N n σ k0 p1) (fun s r => s = σ ∧ gb_iv (-2147483648) 2147483647 r) := by
  unfold cs_Lines_kind_N
  refine gc_kk hk0 ?_
  refine gc_cdP (ct_Lines_cell_N hn hT hk0 ip1 (gb_iw (lo := 0) (hi := 3) (gb_ic (a := 0) (by decide)) (by decide))) (fun r_3 qr_3 h_2809 => ?_)
  exact gc_some ⟨rfl, (gb_it _)⟩
set_option maxHeartbeats 4000000 in
theorem ct_Play_stands {n : Nat} (hn : gb_N ≤ n) {σ : gb_S} {p1 : Int32} {p2 : Int32} (hT : gb_TC σ) : gb_tc (cs_Play_stands n σ p1 p2) (fun s r => s = σ ∧ (gb_iv 0 1 r ∧ (¬ r = 0 → gb_iv 0 7 p1))) := by
  unfold cs_Play_stands
  refine gc_kk (gc_q1 hT) ?_
  refine gc_cdP (ct_Border_hasGoose_B hn hT (gc_q1 hT)) (fun r_3 qr_3 h_2816 => ?_)
  refine gc_if (fun c_2817 => ?_) (fun c_2817 => ?_)
  · have j_2818 : gb_iv 0 0 r_3 := (gb_rU (lo := 0) (hi := 0) (gb_deq c_2817) h_2816.1 (gb_ic (a := 0) (by decide)) (by decide))
    exact gc_some ⟨rfl, ⟨(gb_iw (lo := 0) (hi := 1) (gb_ic (a := 0) (by decide)) (by decide)), (fun h => absurd rfl h)⟩⟩
  · have j_2819 : gb_iv 1 1 r_3 := (gb_rN (lo := 1) (hi := 1) (v := 0) c_2817 h_2816.1 (by decide) (by decide))
    have j_2820 : gb_iv 0 7 p1 := (h_2816.2 c_2817)
    refine gc_ck j_2820 (by decide) ?_
    refine gc_lti (lo := (-2147483648)) (hi := 2147483647) (gb_it _) (fun x_8 ex_8 ix_8 => ?_)
    refine gc_if (fun c_2821 => ?_) (fun c_2821 => ?_)
    · exact gc_some ⟨rfl, ⟨(gb_iw (lo := 0) (hi := 1) (gb_ic (a := 1) (by decide)) (by decide)), (fun _ => j_2820)⟩⟩
    · exact gc_some ⟨rfl, ⟨(gb_iw (lo := 0) (hi := 1) (gb_ic (a := 0) (by decide)) (by decide)), (fun h => absurd rfl h)⟩⟩
set_option maxHeartbeats 4000000 in
theorem ct_Play_latestGoer_7 {n : Nat} (hn : gb_N ≤ n) {Q : gb_S → Int32 → Prop} {σ : gb_S} (hT : gb_TC σ) (hret : ∀ (r : Int32), gb_iv (-1) 7 r → Q σ r) : ∀ (mm : Nat) (v1 : Int32) (v2 : Int32) (v3 : Int32) (v4 : Int32), gb_iv 0 4 v1 → gb_iv 0 2147483647 v2 → gb_iv (-1) 7 v3 → gb_iv 0 8 v4 → (8 - v4.toInt).toNat < mm → gb_tc (cs_Play_latestGoer_7 n mm σ v1 v2 v3 v4) Q := by
  intro mm
  induction mm with
  | zero =>
    intro v1 v2 v3 v4 iv1 iv2 iv3 iv4 hm
    exact absurd hm (Nat.not_lt_zero _)
  | succ mm ih =>
    intro v1 v2 v3 v4 iv1 iv2 iv3 iv4 hm
    rw [cs_Play_latestGoer_7]
    refine gc_kk (gc_q1 hT) ?_
    refine gc_cdP (ct_Border_geese_B hn hT (gc_q1 hT)) (fun r_3 qr_3 h_3122 => ?_)
    refine gc_if (fun c_3123 => ?_) (fun c_3123 => ?_)
    · exact gc_some (hret _ iv3)
    · have j_3124 : gb_iv 0 7 v4 := (gb_rU (lo := 0) (hi := 7) (gb_dnle c_3123) iv4 h_3122 (by decide))
      have j_3125 : gb_iv 1 8 r_3 := (gb_rL (lo := 1) (hi := 8) (gb_dnle c_3123) h_3122 j_3124 (by decide))
      refine gc_ck (gb_iadd (lo := 0) (hi := 39) (gb_imul (lo := 0) (hi := 32) iv1 (gb_ic (a := 8) (by decide)) (by decide)) j_3124 (by decide)) (by decide) ?_
      refine gc_lti (lo := (-2147483648)) (hi := 2147483647) (gb_it _) (fun x_8 ex_8 ix_8 => ?_)
      refine gc_if (fun c_3126 => ?_) (fun c_3126 => ?_)
      · refine gc_lti (lo := 1) (hi := 8) (gb_iadd (lo := 1) (hi := 8) j_3124 (gb_ic (a := 1) (by decide)) (by decide)) (fun x_10 ex_10 ix_10 => ?_)
        exact ih _ _ _ _ iv1 iv2 iv3 (gb_iw (lo := 0) (hi := 8) ix_10 (by decide)) (gb_mup ex_10 j_3124 (by decide) hm)
      · have j_3127 : gb_iv 0 2147483646 v2 := (gb_rU (lo := 0) (hi := 2147483646) (gb_dnle c_3126) iv2 (gb_it _) (by decide))
        have j_3128 : gb_iv 1 2147483647 x_8 := (gb_rL (lo := 1) (hi := 2147483647) (gb_dnle c_3126) (gb_it _) j_3127 (by decide))
        refine gc_ck j_3124 (by decide) ?_
        refine gc_lti (lo := (-2147483648)) (hi := 2147483647) (gb_it _) (fun x_12 ex_12 ix_12 => ?_)
        refine gc_if (fun c_3129 => ?_) (fun c_3129 => ?_)
        · have j_3130 : gb_iv (-2147483648) 2 x_12 := (gb_rU (lo := (-2147483648)) (hi := 2) (gb_deq c_3129) (gb_it _) (gb_ic (a := 2) (by decide)) (by decide))
          have j_3131 : gb_iv 2 2 x_12 := (gb_rL (lo := 2) (hi := 2) (gb_deq2 c_3129) j_3130 (gb_ic (a := 2) (by decide)) (by decide))
          refine gc_lti (lo := 1) (hi := 8) (gb_iadd (lo := 1) (hi := 8) j_3124 (gb_ic (a := 1) (by decide)) (by decide)) (fun x_14 ex_14 ix_14 => ?_)
          exact ih _ _ _ _ iv1 (gb_iw (lo := 0) (hi := 2147483647) j_3127 (by decide)) iv3 (gb_iw (lo := 0) (hi := 8) ix_14 (by decide)) (gb_mup ex_14 j_3124 (by decide) hm)
        · refine gc_lti (lo := 1) (hi := 8) (gb_iadd (lo := 1) (hi := 8) j_3124 (gb_ic (a := 1) (by decide)) (by decide)) (fun x_15 ex_15 ix_15 => ?_)
          exact ih _ _ _ _ iv1 (gb_iw (lo := 0) (hi := 2147483647) j_3128 (by decide)) (gb_iw (lo := (-1)) (hi := 7) j_3124 (by decide)) (gb_iw (lo := 0) (hi := 8) ix_15 (by decide)) (gb_mup ex_15 j_3124 (by decide) hm)
set_option maxHeartbeats 4000000 in
theorem ct_Play_latestGoer {n : Nat} (hn : gb_N ≤ n) {σ : gb_S} {p1 : Int32} (hT : gb_TC σ) (ip1 : gb_iv 0 4 p1) : gb_tc (cs_Play_latestGoer n σ p1) (fun s r => s = σ ∧ gb_iv (-1) 7 r) := by
  unfold cs_Play_latestGoer
  exact ct_Play_latestGoer_7 hn hT (fun _ h => ⟨rfl, h⟩) n _ _ _ _ ip1 (gb_iw (lo := 0) (hi := 2147483647) (gb_ic (a := 0) (by decide)) (by decide)) (gb_iw (lo := (-1)) (hi := 7) (gb_ic (a := (-1)) (by decide)) (by decide)) (gb_iw (lo := 0) (hi := 8) (gb_ic (a := 0) (by decide)) (by decide)) (gb_fuu hn (gb_iw (lo := 0) (hi := 8) (gb_ic (a := 0) (by decide)) (by decide)) (by decide))
set_option maxHeartbeats 4000000 in
theorem ct_Play_go_n_95 {n : Nat} (hn : gb_N ≤ n) {Q : gb_S → Unit → Prop} (hret : ∀ (σ : gb_S) (r : Unit), gb_TC σ → True → Q σ r) : ∀ (σ : gb_S) (v1 : Int32) (v2 : Int32) (v3 : Int32) (t0 : Int32) (t1 : Int32), gb_TC σ → gb_iv 0 7 v1 → gb_iv 0 4 v2 → gb_iv (-2147483648) 2147483647 v3 → gb_iv 1 1 t0 → gb_iv 0 7 t1 → gb_tc (cs_Play_go_n_95 n σ v1 v2 v3 t0 t1) Q := by
  intro σ v1 v2 v3 t0 t1 hT iv1 iv2 iv3 it0 it1
  unfold cs_Play_go_n_95
  refine gc_ck it1 (by decide) ?_
  refine gc_ltT (gc_su0 hT (rfl : gc_cat 112 = 0)) (fun s_26 es_26 hTs_26 => ?_)
  refine gc_ck iv1 (by decide) ?_
  refine gc_ltT (gc_su0 hTs_26 (rfl : gc_cat 115 = 0)) (fun s_28 es_28 hTs_28 => ?_)
  refine gc_ck (gb_iadd (lo := 0) (hi := 39) (gb_imul (lo := 0) (hi := 32) iv2 (gb_ic (a := 8) (by decide)) (by decide)) iv1 (by decide)) (by decide) ?_
  refine gc_ltT (gc_su0 hTs_28 (rfl : gc_cat 119 = 0)) (fun s_30 es_30 hTs_30 => ?_)
  exact gc_some (hret _ _ hTs_30 trivial)
set_option maxHeartbeats 4000000 in
theorem ct_Play_go_n_95_i1 {n : Nat} (hn : gb_N ≤ n) {Q : gb_S → Unit → Prop} (hret : ∀ (σ : gb_S) (r : Unit), gb_TC σ → True → Q σ r) : ∀ (σ : gb_S) (v1 : Int32) (v2 : Int32) (v3 : Int32) (t0 : Int32) (t1 : Int32), gb_TC σ → gb_iv 0 7 v1 → gb_iv 0 4 v2 → gb_iv (-2147483648) 2147483647 v3 → gb_iv 0 0 t0 → gb_iv 0 7 t1 → gb_tc (cs_Play_go_n_95 n σ v1 v2 v3 t0 t1) Q := by
  intro σ v1 v2 v3 t0 t1 hT iv1 iv2 iv3 it0 it1
  unfold cs_Play_go_n_95
  refine gc_ck it1 (by decide) ?_
  refine gc_ltT (gc_su0 hT (rfl : gc_cat 112 = 0)) (fun s_26 es_26 hTs_26 => ?_)
  refine gc_ck iv1 (by decide) ?_
  refine gc_ltT (gc_su0 hTs_26 (rfl : gc_cat 115 = 0)) (fun s_28 es_28 hTs_28 => ?_)
  refine gc_ck (gb_iadd (lo := 0) (hi := 39) (gb_imul (lo := 0) (hi := 32) iv2 (gb_ic (a := 8) (by decide)) (by decide)) iv1 (by decide)) (by decide) ?_
  refine gc_ltT (gc_su0 hTs_28 (rfl : gc_cat 119 = 0)) (fun s_30 es_30 hTs_30 => ?_)
  exact gc_some (hret _ _ hTs_30 trivial)
set_option maxHeartbeats 4000000 in
theorem ct_Play_go_n_46 {n : Nat} (hn : gb_N ≤ n) {Q : gb_S → Unit → Prop} (hret : ∀ (σ : gb_S) (r : Unit), gb_TC σ → True → Q σ r) : ∀ (σ : gb_S) (v1 : Int32) (v2 : Int32) (v3 : Int32) (v5 : Int32) (v6 : Int32), gb_TC σ → gb_iv 0 7 v1 → gb_iv 0 4 v2 → gb_iv (-2147483648) 2147483647 v3 → gb_iv (-2147483648) 2147483647 v5 → gb_iv (-2147483648) 2147483647 v6 → gb_tc (cs_Play_go_n_46 n σ v1 v2 v3 v5 v6) Q := by
  intro σ v1 v2 v3 v5 v6 hT iv1 iv2 iv3 iv5 iv6
  unfold cs_Play_go_n_46
  refine gc_ck iv1 (by decide) ?_
  refine gc_lti (lo := (-2147483648)) (hi := 2147483647) (gb_it _) (fun x_14 ex_14 ix_14 => ?_)
  refine gc_lti (lo := 0) (hi := 2147483647) (gb_imax (lo := 0) (hi := 2147483647) (gb_ic (a := 0) (by decide)) (gb_it _) (by decide)) (fun x_15 ex_15 ix_15 => ?_)
  refine gc_ck iv1 (by decide) ?_
  refine gc_ltT (gc_su0 hT (rfl : gc_cat 113 = 0)) (fun s_17 es_17 hTs_17 => ?_)
  refine gc_ck iv1 (by decide) ?_
  refine gc_lti (lo := (-2147483648)) (hi := 2147483647) (gb_it _) (fun x_19 ex_19 ix_19 => ?_)
  refine gc_ck iv1 (by decide) ?_
  refine gc_ltT (gc_su0 hTs_17 (rfl : gc_cat 114 = 0)) (fun s_21 es_21 hTs_21 => ?_)
  refine gc_ck iv1 (by decide) ?_
  refine gc_lti (lo := (-2147483648)) (hi := 2147483647) (gb_it _) (fun x_23 ex_23 ix_23 => ?_)
  refine gc_if (fun c_3139 => ?_) (fun c_3139 => ?_)
  · have j_3140 : gb_iv (-2147483648) 0 x_23 := (gb_rU (lo := (-2147483648)) (hi := 0) (gb_deq c_3139) (gb_it _) (gb_ic (a := 0) (by decide)) (by decide))
    have j_3141 : gb_iv 0 0 x_23 := (gb_rL (lo := 0) (hi := 0) (gb_deq2 c_3139) j_3140 (gb_ic (a := 0) (by decide)) (by decide))
    exact ct_Play_go_n_95 hn hret _ _ _ _ _ _ hTs_21 iv1 iv2 (gb_it _) (gb_ic (a := 1) (by decide)) iv1
  · exact ct_Play_go_n_95_i1 hn hret _ _ _ _ _ _ hTs_21 iv1 iv2 (gb_it _) (gb_ic (a := 0) (by decide)) iv1
set_option maxHeartbeats 4000000 in
theorem ct_Play_go_n {n : Nat} (hn : gb_N ≤ n) {σ : gb_S} {p1 : Int32} {p2 : Int32} {p3 : Int32} (hT : gb_TC σ) (ip1 : gb_iv 0 7 p1) (ip2 : gb_iv 0 4 p2) : gb_tc (cs_Play_go_n n σ p1 p2 p3) (fun s _ => gb_TC s ∧ True) := by
  unfold cs_Play_go_n
  refine gc_kk (gc_q1 hT) ?_
  refine gc_cdP (ct_Border_miles_B hn hT (gc_q1 hT) ip2) (fun r_3 qr_3 h_3137 => ?_)
  refine gc_kk (gc_q1 hT) ?_
  refine gc_ck ip1 (by decide) ?_
  refine gc_lti (lo := (-2147483648)) (hi := 2147483647) (gb_it _) (fun x_8 ex_8 ix_8 => ?_)
  refine gc_cdP (ct_Border_marksOver_B hn hT (gc_q1 hT) ip1) (fun r_10 qr_10 h_3138 => ?_)
  exact ct_Play_go_n_46 hn (fun _ _ hT h => ⟨hT, h⟩) _ _ _ _ _ _ hT ip1 ip2 (gb_it _) (gb_it _) (gb_it _)
set_option maxHeartbeats 4000000 in
theorem ct_Play_go_c116_95 {n : Nat} (hn : gb_N ≤ n) {Q : gb_S → Unit → Prop} (hret : ∀ (σ : gb_S) (r : Unit), gb_TC σ → True → Q σ r) : ∀ (σ : gb_S) (v1 : Int32) (v2 : Int32) (v3 : Int32) (t0 : Int32) (t1 : Int32), gb_TC σ → gb_iv 0 7 v1 → gb_iv 0 4 v2 → gb_iv (-2147483648) 2147483647 v3 → gb_iv 1 1 t0 → gb_iv 0 7 t1 → gb_tc (cs_Play_go_c116_95 n σ v1 v2 v3 t0 t1) Q := by
  intro σ v1 v2 v3 t0 t1 hT iv1 iv2 iv3 it0 it1
  unfold cs_Play_go_c116_95
  refine gc_ck it1 (by decide) ?_
  refine gc_ltT (gc_su0 hT (rfl : gc_cat 112 = 0)) (fun s_30 es_30 hTs_30 => ?_)
  refine gc_ck iv1 (by decide) ?_
  refine gc_ltT (gc_su0 hTs_30 (rfl : gc_cat 115 = 0)) (fun s_32 es_32 hTs_32 => ?_)
  refine gc_ck (gb_iadd (lo := 0) (hi := 39) (gb_imul (lo := 0) (hi := 32) iv2 (gb_ic (a := 8) (by decide)) (by decide)) iv1 (by decide)) (by decide) ?_
  refine gc_ltT (gc_su0 hTs_32 (rfl : gc_cat 119 = 0)) (fun s_34 es_34 hTs_34 => ?_)
  exact gc_some (hret _ _ hTs_34 trivial)
set_option maxHeartbeats 4000000 in
theorem ct_Play_go_c116_95_i1 {n : Nat} (hn : gb_N ≤ n) {Q : gb_S → Unit → Prop} (hret : ∀ (σ : gb_S) (r : Unit), gb_TC σ → True → Q σ r) : ∀ (σ : gb_S) (v1 : Int32) (v2 : Int32) (v3 : Int32) (t0 : Int32) (t1 : Int32), gb_TC σ → gb_iv 0 7 v1 → gb_iv 0 4 v2 → gb_iv (-2147483648) 2147483647 v3 → gb_iv 0 0 t0 → gb_iv 0 7 t1 → gb_tc (cs_Play_go_c116_95 n σ v1 v2 v3 t0 t1) Q := by
  intro σ v1 v2 v3 t0 t1 hT iv1 iv2 iv3 it0 it1
  unfold cs_Play_go_c116_95
  refine gc_ck it1 (by decide) ?_
  refine gc_ltT (gc_su0 hT (rfl : gc_cat 112 = 0)) (fun s_30 es_30 hTs_30 => ?_)
  refine gc_ck iv1 (by decide) ?_
  refine gc_ltT (gc_su0 hTs_30 (rfl : gc_cat 115 = 0)) (fun s_32 es_32 hTs_32 => ?_)
  refine gc_ck (gb_iadd (lo := 0) (hi := 39) (gb_imul (lo := 0) (hi := 32) iv2 (gb_ic (a := 8) (by decide)) (by decide)) iv1 (by decide)) (by decide) ?_
  refine gc_ltT (gc_su0 hTs_32 (rfl : gc_cat 119 = 0)) (fun s_34 es_34 hTs_34 => ?_)
  exact gc_some (hret _ _ hTs_34 trivial)
set_option maxHeartbeats 4000000 in
theorem ct_Play_go_c116_46 {n : Nat} (hn : gb_N ≤ n) {Q : gb_S → Unit → Prop} (hret : ∀ (σ : gb_S) (r : Unit), gb_TC σ → True → Q σ r) : ∀ (σ : gb_S) (v1 : Int32) (v2 : Int32) (v3 : Int32) (v5 : Int32) (v6 : Int32), gb_TC σ → gb_iv 0 7 v1 → gb_iv 0 4 v2 → gb_iv (-2147483648) 2147483647 v3 → gb_iv (-2147483648) 2147483647 v5 → gb_iv (-2147483648) 2147483647 v6 → gb_tc (cs_Play_go_c116_46 n σ v1 v2 v3 v5 v6) Q := by
  intro σ v1 v2 v3 v5 v6 hT iv1 iv2 iv3 iv5 iv6
  unfold cs_Play_go_c116_46
  refine gc_ck iv1 (by decide) ?_
  refine gc_lti (lo := (-2147483648)) (hi := 2147483647) (gb_it _) (fun x_18 ex_18 ix_18 => ?_)
  refine gc_lti (lo := 0) (hi := 2147483647) (gb_imax (lo := 0) (hi := 2147483647) (gb_ic (a := 0) (by decide)) (gb_it _) (by decide)) (fun x_19 ex_19 ix_19 => ?_)
  refine gc_ck iv1 (by decide) ?_
  refine gc_ltT (gc_su0 hT (rfl : gc_cat 113 = 0)) (fun s_21 es_21 hTs_21 => ?_)
  refine gc_ck iv1 (by decide) ?_
  refine gc_lti (lo := (-2147483648)) (hi := 2147483647) (gb_it _) (fun x_23 ex_23 ix_23 => ?_)
  refine gc_ck iv1 (by decide) ?_
  refine gc_ltT (gc_su0 hTs_21 (rfl : gc_cat 114 = 0)) (fun s_25 es_25 hTs_25 => ?_)
  refine gc_ck iv1 (by decide) ?_
  refine gc_lti (lo := (-2147483648)) (hi := 2147483647) (gb_it _) (fun x_27 ex_27 ix_27 => ?_)
  refine gc_if (fun c_3149 => ?_) (fun c_3149 => ?_)
  · have j_3150 : gb_iv (-2147483648) 0 x_27 := (gb_rU (lo := (-2147483648)) (hi := 0) (gb_deq c_3149) (gb_it _) (gb_ic (a := 0) (by decide)) (by decide))
    have j_3151 : gb_iv 0 0 x_27 := (gb_rL (lo := 0) (hi := 0) (gb_deq2 c_3149) j_3150 (gb_ic (a := 0) (by decide)) (by decide))
    exact ct_Play_go_c116_95 hn hret _ _ _ _ _ _ hTs_25 iv1 iv2 (gb_it _) (gb_ic (a := 1) (by decide)) iv1
  · exact ct_Play_go_c116_95_i1 hn hret _ _ _ _ _ _ hTs_25 iv1 iv2 (gb_it _) (gb_ic (a := 0) (by decide)) iv1
set_option maxHeartbeats 4000000 in
theorem ct_Play_go_c116 {n : Nat} (hn : gb_N ≤ n) {σ : gb_S} {p1 : Int32} {p2 : Int32} {p3 : Int32} (hT : gb_TC σ) (ip1 : gb_iv 0 7 p1) (ip2 : gb_iv 0 4 p2) : gb_tc (cs_Play_go_c116 n σ p1 p2 p3) (fun s _ => gb_TC s ∧ True) := by
  unfold cs_Play_go_c116
  refine gc_kk (gc_q1 hT) ?_
  refine gc_cdP (ct_Border_miles_B hn hT (gc_q1 hT) ip2) (fun r_3 qr_3 h_3147 => ?_)
  refine gc_kk (gc_q1 hT) ?_
  refine gc_ck ip1 (by decide) ?_
  refine gc_lti (lo := (-2147483648)) (hi := 2147483647) (gb_it _) (fun x_8 ex_8 ix_8 => ?_)
  refine gc_cdP (ct_Border_marksOver_B hn hT (gc_q1 hT) ip1) (fun r_10 qr_10 h_3148 => ?_)
  refine gc_ck ip2 (by decide) ?_
  refine gc_lti (lo := (-2147483648)) (hi := 2147483647) (gb_it _) (fun x_14 ex_14 ix_14 => ?_)
  refine gc_ck ip2 (by decide) ?_
  refine gc_ltT (gc_su0 hT (rfl : gc_cat 116 = 0)) (fun s_16 es_16 hTs_16 => ?_)
  exact ct_Play_go_c116_46 hn (fun _ _ hT h => ⟨hT, h⟩) _ _ _ _ _ _ hTs_16 ip1 ip2 (gb_it _) (gb_it _) (gb_it _)
set_option maxHeartbeats 4000000 in
theorem ct_Play_go_c117_95 {n : Nat} (hn : gb_N ≤ n) {Q : gb_S → Unit → Prop} (hret : ∀ (σ : gb_S) (r : Unit), gb_TC σ → True → Q σ r) : ∀ (σ : gb_S) (v1 : Int32) (v2 : Int32) (v3 : Int32) (t0 : Int32) (t1 : Int32), gb_TC σ → gb_iv 0 7 v1 → gb_iv 0 4 v2 → gb_iv (-2147483648) 2147483647 v3 → gb_iv 1 1 t0 → gb_iv 0 7 t1 → gb_tc (cs_Play_go_c117_95 n σ v1 v2 v3 t0 t1) Q := by
  intro σ v1 v2 v3 t0 t1 hT iv1 iv2 iv3 it0 it1
  unfold cs_Play_go_c117_95
  refine gc_ck it1 (by decide) ?_
  refine gc_ltT (gc_su0 hT (rfl : gc_cat 112 = 0)) (fun s_30 es_30 hTs_30 => ?_)
  refine gc_ck iv1 (by decide) ?_
  refine gc_ltT (gc_su0 hTs_30 (rfl : gc_cat 115 = 0)) (fun s_32 es_32 hTs_32 => ?_)
  refine gc_ck (gb_iadd (lo := 0) (hi := 39) (gb_imul (lo := 0) (hi := 32) iv2 (gb_ic (a := 8) (by decide)) (by decide)) iv1 (by decide)) (by decide) ?_
  refine gc_ltT (gc_su0 hTs_32 (rfl : gc_cat 119 = 0)) (fun s_34 es_34 hTs_34 => ?_)
  exact gc_some (hret _ _ hTs_34 trivial)
set_option maxHeartbeats 4000000 in
theorem ct_Play_go_c117_95_i1 {n : Nat} (hn : gb_N ≤ n) {Q : gb_S → Unit → Prop} (hret : ∀ (σ : gb_S) (r : Unit), gb_TC σ → True → Q σ r) : ∀ (σ : gb_S) (v1 : Int32) (v2 : Int32) (v3 : Int32) (t0 : Int32) (t1 : Int32), gb_TC σ → gb_iv 0 7 v1 → gb_iv 0 4 v2 → gb_iv (-2147483648) 2147483647 v3 → gb_iv 0 0 t0 → gb_iv 0 7 t1 → gb_tc (cs_Play_go_c117_95 n σ v1 v2 v3 t0 t1) Q := by
  intro σ v1 v2 v3 t0 t1 hT iv1 iv2 iv3 it0 it1
  unfold cs_Play_go_c117_95
  refine gc_ck it1 (by decide) ?_
  refine gc_ltT (gc_su0 hT (rfl : gc_cat 112 = 0)) (fun s_30 es_30 hTs_30 => ?_)
  refine gc_ck iv1 (by decide) ?_
  refine gc_ltT (gc_su0 hTs_30 (rfl : gc_cat 115 = 0)) (fun s_32 es_32 hTs_32 => ?_)
  refine gc_ck (gb_iadd (lo := 0) (hi := 39) (gb_imul (lo := 0) (hi := 32) iv2 (gb_ic (a := 8) (by decide)) (by decide)) iv1 (by decide)) (by decide) ?_
  refine gc_ltT (gc_su0 hTs_32 (rfl : gc_cat 119 = 0)) (fun s_34 es_34 hTs_34 => ?_)
  exact gc_some (hret _ _ hTs_34 trivial)
set_option maxHeartbeats 4000000 in
theorem ct_Play_go_c117_46 {n : Nat} (hn : gb_N ≤ n) {Q : gb_S → Unit → Prop} (hret : ∀ (σ : gb_S) (r : Unit), gb_TC σ → True → Q σ r) : ∀ (σ : gb_S) (v1 : Int32) (v2 : Int32) (v3 : Int32) (v5 : Int32) (v6 : Int32), gb_TC σ → gb_iv 0 7 v1 → gb_iv 0 4 v2 → gb_iv (-2147483648) 2147483647 v3 → gb_iv (-2147483648) 2147483647 v5 → gb_iv (-2147483648) 2147483647 v6 → gb_tc (cs_Play_go_c117_46 n σ v1 v2 v3 v5 v6) Q := by
  intro σ v1 v2 v3 v5 v6 hT iv1 iv2 iv3 iv5 iv6
  unfold cs_Play_go_c117_46
  refine gc_ck iv1 (by decide) ?_
  refine gc_lti (lo := (-2147483648)) (hi := 2147483647) (gb_it _) (fun x_18 ex_18 ix_18 => ?_)
  refine gc_lti (lo := 0) (hi := 2147483647) (gb_imax (lo := 0) (hi := 2147483647) (gb_ic (a := 0) (by decide)) (gb_it _) (by decide)) (fun x_19 ex_19 ix_19 => ?_)
  refine gc_ck iv1 (by decide) ?_
  refine gc_ltT (gc_su0 hT (rfl : gc_cat 113 = 0)) (fun s_21 es_21 hTs_21 => ?_)
  refine gc_ck iv1 (by decide) ?_
  refine gc_lti (lo := (-2147483648)) (hi := 2147483647) (gb_it _) (fun x_23 ex_23 ix_23 => ?_)
  refine gc_ck iv1 (by decide) ?_
  refine gc_ltT (gc_su0 hTs_21 (rfl : gc_cat 114 = 0)) (fun s_25 es_25 hTs_25 => ?_)
  refine gc_ck iv1 (by decide) ?_
  refine gc_lti (lo := (-2147483648)) (hi := 2147483647) (gb_it _) (fun x_27 ex_27 ix_27 => ?_)
  refine gc_if (fun c_3159 => ?_) (fun c_3159 => ?_)
  · have j_3160 : gb_iv (-2147483648) 0 x_27 := (gb_rU (lo := (-2147483648)) (hi := 0) (gb_deq c_3159) (gb_it _) (gb_ic (a := 0) (by decide)) (by decide))
    have j_3161 : gb_iv 0 0 x_27 := (gb_rL (lo := 0) (hi := 0) (gb_deq2 c_3159) j_3160 (gb_ic (a := 0) (by decide)) (by decide))
    exact ct_Play_go_c117_95 hn hret _ _ _ _ _ _ hTs_25 iv1 iv2 (gb_it _) (gb_ic (a := 1) (by decide)) iv1
  · exact ct_Play_go_c117_95_i1 hn hret _ _ _ _ _ _ hTs_25 iv1 iv2 (gb_it _) (gb_ic (a := 0) (by decide)) iv1
set_option maxHeartbeats 4000000 in
theorem ct_Play_go_c117 {n : Nat} (hn : gb_N ≤ n) {σ : gb_S} {p1 : Int32} {p2 : Int32} {p3 : Int32} (hT : gb_TC σ) (ip1 : gb_iv 0 7 p1) (ip2 : gb_iv 0 4 p2) : gb_tc (cs_Play_go_c117 n σ p1 p2 p3) (fun s _ => gb_TC s ∧ True) := by
  unfold cs_Play_go_c117
  refine gc_kk (gc_q1 hT) ?_
  refine gc_cdP (ct_Border_miles_B hn hT (gc_q1 hT) ip2) (fun r_3 qr_3 h_3157 => ?_)
  refine gc_kk (gc_q1 hT) ?_
  refine gc_ck ip1 (by decide) ?_
  refine gc_lti (lo := (-2147483648)) (hi := 2147483647) (gb_it _) (fun x_8 ex_8 ix_8 => ?_)
  refine gc_cdP (ct_Border_marksOver_B hn hT (gc_q1 hT) ip1) (fun r_10 qr_10 h_3158 => ?_)
  refine gc_ck ip2 (by decide) ?_
  refine gc_lti (lo := (-2147483648)) (hi := 2147483647) (gb_it _) (fun x_14 ex_14 ix_14 => ?_)
  refine gc_ck ip2 (by decide) ?_
  refine gc_ltT (gc_su0 hT (rfl : gc_cat 117 = 0)) (fun s_16 es_16 hTs_16 => ?_)
  exact ct_Play_go_c117_46 hn (fun _ _ hT h => ⟨hT, h⟩) _ _ _ _ _ _ hTs_16 ip1 ip2 (gb_it _) (gb_it _) (gb_it _)
set_option maxHeartbeats 4000000 in
theorem ct_Play_rainDown_2 {n : Nat} (hn : gb_N ≤ n) {Q : gb_S → Unit → Prop} (hret : ∀ (σ : gb_S) (r : Unit), gb_TC σ → True → Q σ r) : ∀ (mm : Nat) (σ : gb_S) (v1 : Int32) (v2 : Int32), gb_TC σ → gb_iv (-2147483648) 2147483647 v1 → gb_iv 0 5 v2 → (5 - v2.toInt).toNat < mm → gb_tc (cs_Play_rainDown_2 n mm σ v1 v2) Q := by
  intro mm
  induction mm with
  | zero =>
    intro σ v1 v2 hT iv1 iv2 hm
    exact absurd hm (Nat.not_lt_zero _)
  | succ mm ih =>
    intro σ v1 v2 hT iv1 iv2 hm
    rw [cs_Play_rainDown_2]
    refine gc_kk (gc_q1 hT) ?_
    refine gc_cdP (ct_Border_paths_B hn hT (gc_q1 hT)) (fun r_3 qr_3 h_3266 => ?_)
    refine gc_if (fun c_3267 => ?_) (fun c_3267 => ?_)
    · exact gc_some (hret _ _ hT trivial)
    · have j_3268 : gb_iv 0 4 v2 := (gb_rU (lo := 0) (hi := 4) (gb_dnle c_3267) iv2 h_3266 (by decide))
      have j_3269 : gb_iv 1 5 r_3 := (gb_rL (lo := 1) (hi := 5) (gb_dnle c_3267) h_3266 j_3268 (by decide))
      refine gc_ck j_3268 (by decide) ?_
      refine gc_lti (lo := (-2147483648)) (hi := 2147483647) (gb_it _) (fun x_8 ex_8 ix_8 => ?_)
      refine gc_lti (lo := (-2147483648)) (hi := 2147483647) (gb_it _) (fun x_9 ex_9 ix_9 => ?_)
      refine gc_ck j_3268 (by decide) ?_
      refine gc_lti (lo := (-2147483648)) (hi := 2147483647) (gb_it _) (fun x_11 ex_11 ix_11 => ?_)
      refine gc_lti (lo := (-2147483648)) (hi := 2147483647) (gb_it _) (fun x_12 ex_12 ix_12 => ?_)
      refine gc_ck j_3268 (by decide) ?_
      refine gc_lti (lo := (-2147483648)) (hi := 2147483647) (gb_it _) (fun x_14 ex_14 ix_14 => ?_)
      refine gc_ck j_3268 (by decide) ?_
      refine gc_ltT (gc_su0 hT (rfl : gc_cat 116 = 0)) (fun s_16 es_16 hTs_16 => ?_)
      refine gc_ck j_3268 (by decide) ?_
      refine gc_lti (lo := (-2147483648)) (hi := 2147483647) (gb_it _) (fun x_18 ex_18 ix_18 => ?_)
      refine gc_ck j_3268 (by decide) ?_
      refine gc_ltT (gc_su0 hTs_16 (rfl : gc_cat 117 = 0)) (fun s_20 es_20 hTs_20 => ?_)
      refine gc_ck j_3268 (by decide) ?_
      refine gc_lti (lo := (-2147483648)) (hi := 2147483647) (gb_it _) (fun x_22 ex_22 ix_22 => ?_)
      refine gc_ck j_3268 (by decide) ?_
      refine gc_ltT (gc_su0 hTs_20 (rfl : gc_cat 118 = 0)) (fun s_24 es_24 hTs_24 => ?_)
      refine gc_lti (lo := 1) (hi := 5) (gb_iadd (lo := 1) (hi := 5) j_3268 (gb_ic (a := 1) (by decide)) (by decide)) (fun x_25 ex_25 ix_25 => ?_)
      exact ih _ _ _ hTs_24 (gb_it _) (gb_iw (lo := 0) (hi := 5) ix_25 (by decide)) (gb_mup ex_25 j_3268 (by decide) hm)
set_option maxHeartbeats 4000000 in
theorem ct_Play_rainDown {n : Nat} (hn : gb_N ≤ n) {σ : gb_S} {p1 : Int32} (hT : gb_TC σ) : gb_tc (cs_Play_rainDown n σ p1) (fun s _ => gb_TC s ∧ True) := by
  unfold cs_Play_rainDown
  exact ct_Play_rainDown_2 hn (fun _ _ hT h => ⟨hT, h⟩) n _ _ _ hT (gb_it _) (gb_iw (lo := 0) (hi := 5) (gb_ic (a := 0) (by decide)) (by decide)) (gb_fuu hn (gb_iw (lo := 0) (hi := 5) (gb_ic (a := 0) (by decide)) (by decide)) (by decide))
set_option maxHeartbeats 4000000 in
theorem ct_Play_eat {n : Nat} (hn : gb_N ≤ n) {σ : gb_S} {p1 : Int32} (hT : gb_TC σ) : gb_tc (cs_Play_eat n σ p1) (fun s _ => gb_TC s ∧ True) := by
  unfold cs_Play_eat
  refine gc_kk (gc_q1 hT) ?_
  refine gc_cdP (ct_Border_hasGoose_B hn hT (gc_q1 hT)) (fun r_3 qr_3 h_3275 => ?_)
  refine gc_if (fun c_3276 => ?_) (fun c_3276 => ?_)
  · have j_3277 : gb_iv 0 0 r_3 := (gb_rU (lo := 0) (hi := 0) (gb_deq c_3276) h_3275.1 (gb_ic (a := 0) (by decide)) (by decide))
    exact gc_some ⟨hT, trivial⟩
  · have j_3278 : gb_iv 1 1 r_3 := (gb_rN (lo := 1) (hi := 1) (v := 0) c_3276 h_3275.1 (by decide) (by decide))
    have j_3279 : gb_iv 0 7 p1 := (h_3275.2 c_3276)
    refine gc_ck j_3279 (by decide) ?_
    refine gc_ltT (gc_su0 hT (rfl : gc_cat 112 = 0)) (fun s_8 es_8 hTs_8 => ?_)
    exact gc_some ⟨hTs_8, trivial⟩
set_option maxHeartbeats 4000000 in
theorem ct_Play_tally {n : Nat} (hn : gb_N ≤ n) {σ : gb_S} {p1 : Int32} (hT : gb_TC σ) (ip1 : gb_iv 0 4 p1) : gb_tc (cs_Play_tally n σ p1) (fun s r => s = σ ∧ gb_iv 0 2147483647 r) := by
  unfold cs_Play_tally
  refine gc_ck ip1 (by decide) ?_
  refine gc_lti (lo := (-2147483648)) (hi := 2147483647) (gb_it _) (fun x_2 ex_2 ix_2 => ?_)
  refine gc_ck ip1 (by decide) ?_
  refine gc_lti (lo := (-2147483648)) (hi := 2147483647) (gb_it _) (fun x_4 ex_4 ix_4 => ?_)
  refine gc_lti (lo := 0) (hi := 2147483647) (gb_imax (lo := 0) (hi := 2147483647) (gb_ic (a := 0) (by decide)) (gb_it _) (by decide)) (fun x_5 ex_5 ix_5 => ?_)
  exact gc_some ⟨rfl, ix_5⟩
set_option maxHeartbeats 4000000 in
theorem ct_Play_whoIs_4 {n : Nat} (hn : gb_N ≤ n) {Q : gb_S → Int32 → Prop} {σ : gb_S} (hT : gb_TC σ) (hret : ∀ (r : Int32), gb_iv 0 255 r → Q σ r) : ∀ (mm : Nat) (v1 : Int32) (v2 : Int32) (v3 : Int32), gb_iv (-2147483648) 2147483647 v1 → gb_iv 0 255 v2 → gb_iv 0 8 v3 → (8 - v3.toInt).toNat < mm → gb_tc (cs_Play_whoIs_4 n mm σ v1 v2 v3) Q := by
  intro mm
  induction mm with
  | zero =>
    intro v1 v2 v3 iv1 iv2 iv3 hm
    exact absurd hm (Nat.not_lt_zero _)
  | succ mm ih =>
    intro v1 v2 v3 iv1 iv2 iv3 hm
    rw [cs_Play_whoIs_4]
    refine gc_kk (gc_q1 hT) ?_
    refine gc_cdP (ct_Border_geese_B hn hT (gc_q1 hT)) (fun r_3 qr_3 h_3430 => ?_)
    refine gc_if (fun c_3431 => ?_) (fun c_3431 => ?_)
    · exact gc_some (hret _ iv2)
    · have j_3432 : gb_iv 0 7 v3 := (gb_rU (lo := 0) (hi := 7) (gb_dnle c_3431) iv3 h_3430 (by decide))
      have j_3433 : gb_iv 1 8 r_3 := (gb_rL (lo := 1) (hi := 8) (gb_dnle c_3431) h_3430 j_3432 (by decide))
      refine gc_ck j_3432 (by decide) ?_
      refine gc_lti (lo := (-2147483648)) (hi := 2147483647) (gb_it _) (fun x_8 ex_8 ix_8 => ?_)
      refine gc_if (fun c_3434 => ?_) (fun c_3434 => ?_)
      · refine gc_lti (lo := 0) (hi := 255) (gb_ior iv2 (gb_iw (lo := 0) (hi := 255) (gb_ishl (lo := 1) (hi := 128) j_3432 (by decide)) (by decide))) (fun x_11 ex_11 ix_11 => ?_)
        refine gc_lti (lo := 1) (hi := 8) (gb_iadd (lo := 1) (hi := 8) j_3432 (gb_ic (a := 1) (by decide)) (by decide)) (fun x_12 ex_12 ix_12 => ?_)
        exact ih _ _ _ (gb_it _) ix_11 (gb_iw (lo := 0) (hi := 8) ix_12 (by decide)) (gb_mup ex_12 j_3432 (by decide) hm)
      · refine gc_lti (lo := 1) (hi := 8) (gb_iadd (lo := 1) (hi := 8) j_3432 (gb_ic (a := 1) (by decide)) (by decide)) (fun x_10 ex_10 ix_10 => ?_)
        exact ih _ _ _ (gb_it _) iv2 (gb_iw (lo := 0) (hi := 8) ix_10 (by decide)) (gb_mup ex_10 j_3432 (by decide) hm)
set_option maxHeartbeats 4000000 in
theorem ct_Play_whoIs {n : Nat} (hn : gb_N ≤ n) {σ : gb_S} {p1 : Int32} (hT : gb_TC σ) : gb_tc (cs_Play_whoIs n σ p1) (fun s r => s = σ ∧ gb_iv 0 255 r) := by
  unfold cs_Play_whoIs
  exact ct_Play_whoIs_4 hn hT (fun _ h => ⟨rfl, h⟩) n _ _ _ (gb_it _) (gb_iw (lo := 0) (hi := 255) (gb_ic (a := 0) (by decide)) (by decide)) (gb_iw (lo := 0) (hi := 8) (gb_ic (a := 0) (by decide)) (by decide)) (gb_fuu hn (gb_iw (lo := 0) (hi := 8) (gb_ic (a := 0) (by decide)) (by decide)) (by decide))
set_option maxHeartbeats 4000000 in
theorem ct_Play_worn_43 {n : Nat} (hn : gb_N ≤ n) {Q : gb_S → Int32 → Prop} {σ : gb_S} (hT : gb_TC σ) {k4 : gb_S → Int32 → Int32 → gb_CR Int32} {M4 : Nat} (hk4 : ∀ (v1 : Int32) (v2 : Int32), gb_iv 0 255 v1 → gb_iv 0 8 v2 → (8 - v2.toInt).toNat < M4 → gb_tc (k4 σ v1 v2) Q) (hret : ∀ (r : Int32), gb_iv 0 255 r → Q σ r) : ∀ (v1 : Int32) (v2 : Int32) (t0 : Int32), gb_iv 0 255 v1 → gb_iv 0 7 v2 → gb_iv 1 1 t0 → (8 - v2.toInt).toNat < M4 + 1 → gb_tc (cs_Play_worn_43 n k4 σ v1 v2 t0) Q := by
  intro v1 v2 t0 iv1 iv2 it0 hm4
  unfold cs_Play_worn_43
  refine gc_if (fun c_4042 => ?_) (fun c_4042 => ?_)
  · exact (gb_em (gb_rU (lo := 1) (hi := 0) (gb_deq c_4042) it0 (gb_ic (a := 0) (by decide)) (by decide)) (by decide)).elim
  · refine gc_ck iv2 (by decide) ?_
    refine gc_lti (lo := (-2147483648)) (hi := 2147483647) (gb_it _) (fun x_16 ex_16 ix_16 => ?_)
    refine gc_if (fun c_4043 => ?_) (fun c_4043 => ?_)
    · have j_4044 : gb_iv (-2147483648) 0 x_16 := (gb_rU (lo := (-2147483648)) (hi := 0) (gb_deq c_4043) (gb_it _) (gb_ic (a := 0) (by decide)) (by decide))
      have j_4045 : gb_iv 0 0 x_16 := (gb_rL (lo := 0) (hi := 0) (gb_deq2 c_4043) j_4044 (gb_ic (a := 0) (by decide)) (by decide))
      refine gc_lti (lo := 0) (hi := 255) (gb_ior iv1 (gb_iw (lo := 0) (hi := 255) (gb_ishl (lo := 1) (hi := 128) iv2 (by decide)) (by decide))) (fun x_19 ex_19 ix_19 => ?_)
      refine gc_lti (lo := 1) (hi := 8) (gb_iadd (lo := 1) (hi := 8) iv2 (gb_ic (a := 1) (by decide)) (by decide)) (fun x_20 ex_20 ix_20 => ?_)
      exact hk4 _ _ ix_19 (gb_iw (lo := 0) (hi := 8) ix_20 (by decide)) (gb_mup ex_20 iv2 (by decide) hm4)
    · refine gc_lti (lo := 1) (hi := 8) (gb_iadd (lo := 1) (hi := 8) iv2 (gb_ic (a := 1) (by decide)) (by decide)) (fun x_18 ex_18 ix_18 => ?_)
      exact hk4 _ _ iv1 (gb_iw (lo := 0) (hi := 8) ix_18 (by decide)) (gb_mup ex_18 iv2 (by decide) hm4)
set_option maxHeartbeats 4000000 in
theorem ct_Play_worn_38 {n : Nat} (hn : gb_N ≤ n) {Q : gb_S → Int32 → Prop} {σ : gb_S} (hT : gb_TC σ) {k4 : gb_S → Int32 → Int32 → gb_CR Int32} {M4 : Nat} (hk4 : ∀ (v1 : Int32) (v2 : Int32), gb_iv 0 255 v1 → gb_iv 0 8 v2 → (8 - v2.toInt).toNat < M4 → gb_tc (k4 σ v1 v2) Q) (hret : ∀ (r : Int32), gb_iv 0 255 r → Q σ r) : ∀ (v1 : Int32) (v2 : Int32), gb_iv 0 255 v1 → gb_iv 0 7 v2 → (8 - v2.toInt).toNat < M4 + 1 → gb_tc (cs_Play_worn_38 n k4 σ v1 v2) Q := by
  intro v1 v2 iv1 iv2 hm4
  unfold cs_Play_worn_38
  exact ct_Play_worn_43 hn hT hk4 hret _ _ _ iv1 iv2 (gb_ic (a := 1) (by decide)) hm4
set_option maxHeartbeats 4000000 in
theorem ct_Play_worn_43_i1 {n : Nat} (hn : gb_N ≤ n) {Q : gb_S → Int32 → Prop} {σ : gb_S} (hT : gb_TC σ) {k4 : gb_S → Int32 → Int32 → gb_CR Int32} {M4 : Nat} (hk4 : ∀ (v1 : Int32) (v2 : Int32), gb_iv 0 255 v1 → gb_iv 0 8 v2 → (8 - v2.toInt).toNat < M4 → gb_tc (k4 σ v1 v2) Q) (hret : ∀ (r : Int32), gb_iv 0 255 r → Q σ r) : ∀ (v1 : Int32) (v2 : Int32) (t0 : Int32), gb_iv 0 255 v1 → gb_iv 0 7 v2 → gb_iv 0 0 t0 → (8 - v2.toInt).toNat < M4 + 1 → gb_tc (cs_Play_worn_43 n k4 σ v1 v2 t0) Q := by
  intro v1 v2 t0 iv1 iv2 it0 hm4
  unfold cs_Play_worn_43
  refine gc_if (fun c_4050 => ?_) (fun c_4050 => ?_)
  · refine gc_lti (lo := 1) (hi := 8) (gb_iadd (lo := 1) (hi := 8) iv2 (gb_ic (a := 1) (by decide)) (by decide)) (fun x_14 ex_14 ix_14 => ?_)
    exact hk4 _ _ iv1 (gb_iw (lo := 0) (hi := 8) ix_14 (by decide)) (gb_mup ex_14 iv2 (by decide) hm4)
  · exact (gb_em (gb_rN (lo := 1) (hi := (-1)) (v := 0) c_4050 it0 (by decide) (by decide)) (by decide)).elim
set_option maxHeartbeats 4000000 in
theorem ct_Play_worn_4 {n : Nat} (hn : gb_N ≤ n) {Q : gb_S → Int32 → Prop} {σ : gb_S} (hT : gb_TC σ) (hret : ∀ (r : Int32), gb_iv 0 255 r → Q σ r) : ∀ (mm : Nat) (v1 : Int32) (v2 : Int32), gb_iv 0 255 v1 → gb_iv 0 8 v2 → (8 - v2.toInt).toNat < mm → gb_tc (cs_Play_worn_4 n mm σ v1 v2) Q := by
  intro mm
  induction mm with
  | zero =>
    intro v1 v2 iv1 iv2 hm
    exact absurd hm (Nat.not_lt_zero _)
  | succ mm ih =>
    intro v1 v2 iv1 iv2 hm
    rw [cs_Play_worn_4]
    refine gc_kk (gc_q1 hT) ?_
    refine gc_cdP (ct_Border_geese_B hn hT (gc_q1 hT)) (fun r_3 qr_3 h_4035 => ?_)
    refine gc_if (fun c_4036 => ?_) (fun c_4036 => ?_)
    · exact gc_some (hret _ iv1)
    · have j_4037 : gb_iv 0 7 v2 := (gb_rU (lo := 0) (hi := 7) (gb_dnle c_4036) iv2 h_4035 (by decide))
      have j_4038 : gb_iv 1 8 r_3 := (gb_rL (lo := 1) (hi := 8) (gb_dnle c_4036) h_4035 j_4037 (by decide))
      refine gc_kk (gc_q1 hT) ?_
      refine gc_cdP (ct_Border_boots_B hn hT (gc_q1 hT) j_4037) (fun r_9 qr_9 h_4039 => ?_)
      refine gc_if (fun c_4040 => ?_) (fun c_4040 => ?_)
      · have j_4041 : gb_iv 1 2147483647 r_9 := (gb_rL (lo := 1) (hi := 2147483647) (gb_dlt c_4040) (gb_it _) (gb_ic (a := 0) (by decide)) (by decide))
        exact ct_Play_worn_38 hn hT ih hret _ _ iv1 j_4037 hm
      · have j_4046 : gb_iv (-2147483648) 0 r_9 := (gb_rU (lo := (-2147483648)) (hi := 0) (gb_dnlt c_4040) (gb_it _) (gb_ic (a := 0) (by decide)) (by decide))
        refine gc_if (fun c_4047 => ?_) (fun c_4047 => ?_)
        · have j_4048 : gb_iv 1 1 (((σ.1 109 9) >>> (v2 &&& 31)) &&& 1) := (gb_rL (lo := 1) (hi := 1) (gb_deq2 c_4047) (gb_iandr (lo := 0) (hi := 1) (gb_iw (lo := 0) (hi := 1) (gb_ic (a := 1) (by decide)) (by decide)) (by decide)) (gb_ic (a := 1) (by decide)) (by decide))
          exact ct_Play_worn_38 hn hT ih hret _ _ iv1 j_4037 hm
        · have j_4049 : gb_iv 0 0 (((σ.1 109 9) >>> (v2 &&& 31)) &&& 1) := (gb_rN (lo := 0) (hi := 0) (v := 1) c_4047 (gb_iandr (lo := 0) (hi := 1) (gb_iw (lo := 0) (hi := 1) (gb_ic (a := 1) (by decide)) (by decide)) (by decide)) (by decide) (by decide))
          exact ct_Play_worn_43_i1 hn hT ih hret _ _ _ iv1 j_4037 (gb_ic (a := 0) (by decide)) hm
set_option maxHeartbeats 4000000 in
theorem ct_Play_worn {n : Nat} (hn : gb_N ≤ n) {σ : gb_S} (hT : gb_TC σ) : gb_tc (cs_Play_worn n σ) (fun s r => s = σ ∧ gb_iv 0 255 r) := by
  unfold cs_Play_worn
  exact ct_Play_worn_4 hn hT (fun _ h => ⟨rfl, h⟩) n _ _ (gb_iw (lo := 0) (hi := 255) (gb_ic (a := 0) (by decide)) (by decide)) (gb_iw (lo := 0) (hi := 8) (gb_ic (a := 0) (by decide)) (by decide)) (gb_fuu hn (gb_iw (lo := 0) (hi := 8) (gb_ic (a := 0) (by decide)) (by decide)) (by decide))
set_option maxHeartbeats 4000000 in
theorem ct_Play_payTold_14 {n : Nat} (hn : gb_N ≤ n) {Q : gb_S → Int32 → Prop} {σ : gb_S} (hT : gb_TC σ) (hret : ∀ (r : Int32), gb_iv (-2147483648) 2147483647 r → Q σ r) : ∀ (v2 : Int32) (t0 : Int32), gb_iv 0 4 v2 → gb_iv 1 1 t0 → gb_tc (cs_Play_payTold_14 n σ v2 t0) Q := by
  intro v2 t0 iv2 it0
  unfold cs_Play_payTold_14
  refine gc_kk (gc_q1 hT) ?_
  refine gc_cdP (ct_Border_rate_B hn hT (gc_q1 hT) iv2) (fun r_4 qr_4 h_4063 => ?_)
  refine gc_if (fun c_4064 => ?_) (fun c_4064 => ?_)
  · exact (gb_em (gb_rU (lo := 1) (hi := 0) (gb_deq c_4064) it0 (gb_ic (a := 0) (by decide)) (by decide)) (by decide)).elim
  · refine gc_kk (gc_q1 hT) ?_
    refine gc_cdP (ct_Play_tally hn hT iv2) (fun r_14 qr_14 h_4065 => ?_)
    refine gc_cdP (ct_Border_padded_B hn hT (gc_q1 hT) iv2) (fun r_18 qr_18 h_4066 => ?_)
    exact gc_some (hret _ (gb_it _))
set_option maxHeartbeats 4000000 in
theorem ct_Play_payTold_14_i1 {n : Nat} (hn : gb_N ≤ n) {Q : gb_S → Int32 → Prop} {σ : gb_S} (hT : gb_TC σ) (hret : ∀ (r : Int32), gb_iv (-2147483648) 2147483647 r → Q σ r) : ∀ (v2 : Int32) (t0 : Int32), gb_iv 0 4 v2 → gb_iv 0 0 t0 → gb_tc (cs_Play_payTold_14 n σ v2 t0) Q := by
  intro v2 t0 iv2 it0
  unfold cs_Play_payTold_14
  refine gc_kk (gc_q1 hT) ?_
  refine gc_cdP (ct_Border_rate_B hn hT (gc_q1 hT) iv2) (fun r_4 qr_4 h_4068 => ?_)
  refine gc_if (fun c_4069 => ?_) (fun c_4069 => ?_)
  · refine gc_cdP (ct_Play_tally hn hT iv2) (fun r_9 qr_9 h_4070 => ?_)
    exact gc_some (hret _ (gb_it _))
  · exact (gb_em (gb_rN (lo := 1) (hi := (-1)) (v := 0) c_4069 it0 (by decide) (by decide)) (by decide)).elim
set_option maxHeartbeats 4000000 in
theorem ct_Play_payTold {n : Nat} (hn : gb_N ≤ n) {σ : gb_S} {p1 : Int32} {p2 : Int32} (hT : gb_TC σ) (ip2 : gb_iv 0 4 p2) : gb_tc (cs_Play_payTold n σ p1 p2) (fun s r => s = σ ∧ gb_iv (-2147483648) 2147483647 r) := by
  unfold cs_Play_payTold
  refine gc_if (fun c_4061 => ?_) (fun c_4061 => ?_)
  · have j_4062 : gb_iv 1 1 ((p1 >>> (p2 &&& 31)) &&& 1) := (gb_rL (lo := 1) (hi := 1) (gb_deq2 c_4061) (gb_iandr (lo := 0) (hi := 1) (gb_iw (lo := 0) (hi := 1) (gb_ic (a := 1) (by decide)) (by decide)) (by decide)) (gb_ic (a := 1) (by decide)) (by decide))
    exact ct_Play_payTold_14 hn hT (fun _ h => ⟨rfl, h⟩) _ _ ip2 (gb_ic (a := 1) (by decide))
  · have j_4067 : gb_iv 0 0 ((p1 >>> (p2 &&& 31)) &&& 1) := (gb_rN (lo := 0) (hi := 0) (v := 1) c_4061 (gb_iandr (lo := 0) (hi := 1) (gb_iw (lo := 0) (hi := 1) (gb_ic (a := 1) (by decide)) (by decide)) (by decide)) (by decide) (by decide))
    exact ct_Play_payTold_14_i1 hn hT (fun _ h => ⟨rfl, h⟩) _ _ ip2 (gb_ic (a := 0) (by decide))
set_option maxHeartbeats 4000000 in
theorem ct_Play_payBy_4 {n : Nat} (hn : gb_N ≤ n) {Q : gb_S → Int32 → Prop} {σ : gb_S} (hT : gb_TC σ) (hret : ∀ (r : Int32), gb_iv (-2147483648) 2147483647 r → Q σ r) : ∀ (mm : Nat) (v1 : Int32) (v2 : Int32) (v3 : Int32), gb_iv (-2147483648) 2147483647 v1 → gb_iv (-2147483648) 2147483647 v2 → gb_iv 0 5 v3 → (5 - v3.toInt).toNat < mm → gb_tc (cs_Play_payBy_4 n mm σ v1 v2 v3) Q := by
  intro mm
  induction mm with
  | zero =>
    intro v1 v2 v3 iv1 iv2 iv3 hm
    exact absurd hm (Nat.not_lt_zero _)
  | succ mm ih =>
    intro v1 v2 v3 iv1 iv2 iv3 hm
    rw [cs_Play_payBy_4]
    refine gc_kk (gc_q1 hT) ?_
    refine gc_cdP (ct_Border_paths_B hn hT (gc_q1 hT)) (fun r_3 qr_3 h_4201 => ?_)
    refine gc_if (fun c_4202 => ?_) (fun c_4202 => ?_)
    · exact gc_some (hret _ (gb_it _))
    · have j_4203 : gb_iv 0 4 v3 := (gb_rU (lo := 0) (hi := 4) (gb_dnle c_4202) iv3 h_4201 (by decide))
      have j_4204 : gb_iv 1 5 r_3 := (gb_rL (lo := 1) (hi := 5) (gb_dnle c_4202) h_4201 j_4203 (by decide))
      refine gc_cdP (ct_Play_payTold hn hT j_4203) (fun r_8 qr_8 h_4205 => ?_)
      refine gc_lti (lo := (-2147483648)) (hi := 2147483647) (gb_it _) (fun x_11 ex_11 ix_11 => ?_)
      refine gc_lti (lo := 1) (hi := 5) (gb_iadd (lo := 1) (hi := 5) j_4203 (gb_ic (a := 1) (by decide)) (by decide)) (fun x_12 ex_12 ix_12 => ?_)
      exact ih _ _ _ (gb_it _) (gb_it _) (gb_iw (lo := 0) (hi := 5) ix_12 (by decide)) (gb_mup ex_12 j_4203 (by decide) hm)
set_option maxHeartbeats 4000000 in
theorem ct_Play_payBy {n : Nat} (hn : gb_N ≤ n) {σ : gb_S} {p1 : Int32} (hT : gb_TC σ) : gb_tc (cs_Play_payBy n σ p1) (fun s r => s = σ ∧ gb_iv (-2147483648) 2147483647 r) := by
  unfold cs_Play_payBy
  exact ct_Play_payBy_4 hn hT (fun _ h => ⟨rfl, h⟩) n _ _ _ (gb_it _) (gb_iw (lo := (-2147483648)) (hi := 2147483647) (gb_ic (a := 0) (by decide)) (by decide)) (gb_iw (lo := 0) (hi := 5) (gb_ic (a := 0) (by decide)) (by decide)) (gb_fuu hn (gb_iw (lo := 0) (hi := 5) (gb_ic (a := 0) (by decide)) (by decide)) (by decide))
set_option maxHeartbeats 4000000 in
theorem ct_Play_allPay {n : Nat} (hn : gb_N ≤ n) {σ : gb_S} (hT : gb_TC σ) : gb_tc (cs_Play_allPay n σ) (fun s r => s = σ ∧ gb_iv (-2147483648) 2147483647 r) := by
  unfold cs_Play_allPay
  refine gc_kk (gc_q1 hT) ?_
  refine gc_cdP (ct_Border_paths_B hn hT (gc_q1 hT)) (fun r_3 qr_3 h_4208 => ?_)
  refine gc_cdP (ct_Play_payBy hn hT) (fun r_7 qr_7 h_4209 => ?_)
  exact gc_some ⟨rfl, (gb_it _)⟩
set_option maxHeartbeats 4000000 in
theorem ct_Play_taken_14 {n : Nat} (hn : gb_N ≤ n) {Q : gb_S → Int32 → Prop} {σ : gb_S} (hT : gb_TC σ) (hret : ∀ (r : Int32), gb_iv (-2147483648) 2147483647 r → Q σ r) : ∀ (v1 : Int32) (v2 : Int32) (t0 : Int32), gb_iv (-2147483648) 2147483647 v1 → gb_iv 0 4 v2 → gb_iv 1 1 t0 → gb_tc (cs_Play_taken_14 n σ v1 v2 t0) Q := by
  intro v1 v2 t0 iv1 iv2 it0
  unfold cs_Play_taken_14
  refine gc_if (fun c_4232 => ?_) (fun c_4232 => ?_)
  · exact (gb_em (gb_rU (lo := 1) (hi := 0) (gb_deq c_4232) it0 (gb_ic (a := 0) (by decide)) (by decide)) (by decide)).elim
  · refine gc_kk (gc_q1 hT) ?_
    refine gc_cdP (ct_Border_cap_B hn hT (gc_q1 hT)) (fun r_10 qr_10 h_4233 => ?_)
    refine gc_if (fun c_4234 => ?_) (fun c_4234 => ?_)
    · have j_4235 : gb_iv (-2147483648) (-1) r_10 := (gb_rU (lo := (-2147483648)) (hi := (-1)) (gb_deq c_4234) (gb_it _) (gb_ic (a := (-1)) (by decide)) (by decide))
      have j_4236 : gb_iv (-1) (-1) r_10 := (gb_rL (lo := (-1)) (hi := (-1)) (gb_deq2 c_4234) j_4235 (gb_ic (a := (-1)) (by decide)) (by decide))
      refine gc_if (fun c_4237 => ?_) (fun c_4237 => ?_)
      · refine gc_cdP (ct_Play_payTold hn hT iv2) (fun r_16 qr_16 h_4238 => ?_)
        exact gc_some (hret _ (gb_it _))
      · exact gc_some (hret _ (gb_iw (lo := (-2147483648)) (hi := 2147483647) (gb_ic (a := 0) (by decide)) (by decide)))
    · refine gc_cdP (ct_Play_payBy hn hT) (fun r_20 qr_20 h_4239 => ?_)
      refine gc_kk (gc_q1 hT) ?_
      refine gc_cdE qr_10 ?_
      refine gc_if (fun c_4240 => ?_) (fun c_4240 => ?_)
      · refine gc_if (fun c_4241 => ?_) (fun c_4241 => ?_)
        · refine gc_cdP (ct_Play_payTold hn hT iv2) (fun r_31 qr_31 h_4242 => ?_)
          exact gc_some (hret _ (gb_it _))
        · exact gc_some (hret _ (gb_iw (lo := (-2147483648)) (hi := 2147483647) (gb_ic (a := 0) (by decide)) (by decide)))
      · have j_4243 : gb_iv (-2147483648) 2147483646 r_10 := (gb_rU (lo := (-2147483648)) (hi := 2147483646) (gb_dnle c_4240) (gb_it _) (gb_it _) (by decide))
        have j_4244 : gb_iv (-2147483647) 2147483647 r_20 := (gb_rL (lo := (-2147483647)) (hi := 2147483647) (gb_dnle c_4240) (gb_it _) j_4243 (by decide))
        refine gc_if (fun c_4245 => ?_) (fun c_4245 => ?_)
        · exact absurd c_4245 (by decide)
        · exact gc_some (hret _ (gb_iw (lo := (-2147483648)) (hi := 2147483647) (gb_ic (a := 0) (by decide)) (by decide)))
set_option maxHeartbeats 4000000 in
theorem ct_Play_taken_14_i1 {n : Nat} (hn : gb_N ≤ n) {Q : gb_S → Int32 → Prop} {σ : gb_S} (hT : gb_TC σ) (hret : ∀ (r : Int32), gb_iv (-2147483648) 2147483647 r → Q σ r) : ∀ (v1 : Int32) (v2 : Int32) (t0 : Int32), gb_iv (-2147483648) 2147483647 v1 → gb_iv 0 4 v2 → gb_iv 0 0 t0 → gb_tc (cs_Play_taken_14 n σ v1 v2 t0) Q := by
  intro v1 v2 t0 iv1 iv2 it0
  unfold cs_Play_taken_14
  refine gc_if (fun c_4247 => ?_) (fun c_4247 => ?_)
  · refine gc_if (fun c_4248 => ?_) (fun c_4248 => ?_)
    · refine gc_cdP (ct_Play_payTold hn hT iv2) (fun r_5 qr_5 h_4249 => ?_)
      exact gc_some (hret _ (gb_it _))
    · exact gc_some (hret _ (gb_iw (lo := (-2147483648)) (hi := 2147483647) (gb_ic (a := 0) (by decide)) (by decide)))
  · exact (gb_em (gb_rN (lo := 1) (hi := (-1)) (v := 0) c_4247 it0 (by decide) (by decide)) (by decide)).elim
set_option maxHeartbeats 4000000 in
theorem ct_Play_taken {n : Nat} (hn : gb_N ≤ n) {σ : gb_S} {p1 : Int32} {p2 : Int32} (hT : gb_TC σ) (ip2 : gb_iv 0 4 p2) : gb_tc (cs_Play_taken n σ p1 p2) (fun s r => s = σ ∧ gb_iv (-2147483648) 2147483647 r) := by
  unfold cs_Play_taken
  refine gc_if (fun c_4230 => ?_) (fun c_4230 => ?_)
  · have j_4231 : gb_iv 1 1 ((p1 >>> (p2 &&& 31)) &&& 1) := (gb_rL (lo := 1) (hi := 1) (gb_deq2 c_4230) (gb_iandr (lo := 0) (hi := 1) (gb_iw (lo := 0) (hi := 1) (gb_ic (a := 1) (by decide)) (by decide)) (by decide)) (gb_ic (a := 1) (by decide)) (by decide))
    exact ct_Play_taken_14 hn hT (fun _ h => ⟨rfl, h⟩) _ _ _ (gb_it _) ip2 (gb_ic (a := 1) (by decide))
  · have j_4246 : gb_iv 0 0 ((p1 >>> (p2 &&& 31)) &&& 1) := (gb_rN (lo := 0) (hi := 0) (v := 1) c_4230 (gb_iandr (lo := 0) (hi := 1) (gb_iw (lo := 0) (hi := 1) (gb_ic (a := 1) (by decide)) (by decide)) (by decide)) (by decide) (by decide))
    exact ct_Play_taken_14_i1 hn hT (fun _ h => ⟨rfl, h⟩) _ _ _ (gb_it _) ip2 (gb_ic (a := 0) (by decide))
set_option maxHeartbeats 4000000 in
theorem ct_Play_isAtRest_2 {n : Nat} (hn : gb_N ≤ n) {Q : gb_S → Int32 → Prop} {σ : gb_S} (hT : gb_TC σ) (hret : ∀ (r : Int32), gb_iv 0 1 r → Q σ r) : ∀ (mm : Nat) (v1 : Int32) (v2 : Int32), gb_iv (-2147483648) 2147483647 v1 → gb_iv 0 5 v2 → (5 - v2.toInt).toNat < mm → gb_tc (cs_Play_isAtRest_2 n mm σ v1 v2) Q := by
  intro mm
  induction mm with
  | zero =>
    intro v1 v2 iv1 iv2 hm
    exact absurd hm (Nat.not_lt_zero _)
  | succ mm ih =>
    intro v1 v2 iv1 iv2 hm
    rw [cs_Play_isAtRest_2]
    refine gc_kk (gc_q1 hT) ?_
    refine gc_cdP (ct_Border_paths_B hn hT (gc_q1 hT)) (fun r_3 qr_3 h_4484 => ?_)
    refine gc_if (fun c_4485 => ?_) (fun c_4485 => ?_)
    · exact gc_some (hret _ (gb_iw (lo := 0) (hi := 1) (gb_ic (a := 1) (by decide)) (by decide)))
    · have j_4486 : gb_iv 0 4 v2 := (gb_rU (lo := 0) (hi := 4) (gb_dnle c_4485) iv2 h_4484 (by decide))
      have j_4487 : gb_iv 1 5 r_3 := (gb_rL (lo := 1) (hi := 5) (gb_dnle c_4485) h_4484 j_4486 (by decide))
      refine gc_cdP (ct_Play_taken hn hT j_4486) (fun r_8 qr_8 h_4488 => ?_)
      refine gc_cdP (ct_Play_taken hn hT j_4486) (fun r_12 qr_12 h_4489 => ?_)
      refine gc_if (fun c_4490 => ?_) (fun c_4490 => ?_)
      · refine gc_lti (lo := 1) (hi := 5) (gb_iadd (lo := 1) (hi := 5) j_4486 (gb_ic (a := 1) (by decide)) (by decide)) (fun x_16 ex_16 ix_16 => ?_)
        exact ih _ _ (gb_it _) (gb_iw (lo := 0) (hi := 5) ix_16 (by decide)) (gb_mup ex_16 j_4486 (by decide) hm)
      · have j_4491 : gb_iv (-2147483648) 2147483646 r_12 := (gb_rU (lo := (-2147483648)) (hi := 2147483646) (gb_dnle c_4490) (gb_it _) (gb_it _) (by decide))
        have j_4492 : gb_iv (-2147483647) 2147483647 r_8 := (gb_rL (lo := (-2147483647)) (hi := 2147483647) (gb_dnle c_4490) (gb_it _) j_4491 (by decide))
        exact gc_some (hret _ (gb_iw (lo := 0) (hi := 1) (gb_ic (a := 0) (by decide)) (by decide)))
set_option maxHeartbeats 4000000 in
theorem ct_Play_isAtRest {n : Nat} (hn : gb_N ≤ n) {σ : gb_S} {p1 : Int32} (hT : gb_TC σ) : gb_tc (cs_Play_isAtRest n σ p1) (fun s r => s = σ ∧ gb_iv 0 1 r) := by
  unfold cs_Play_isAtRest
  exact ct_Play_isAtRest_2 hn hT (fun _ h => ⟨rfl, h⟩) n _ _ (gb_it _) (gb_iw (lo := 0) (hi := 5) (gb_ic (a := 0) (by decide)) (by decide)) (gb_fuu hn (gb_iw (lo := 0) (hi := 5) (gb_ic (a := 0) (by decide)) (by decide)) (by decide))
set_option maxHeartbeats 4000000 in
theorem ct_Dawn_marksSeen_D {n : Nat} (hn : gb_N ≤ n) {σ : gb_S} {k0 : Nat} {p1 : Int32} (hT : gb_TC σ) (hk0 : gb_kD k0 = true) (ip1 : gb_iv 0 4 p1) : gb_tc (cs_Dawn_marksSeen_D n σ k0 p1) (fun s r => s = σ ∧ gb_iv (-2147483648) 2147483647 r) := by
  unfold cs_Dawn_marksSeen_D
  refine gc_kk hk0 ?_
  refine gc_cdP (ct_Lines_cell_D hn hT hk0 ip1 (gb_iw (lo := 0) (hi := 2) (gb_ic (a := 2) (by decide)) (by decide))) (fun r_3 qr_3 h_4494 => ?_)
  exact gc_some ⟨rfl, (gb_it _)⟩
set_option maxHeartbeats 4000000 in
theorem ct_Dawn_leftOn_D_2 {n : Nat} (hn : gb_N ≤ n) {Q : gb_S → Int32 → Prop} {σ : gb_S} (hT : gb_TC σ) (hret : ∀ (r : Int32), gb_iv (-2147483648) 2147483647 r → Q σ r) : ∀ (mm : Nat) (v0 : Nat) (v1 : Int32) (v2 : Int32), gb_kD v0 = true → gb_iv (-2147483648) 2147483647 v1 → gb_iv 0 5 v2 → (5 - v2.toInt).toNat < mm → gb_tc (cs_Dawn_leftOn_D_2 n mm σ v0 v1 v2) Q := by
  intro mm
  induction mm with
  | zero =>
    intro v0 v1 v2 hv0 iv1 iv2 hm
    exact absurd hm (Nat.not_lt_zero _)
  | succ mm ih =>
    intro v0 v1 v2 hv0 iv1 iv2 hm
    rw [cs_Dawn_leftOn_D_2]
    refine gc_kk hv0 ?_
    refine gc_cdP (ct_Lines_size_D hn hT hv0) (fun r_4 qr_4 h_4677 => ?_)
    refine gc_if (fun c_4678 => ?_) (fun c_4678 => ?_)
    · exact gc_some (hret _ (gb_iw (lo := (-2147483648)) (hi := 2147483647) (gb_ic (a := 0) (by decide)) (by decide)))
    · have j_4679 : gb_iv 0 4 v2 := (gb_rU (lo := 0) (hi := 4) (gb_dnle c_4678) iv2 h_4677 (by decide))
      have j_4680 : gb_iv 1 5 r_4 := (gb_rL (lo := 1) (hi := 5) (gb_dnle c_4678) h_4677 j_4679 (by decide))
      refine gc_cdP (ct_Dawn_pathSeen_D hn hT hv0 j_4679) (fun r_9 qr_9 h_4681 => ?_)
      refine gc_if (fun c_4682 => ?_) (fun c_4682 => ?_)
      · refine gc_cdP (ct_Dawn_marksSeen_D hn hT hv0 j_4679) (fun r_15 qr_15 h_4683 => ?_)
        exact gc_some (hret _ (gb_it _))
      · refine gc_lti (lo := 1) (hi := 5) (gb_iadd (lo := 1) (hi := 5) j_4679 (gb_ic (a := 1) (by decide)) (by decide)) (fun x_13 ex_13 ix_13 => ?_)
        exact ih _ _ _ hv0 (gb_it _) (gb_iw (lo := 0) (hi := 5) ix_13 (by decide)) (gb_mup ex_13 j_4679 (by decide) hm)
set_option maxHeartbeats 4000000 in
theorem ct_Dawn_leftOn_D {n : Nat} (hn : gb_N ≤ n) {σ : gb_S} {k0 : Nat} {p1 : Int32} (hT : gb_TC σ) (hk0 : gb_kD k0 = true) : gb_tc (cs_Dawn_leftOn_D n σ k0 p1) (fun s r => s = σ ∧ gb_iv (-2147483648) 2147483647 r) := by
  unfold cs_Dawn_leftOn_D
  refine gc_kk hk0 ?_
  exact ct_Dawn_leftOn_D_2 hn hT (fun _ h => ⟨rfl, h⟩) n _ _ _ hk0 (gb_it _) (gb_iw (lo := 0) (hi := 5) (gb_ic (a := 0) (by decide)) (by decide)) (gb_fuu hn (gb_iw (lo := 0) (hi := 5) (gb_ic (a := 0) (by decide)) (by decide)) (by decide))
set_option maxHeartbeats 4000000 in
theorem ct_Lines_size {n : Nat} (hn : gb_N ≤ n) {σ : gb_S} (hT : gb_TC σ) : gb_tc (cs_Lines_size n σ) (fun s r => s = σ ∧ gb_iv 0 24 r) := by
  unfold cs_Lines_size
  refine gc_lti (lo := 0) (hi := 24) (gc_rd (c := 2) (lo := 0) (hi := 24) hT (rfl : gc_cat 105 = 2) (by decide)) (fun x_1 ex_1 ix_1 => ?_)
  exact gc_some ⟨rfl, ix_1⟩
set_option maxHeartbeats 4000000 in
theorem ct_Lines_cell {n : Nat} (hn : gb_N ≤ n) {σ : gb_S} {p1 : Int32} {p2 : Int32} (hT : gb_TC σ) (ip1 : gb_iv 0 23 p1) (ip2 : gb_iv 0 3 p2) : gb_tc (cs_Lines_cell n σ p1 p2) (fun s r => s = σ ∧ gb_iv (-2147483648) 2147483647 r) := by
  unfold cs_Lines_cell
  refine gc_ck (gb_iadd (lo := 1) (hi := 96) (gb_iadd (lo := 1) (hi := 93) (gb_ic (a := 1) (by decide)) (gb_imul (lo := 0) (hi := 92) ip1 (gb_iadd (lo := 4) (hi := 4) (gb_ic (a := 3) (by decide)) (gb_ic (a := 1) (by decide)) (by decide)) (by decide)) (by decide)) ip2 (by decide)) (by decide) ?_
  refine gc_lti (lo := (-2147483648)) (hi := 2147483647) (gb_it _) (fun x_2 ex_2 ix_2 => ?_)
  exact gc_some ⟨rfl, (gb_it _)⟩
set_option maxHeartbeats 4000000 in
theorem ct_Lines_kind {n : Nat} (hn : gb_N ≤ n) {σ : gb_S} {p1 : Int32} (hT : gb_TC σ) (ip1 : gb_iv 0 23 p1) : gb_tc (cs_Lines_kind n σ p1) (fun s r => s = σ ∧ gb_iv (-2147483648) 2147483647 r) := by
  unfold cs_Lines_kind
  refine gc_cdP (ct_Lines_cell hn hT ip1 (gb_iw (lo := 0) (hi := 3) (gb_ic (a := 0) (by decide)) (by decide))) (fun r_2 qr_2 h_4685 => ?_)
  exact gc_some ⟨rfl, (gb_it _)⟩
set_option maxHeartbeats 4000000 in
theorem ct_Sharing_canShare_B {n : Nat} (hn : gb_N ≤ n) {σ : gb_S} {p1 : Nat} (hT : gb_TC σ) (hp1 : gb_kB p1 = true) : gb_tc (cs_Sharing_canShare_B n σ p1) (fun s r => s = σ ∧ gb_iv 0 1 r) := by
  unfold cs_Sharing_canShare_B
  refine gc_kk hp1 ?_
  refine gc_cdP (ct_Border_paths_B hn hT hp1) (fun r_3 qr_3 h_4699 => ?_)
  refine gc_if (fun c_4700 => ?_) (fun c_4700 => ?_)
  · have j_4701 : gb_iv 0 0 r_3 := (gb_rU (lo := 0) (hi := 0) (gb_dle c_4700) h_4699 (gb_ic (a := 0) (by decide)) (by decide))
    exact gc_some ⟨rfl, (gb_iw (lo := 0) (hi := 1) (gb_ic (a := 0) (by decide)) (by decide))⟩
  · have j_4702 : gb_iv 1 5 r_3 := (gb_rL (lo := 1) (hi := 5) (gb_dnle c_4700) h_4699 (gb_ic (a := 0) (by decide)) (by decide))
    refine gc_cdP (ct_Border_geese_B hn hT hp1) (fun r_8 qr_8 h_4703 => ?_)
    refine gc_if (fun c_4704 => ?_) (fun c_4704 => ?_)
    · have j_4705 : gb_iv 7 8 r_8 := (gb_rL (lo := 7) (hi := 8) (gb_dlt c_4704) h_4703 (gb_ic (a := 6) (by decide)) (by decide))
      exact gc_some ⟨rfl, (gb_iw (lo := 0) (hi := 1) (gb_ic (a := 0) (by decide)) (by decide))⟩
    · have j_4706 : gb_iv 0 6 r_8 := (gb_rU (lo := 0) (hi := 6) (gb_dnlt c_4704) h_4703 (gb_ic (a := 6) (by decide)) (by decide))
      exact gc_some ⟨rfl, (gb_iw (lo := 0) (hi := 1) (gb_ic (a := 1) (by decide)) (by decide))⟩
set_option maxHeartbeats 4000000 in
theorem ct_Sharing_payAnew {n : Nat} (hn : gb_N ≤ n) {σ : gb_S} {p1 : Int32} (hT : gb_TC σ) (ip1 : gb_iv 0 4 p1) : gb_tc (cs_Sharing_payAnew n σ p1) (fun s _ => gb_TC s ∧ True) := by
  unfold cs_Sharing_payAnew
  refine gc_if (fun c_4712 => ?_) (fun c_4712 => ?_)
  · refine gc_kk (gc_q2 hT) ?_
    refine gc_ck ip1 (by decide) ?_
    refine gc_lti (lo := (-2147483648)) (hi := 2147483647) (gb_it _) (fun x_4 ex_4 ix_4 => ?_)
    refine gc_cdP (ct_Border_payOf_B hn hT (gc_q2 hT) ip1) (fun r_6 qr_6 h_4713 => ?_)
    refine gc_ck ip1 (by decide) ?_
    refine gc_ltT (gc_su0 hT (rfl : gc_cat 127 = 0)) (fun s_10 es_10 hTs_10 => ?_)
    exact gc_some ⟨hTs_10, trivial⟩
  · refine gc_kk (gc_q3 hT c_4712) ?_
    refine gc_if (fun c_4714 => ?_) (fun c_4714 => ?_)
    · exact absurd c_4714 (gb_nzL (gc_q3 hT c_4712))
    · refine gc_kk (gc_q3 hT c_4712) ?_
      refine gc_kk (gc_q2 hT) ?_
      refine gc_ck ip1 (by decide) ?_
      refine gc_lti (lo := (-2147483648)) (hi := 2147483647) (gb_it _) (fun x_23 ex_23 ix_23 => ?_)
      refine gc_cdP (ct_Border_padded_B hn hT (gc_q2 hT) ip1) (fun r_25 qr_25 h_4715 => ?_)
      refine gc_cdP (ct_Law_payFor_L hn hT (gc_q3 hT c_4712)) (fun r_29 qr_29 h_4716 => ?_)
      refine gc_ck ip1 (by decide) ?_
      refine gc_ltT (gc_su0 hT (rfl : gc_cat 127 = 0)) (fun s_33 es_33 hTs_33 => ?_)
      exact gc_some ⟨hTs_33, trivial⟩
set_option maxHeartbeats 4000000 in
theorem ct_Sharing_spread_16 {n : Nat} (hn : gb_N ≤ n) {Q : gb_S → Int32 → Prop} {σ : gb_S} (hT : gb_TC σ) (hret : ∀ (r : Int32), gb_iv (-2147483648) 2147483647 r → Q σ r) : ∀ (mm : Nat) (v1 : Int32) (v2 : Int32) (v3 : Int32), gb_iv (-2147483648) 2147483647 v1 → gb_iv (-2147483648) 2147483647 v2 → gb_iv 1 5 v3 → (5 - v3.toInt).toNat < mm → gb_tc (cs_Sharing_spread_16 n mm σ v1 v2 v3) Q := by
  intro mm
  induction mm with
  | zero =>
    intro v1 v2 v3 iv1 iv2 iv3 hm
    exact absurd hm (Nat.not_lt_zero _)
  | succ mm ih =>
    intro v1 v2 v3 iv1 iv2 iv3 hm
    rw [cs_Sharing_spread_16]
    refine gc_if (fun c_8433 => ?_) (fun c_8433 => ?_)
    · exact gc_some (hret _ (gb_it _))
    · have j_8434 : gb_iv 1 4 v3 := (gb_rU (lo := 1) (hi := 4) (gb_dnle c_8433) iv3 (gc_rd (c := 8) (lo := 0) (hi := 5) hT (rfl : gc_cat 120 = 8) (by decide)) (by decide))
      have j_8435 : gb_iv 2 5 (σ.1 120 4) := (gb_rL (lo := 2) (hi := 5) (gb_dnle c_8433) (gc_rd (c := 8) (lo := 0) (hi := 5) hT (rfl : gc_cat 120 = 8) (by decide)) j_8434 (by decide))
      refine gc_ck j_8434 (by decide) ?_
      refine gc_lti (lo := 0) (hi := 4) (gc_rd (c := 9) (lo := 0) (hi := 4) hT (rfl : gc_cat 124 = 9) ⟨Int.le_refl _, Int.le_refl _⟩) (fun x_6 ex_6 ix_6 => ?_)
      refine gc_ck ix_6 (by decide) ?_
      refine gc_lti (lo := (-2147483648)) (hi := 2147483647) (gb_it _) (fun x_8 ex_8 ix_8 => ?_)
      refine gc_lti (lo := (-2147483648)) (hi := 2147483647) (gb_imax (lo := (-2147483648)) (hi := 2147483647) (gb_it _) (gb_it _) (by decide)) (fun x_9 ex_9 ix_9 => ?_)
      refine gc_ck j_8434 (by decide) ?_
      refine gc_lti (lo := 0) (hi := 4) (gc_rd (c := 9) (lo := 0) (hi := 4) hT (rfl : gc_cat 124 = 9) ⟨Int.le_refl _, Int.le_refl _⟩) (fun x_11 ex_11 ix_11 => ?_)
      refine gc_ck ix_11 (by decide) ?_
      refine gc_lti (lo := (-2147483648)) (hi := 2147483647) (gb_it _) (fun x_13 ex_13 ix_13 => ?_)
      refine gc_lti (lo := (-2147483648)) (hi := 2147483647) (gb_imin (lo := (-2147483648)) (hi := 2147483647) (gb_it _) (gb_it _) (by decide)) (fun x_14 ex_14 ix_14 => ?_)
      refine gc_lti (lo := 2) (hi := 5) (gb_iadd (lo := 2) (hi := 5) j_8434 (gb_ic (a := 1) (by decide)) (by decide)) (fun x_15 ex_15 ix_15 => ?_)
      exact ih _ _ _ (gb_it _) (gb_it _) (gb_iw (lo := 1) (hi := 5) ix_15 (by decide)) (gb_mup ex_15 j_8434 (by decide) hm)
set_option maxHeartbeats 4000000 in
theorem ct_Sharing_spread {n : Nat} (hn : gb_N ≤ n) {σ : gb_S} (hT : gb_TC σ) : gb_tc (cs_Sharing_spread n σ) (fun s r => s = σ ∧ gb_iv (-2147483648) 2147483647 r) := by
  unfold cs_Sharing_spread
  refine gc_lti (lo := 0) (hi := 4) (gc_rd (c := 9) (lo := 0) (hi := 4) hT (rfl : gc_cat 124 = 9) (by decide)) (fun x_1 ex_1 ix_1 => ?_)
  refine gc_ck ix_1 (by decide) ?_
  refine gc_lti (lo := (-2147483648)) (hi := 2147483647) (gb_it _) (fun x_3 ex_3 ix_3 => ?_)
  exact ct_Sharing_spread_16 hn hT (fun _ h => ⟨rfl, h⟩) n _ _ _ (gb_it _) (gb_it _) (gb_iw (lo := 1) (hi := 5) (gb_ic (a := 1) (by decide)) (by decide)) (gb_fuu hn (gb_iw (lo := 1) (hi := 5) (gb_ic (a := 1) (by decide)) (by decide)) (by decide))
set_option maxHeartbeats 4000000 in
theorem ct_Sharing_keepRow_2 {n : Nat} (hn : gb_N ≤ n) {Q : gb_S → Unit → Prop} (hret : ∀ (σ : gb_S) (r : Unit), gb_TC σ → True → Q σ r) : ∀ (mm : Nat) (σ : gb_S) (v1 : Int32), gb_TC σ → gb_iv 0 8 v1 → (8 - v1.toInt).toNat < mm → gb_tc (cs_Sharing_keepRow_2 n mm σ v1) Q := by
  intro mm
  induction mm with
  | zero =>
    intro σ v1 hT iv1 hm
    exact absurd hm (Nat.not_lt_zero _)
  | succ mm ih =>
    intro σ v1 hT iv1 hm
    rw [cs_Sharing_keepRow_2]
    refine gc_kk (gc_q2 hT) ?_
    refine gc_cdP (ct_Border_geese_B hn hT (gc_q2 hT)) (fun r_3 qr_3 h_8556 => ?_)
    refine gc_if (fun c_8557 => ?_) (fun c_8557 => ?_)
    · refine gc_ac (gb_ic (a := 0) (by decide)) (gb_ic (a := 0) (by decide)) (gb_ic (a := 5) (by decide)) (by decide) ?_
      refine gc_ltT (gc_cpy hT (rfl : gc_cat 129 = 0) (rfl : gc_cat 127 = 0)) (fun s_8 es_8 hTs_8 => ?_)
      exact gc_some (hret _ _ hTs_8 trivial)
    · have j_8558 : gb_iv 0 7 v1 := (gb_rU (lo := 0) (hi := 7) (gb_dnle c_8557) iv1 h_8556 (by decide))
      have j_8559 : gb_iv 1 8 r_3 := (gb_rL (lo := 1) (hi := 8) (gb_dnle c_8557) h_8556 j_8558 (by decide))
      refine gc_ck j_8558 (by decide) ?_
      refine gc_lti (lo := 0) (hi := 4) (gc_rd (c := 9) (lo := 0) (hi := 4) hT (rfl : gc_cat 125 = 9) ⟨Int.le_refl _, Int.le_refl _⟩) (fun x_10 ex_10 ix_10 => ?_)
      refine gc_ck ix_10 (by decide) ?_
      refine gc_lti (lo := 0) (hi := 4) (gc_rd (c := 9) (lo := 0) (hi := 4) hT (rfl : gc_cat 124 = 9) ⟨Int.le_refl _, Int.le_refl _⟩) (fun x_12 ex_12 ix_12 => ?_)
      refine gc_ck j_8558 (by decide) ?_
      refine gc_ltT (gc_su0 hT (rfl : gc_cat 128 = 0)) (fun s_14 es_14 hTs_14 => ?_)
      refine gc_lti (lo := 1) (hi := 8) (gb_iadd (lo := 1) (hi := 8) j_8558 (gb_ic (a := 1) (by decide)) (by decide)) (fun x_15 ex_15 ix_15 => ?_)
      exact ih _ _ hTs_14 (gb_iw (lo := 0) (hi := 8) ix_15 (by decide)) (gb_mup ex_15 j_8558 (by decide) hm)
set_option maxHeartbeats 4000000 in
theorem ct_Sharing_keepRow {n : Nat} (hn : gb_N ≤ n) {σ : gb_S} (hT : gb_TC σ) : gb_tc (cs_Sharing_keepRow n σ) (fun s _ => gb_TC s ∧ True) := by
  unfold cs_Sharing_keepRow
  exact ct_Sharing_keepRow_2 hn (fun _ _ hT h => ⟨hT, h⟩) n _ _ hT (gb_iw (lo := 0) (hi := 8) (gb_ic (a := 0) (by decide)) (by decide)) (gb_fuu hn (gb_iw (lo := 0) (hi := 8) (gb_ic (a := 0) (by decide)) (by decide)) (by decide))
set_option maxHeartbeats 4000000 in
theorem ct_Sharing_together_4 {n : Nat} (hn : gb_N ≤ n) {Q : gb_S → Int32 → Prop} {σ : gb_S} (hT : gb_TC σ) (hret : ∀ (r : Int32), gb_iv (-2147483648) 2147483647 r → Q σ r) : ∀ (mm : Nat) (v1 : Int32) (v2 : Int32), gb_iv (-2147483648) 2147483647 v1 → gb_iv 0 5 v2 → (5 - v2.toInt).toNat < mm → gb_tc (cs_Sharing_together_4 n mm σ v1 v2) Q := by
  intro mm
  induction mm with
  | zero =>
    intro v1 v2 iv1 iv2 hm
    exact absurd hm (Nat.not_lt_zero _)
  | succ mm ih =>
    intro v1 v2 iv1 iv2 hm
    rw [cs_Sharing_together_4]
    refine gc_if (fun c_8638 => ?_) (fun c_8638 => ?_)
    · exact gc_some (hret _ (gb_it _))
    · have j_8639 : gb_iv 0 4 v2 := (gb_rU (lo := 0) (hi := 4) (gb_dnle c_8638) iv2 (gc_rd (c := 8) (lo := 0) (hi := 5) hT (rfl : gc_cat 120 = 8) (by decide)) (by decide))
      have j_8640 : gb_iv 1 5 (σ.1 120 4) := (gb_rL (lo := 1) (hi := 5) (gb_dnle c_8638) (gc_rd (c := 8) (lo := 0) (hi := 5) hT (rfl : gc_cat 120 = 8) (by decide)) j_8639 (by decide))
      refine gc_ck j_8639 (by decide) ?_
      refine gc_lti (lo := 0) (hi := 4) (gc_rd (c := 9) (lo := 0) (hi := 4) hT (rfl : gc_cat 124 = 9) ⟨Int.le_refl _, Int.le_refl _⟩) (fun x_3 ex_3 ix_3 => ?_)
      refine gc_ck ix_3 (by decide) ?_
      refine gc_lti (lo := (-2147483648)) (hi := 2147483647) (gb_it _) (fun x_5 ex_5 ix_5 => ?_)
      refine gc_lti (lo := (-2147483648)) (hi := 2147483647) (gb_it _) (fun x_6 ex_6 ix_6 => ?_)
      refine gc_lti (lo := 1) (hi := 5) (gb_iadd (lo := 1) (hi := 5) j_8639 (gb_ic (a := 1) (by decide)) (by decide)) (fun x_7 ex_7 ix_7 => ?_)
      exact ih _ _ (gb_it _) (gb_iw (lo := 0) (hi := 5) ix_7 (by decide)) (gb_mup ex_7 j_8639 (by decide) hm)
set_option maxHeartbeats 4000000 in
theorem ct_Sharing_together {n : Nat} (hn : gb_N ≤ n) {σ : gb_S} (hT : gb_TC σ) : gb_tc (cs_Sharing_together n σ) (fun s r => s = σ ∧ gb_iv (-2147483648) 2147483647 r) := by
  unfold cs_Sharing_together
  exact ct_Sharing_together_4 hn hT (fun _ h => ⟨rfl, h⟩) n _ _ (gb_iw (lo := (-2147483648)) (hi := 2147483647) (gb_ic (a := 0) (by decide)) (by decide)) (gb_iw (lo := 0) (hi := 5) (gb_ic (a := 0) (by decide)) (by decide)) (gb_fuu hn (gb_iw (lo := 0) (hi := 5) (gb_ic (a := 0) (by decide)) (by decide)) (by decide))
set_option maxHeartbeats 4000000 in
theorem ct_Sharing_difference {n : Nat} (hn : gb_N ≤ n) {σ : gb_S} (hT : gb_TC σ) : gb_tc (cs_Sharing_difference n σ) (fun s r => s = σ ∧ gb_iv (-2147483648) 2147483647 r) := by
  unfold cs_Sharing_difference
  exact gc_some ⟨rfl, (gb_it _)⟩
set_option maxHeartbeats 4000000 in
theorem ct_Face_bestPath_B_7 {n : Nat} (hn : gb_N ≤ n) {Q : gb_S → Int32 → Prop} {σ : gb_S} (hT : gb_TC σ) (hret : ∀ (r : Int32), gb_iv (-1) 4 r → Q σ r) : ∀ (mm : Nat) (v0 : Nat) (v1 : Int32) (v2 : Int32) (v3 : Int32) (v4 : Int32), gb_kB v0 = true → gb_iv 0 7 v1 → gb_iv (-1) 2147483647 v2 → gb_iv (-1) 4 v3 → gb_iv 0 5 v4 → (5 - v4.toInt).toNat < mm → gb_tc (cs_Face_bestPath_B_7 n mm σ v0 v1 v2 v3 v4) Q := by
  intro mm
  induction mm with
  | zero =>
    intro v0 v1 v2 v3 v4 hv0 iv1 iv2 iv3 iv4 hm
    exact absurd hm (Nat.not_lt_zero _)
  | succ mm ih =>
    intro v0 v1 v2 v3 v4 hv0 iv1 iv2 iv3 iv4 hm
    rw [cs_Face_bestPath_B_7]
    refine gc_kk hv0 ?_
    refine gc_cdP (ct_Border_paths_B hn hT hv0) (fun r_4 qr_4 h_8875 => ?_)
    refine gc_if (fun c_8876 => ?_) (fun c_8876 => ?_)
    · exact gc_some (hret _ iv3)
    · have j_8877 : gb_iv 0 4 v4 := (gb_rU (lo := 0) (hi := 4) (gb_dnle c_8876) iv4 h_8875 (by decide))
      have j_8878 : gb_iv 1 5 r_4 := (gb_rL (lo := 1) (hi := 5) (gb_dnle c_8876) h_8875 j_8877 (by decide))
      refine gc_cdP (ct_Border_marksFirst_B hn hT hv0 iv1 j_8877) (fun r_9 qr_9 h_8879 => ?_)
      refine gc_cdP (ct_Border_payOf_B hn hT hv0 j_8877) (fun r_13 qr_13 h_8880 => ?_)
      refine gc_if (fun c_8881 => ?_) (fun c_8881 => ?_)
      · refine gc_lti (lo := 1) (hi := 5) (gb_iadd (lo := 1) (hi := 5) j_8877 (gb_ic (a := 1) (by decide)) (by decide)) (fun x_17 ex_17 ix_17 => ?_)
        exact ih _ _ _ _ _ hv0 iv1 iv2 iv3 (gb_iw (lo := 0) (hi := 5) ix_17 (by decide)) (gb_mup ex_17 j_8877 (by decide) hm)
      · have j_8882 : gb_iv (-1) 2147483646 v2 := (gb_rU (lo := (-1)) (hi := 2147483646) (gb_dnle c_8881) iv2 (gb_it _) (by decide))
        have j_8883 : gb_iv 0 2147483647 r_13 := (gb_rL (lo := 0) (hi := 2147483647) (gb_dnle c_8881) (gb_it _) j_8882 (by decide))
        refine gc_lti (lo := 1) (hi := 5) (gb_iadd (lo := 1) (hi := 5) j_8877 (gb_ic (a := 1) (by decide)) (by decide)) (fun x_18 ex_18 ix_18 => ?_)
        exact ih _ _ _ _ _ hv0 iv1 (gb_iw (lo := (-1)) (hi := 2147483647) j_8883 (by decide)) (gb_iw (lo := (-1)) (hi := 4) j_8877 (by decide)) (gb_iw (lo := 0) (hi := 5) ix_18 (by decide)) (gb_mup ex_18 j_8877 (by decide) hm)
set_option maxHeartbeats 4000000 in
theorem ct_Face_bestPath_B {n : Nat} (hn : gb_N ≤ n) {σ : gb_S} {p1 : Nat} {p2 : Int32} (hT : gb_TC σ) (hp1 : gb_kB p1 = true) (ip2 : gb_iv 0 7 p2) : gb_tc (cs_Face_bestPath_B n σ p1 p2) (fun s r => s = σ ∧ gb_iv (-1) 4 r) := by
  unfold cs_Face_bestPath_B
  refine gc_kk hp1 ?_
  exact ct_Face_bestPath_B_7 hn hT (fun _ h => ⟨rfl, h⟩) n _ _ _ _ _ hp1 ip2 (gb_iw (lo := (-1)) (hi := 2147483647) (gb_ic (a := (-1)) (by decide)) (by decide)) (gb_iw (lo := (-1)) (hi := 4) (gb_ic (a := (-1)) (by decide)) (by decide)) (gb_iw (lo := 0) (hi := 5) (gb_ic (a := 0) (by decide)) (by decide)) (gb_fuu hn (gb_iw (lo := 0) (hi := 5) (gb_ic (a := 0) (by decide)) (by decide)) (by decide))
set_option maxHeartbeats 4000000 in
theorem ct_Face_lame_64 {n : Nat} (hn : gb_N ≤ n) {Q : gb_S → Int32 → Prop} {σ : gb_S} (hT : gb_TC σ) (hret : ∀ (r : Int32), gb_iv (-2147483648) 2147483647 r → Q σ r) : ∀ (mm : Nat) (v2 : Int32) (v4 : Nat) (v5 : Int32) (v6 : Int32) (v7 : Int32), gb_kB v4 = true → gb_iv 0 4 v2 → gb_iv (-2147483648) 2147483647 v5 → gb_iv (-2147483648) 2147483647 v6 → gb_iv 0 8 v7 → (8 - v7.toInt).toNat < mm → gb_tc (cs_Face_lame_64 n mm σ v2 v4 v5 v6 v7) Q := by
  intro mm
  induction mm with
  | zero =>
    intro v2 v4 v5 v6 v7 hv4 iv2 iv5 iv6 iv7 hm
    exact absurd hm (Nat.not_lt_zero _)
  | succ mm ih =>
    intro v2 v4 v5 v6 v7 hv4 iv2 iv5 iv6 iv7 hm
    rw [cs_Face_lame_64]
    refine gc_kk hv4 ?_
    refine gc_cdP (ct_Border_geese_B hn hT hv4) (fun r_15 qr_15 h_9411 => ?_)
    refine gc_if (fun c_9412 => ?_) (fun c_9412 => ?_)
    · refine gc_cdP (ct_Border_payOf_B hn hT hv4 iv2) (fun r_20 qr_20 h_9413 => ?_)
      refine gc_cdP (ct_Border_payOf_B hn hT hv4 iv2) (fun r_24 qr_24 h_9414 => ?_)
      exact gc_some (hret _ (gb_it _))
    · have j_9415 : gb_iv 0 7 v7 := (gb_rU (lo := 0) (hi := 7) (gb_dnle c_9412) iv7 h_9411 (by decide))
      have j_9416 : gb_iv 1 8 r_15 := (gb_rL (lo := 1) (hi := 8) (gb_dnle c_9412) h_9411 j_9415 (by decide))
      refine gc_cdP (ct_Border_marksFirst_B hn hT hv4 j_9415 iv2) (fun r_28 qr_28 h_9417 => ?_)
      refine gc_lti (lo := (-2147483648)) (hi := 2147483647) (gb_it _) (fun x_31 ex_31 ix_31 => ?_)
      refine gc_cdP (ct_Border_limps_B hn hT hv4 j_9415) (fun r_33 qr_33 h_9418 => ?_)
      refine gc_if (fun c_9419 => ?_) (fun c_9419 => ?_)
      · have j_9420 : gb_iv 0 0 r_33 := (gb_rU (lo := 0) (hi := 0) (gb_deq c_9419) h_9418 (gb_ic (a := 0) (by decide)) (by decide))
        refine gc_lti (lo := (-2147483648)) (hi := 2147483647) (gb_it _) (fun x_37 ex_37 ix_37 => ?_)
        refine gc_lti (lo := 1) (hi := 8) (gb_iadd (lo := 1) (hi := 8) j_9415 (gb_ic (a := 1) (by decide)) (by decide)) (fun x_38 ex_38 ix_38 => ?_)
        exact ih _ _ _ _ _ hv4 iv2 (gb_it _) (gb_it _) (gb_iw (lo := 0) (hi := 8) ix_38 (by decide)) (gb_mup ex_38 j_9415 (by decide) hm)
      · have j_9421 : gb_iv 1 1 r_33 := (gb_rN (lo := 1) (hi := 1) (v := 0) c_9419 h_9418 (by decide) (by decide))
        refine gc_lti (lo := (-2147483648)) (hi := 2147483647) (gb_it _) (fun x_39 ex_39 ix_39 => ?_)
        refine gc_lti (lo := (-2147483648)) (hi := 2147483647) (gb_it _) (fun x_40 ex_40 ix_40 => ?_)
        refine gc_lti (lo := 1) (hi := 8) (gb_iadd (lo := 1) (hi := 8) j_9415 (gb_ic (a := 1) (by decide)) (by decide)) (fun x_41 ex_41 ix_41 => ?_)
        exact ih _ _ _ _ _ hv4 iv2 (gb_it _) (gb_it _) (gb_iw (lo := 0) (hi := 8) ix_41 (by decide)) (gb_mup ex_41 j_9415 (by decide) hm)
set_option maxHeartbeats 4000000 in
theorem ct_Face_lame {n : Nat} (hn : gb_N ≤ n) {σ : gb_S} {p1 : Int32} {p2 : Int32} {p3 : Int32} (hT : gb_TC σ) : gb_tc (cs_Face_lame n σ p1 p2 p3) (fun s r => s = σ ∧ gb_iv (-2147483648) 2147483647 r) := by
  unfold cs_Face_lame
  refine gc_cdP (ct_Face_borderAt hn hT) (fun r_2 qr_2 h_9237 => ?_)
  refine gc_if (fun c_9238 => ?_) (fun c_9238 => ?_)
  · exact gc_some ⟨rfl, (gb_iw (lo := (-2147483648)) (hi := 2147483647) (gb_ic (a := (-1)) (by decide)) (by decide))⟩
  · refine gc_kk (Or.resolve_left h_9237 c_9238) ?_
    refine gc_if (fun c_9239 => ?_) (fun c_9239 => ?_)
    · have j_9240 : gb_iv (-2147483648) (-1) p3 := (gb_rU (lo := (-2147483648)) (hi := (-1)) (gb_dlt c_9239) (gb_it _) (gb_ic (a := 0) (by decide)) (by decide))
      refine gc_cdP (ct_Border_hasPath_B hn hT (Or.resolve_left h_9237 c_9238)) (fun r_9 qr_9 h_9241 => ?_)
      refine gc_if (fun c_9242 => ?_) (fun c_9242 => ?_)
      · have j_9243 : gb_iv 0 0 r_9 := (gb_rU (lo := 0) (hi := 0) (gb_deq c_9242) h_9241.1 (gb_ic (a := 0) (by decide)) (by decide))
        exact gc_some ⟨rfl, (gb_iw (lo := (-2147483648)) (hi := 2147483647) (gb_ic (a := (-1)) (by decide)) (by decide))⟩
      · have j_9244 : gb_iv 1 1 r_9 := (gb_rN (lo := 1) (hi := 1) (v := 0) c_9242 h_9241.1 (by decide) (by decide))
        have j_9245 : gb_iv 0 4 p2 := (h_9241.2 c_9242)
        exact ct_Face_lame_64 hn hT (fun _ h => ⟨rfl, h⟩) n _ _ _ _ _ (Or.resolve_left h_9237 c_9238) j_9245 (gb_iw (lo := (-2147483648)) (hi := 2147483647) (gb_ic (a := 0) (by decide)) (by decide)) (gb_iw (lo := (-2147483648)) (hi := 2147483647) (gb_ic (a := 0) (by decide)) (by decide)) (gb_iw (lo := 0) (hi := 8) (gb_ic (a := 0) (by decide)) (by decide)) (gb_fuu hn (gb_iw (lo := 0) (hi := 8) (gb_ic (a := 0) (by decide)) (by decide)) (by decide))
    · have j_9422 : gb_iv 0 2147483647 p3 := (gb_rL (lo := 0) (hi := 2147483647) (gb_dnlt c_9239) (gb_it _) (gb_ic (a := 0) (by decide)) (by decide))
      refine gc_if (fun c_9423 => ?_) (fun c_9423 => ?_)
      · have j_9424 : gb_iv 8 2147483647 p3 := (gb_rL (lo := 8) (hi := 2147483647) (gb_dle c_9423) j_9422 (gb_ic (a := 8) (by decide)) (by decide))
        refine gc_cdP (ct_Border_hasPath_B hn hT (Or.resolve_left h_9237 c_9238)) (fun r_44 qr_44 h_9425 => ?_)
        refine gc_if (fun c_9426 => ?_) (fun c_9426 => ?_)
        · have j_9427 : gb_iv 0 0 r_44 := (gb_rU (lo := 0) (hi := 0) (gb_deq c_9426) h_9425.1 (gb_ic (a := 0) (by decide)) (by decide))
          exact gc_some ⟨rfl, (gb_iw (lo := (-2147483648)) (hi := 2147483647) (gb_ic (a := (-1)) (by decide)) (by decide))⟩
        · have j_9428 : gb_iv 1 1 r_44 := (gb_rN (lo := 1) (hi := 1) (v := 0) c_9426 h_9425.1 (by decide) (by decide))
          have j_9429 : gb_iv 0 4 p2 := (h_9425.2 c_9426)
          exact ct_Face_lame_64 hn hT (fun _ h => ⟨rfl, h⟩) n _ _ _ _ _ (Or.resolve_left h_9237 c_9238) j_9429 (gb_iw (lo := (-2147483648)) (hi := 2147483647) (gb_ic (a := 0) (by decide)) (by decide)) (gb_iw (lo := (-2147483648)) (hi := 2147483647) (gb_ic (a := 0) (by decide)) (by decide)) (gb_iw (lo := 0) (hi := 8) (gb_ic (a := 0) (by decide)) (by decide)) (gb_fuu hn (gb_iw (lo := 0) (hi := 8) (gb_ic (a := 0) (by decide)) (by decide)) (by decide))
      · have j_9595 : gb_iv 0 7 p3 := (gb_rU (lo := 0) (hi := 7) (gb_dnle c_9423) j_9422 (gb_ic (a := 8) (by decide)) (by decide))
        refine gc_cdP (ct_Border_hasGoose_B hn hT (Or.resolve_left h_9237 c_9238)) (fun r_49 qr_49 h_9596 => ?_)
        refine gc_if (fun c_9597 => ?_) (fun c_9597 => ?_)
        · have j_9598 : gb_iv 0 0 r_49 := (gb_rU (lo := 0) (hi := 0) (gb_deq c_9597) h_9596.1 (gb_ic (a := 0) (by decide)) (by decide))
          exact gc_some ⟨rfl, (gb_iw (lo := (-2147483648)) (hi := 2147483647) (gb_ic (a := (-1)) (by decide)) (by decide))⟩
        · have j_9599 : gb_iv 1 1 r_49 := (gb_rN (lo := 1) (hi := 1) (v := 0) c_9597 h_9596.1 (by decide) (by decide))
          refine gc_cdP (ct_Face_bestPath_B hn hT (Or.resolve_left h_9237 c_9238) j_9595) (fun r_54 qr_54 h_9600 => ?_)
          exact gc_some ⟨rfl, (gb_iw (lo := (-2147483648)) (hi := 2147483647) h_9600 (by decide))⟩
set_option maxHeartbeats 4000000 in
theorem ct_Face_two_108 {n : Nat} (hn : gb_N ≤ n) {Q : gb_S → Int32 → Prop} {σ : gb_S} (hT : gb_TC σ) {k58 : gb_S → Int32 → Int32 → Nat → Nat → Int32 → Int32 → Int32 → Int32 → gb_CR Int32} {M58 : Nat} (hk58 : ∀ (v2 : Int32) (v4 : Int32) (v5 : Nat) (v6 : Nat) (v7 : Int32) (v8 : Int32) (v9 : Int32) (v10 : Int32), gb_kB v5 = true → gb_kB v6 = true → gb_iv 0 7 v2 → gb_iv 0 2 v4 → gb_iv (-1) 2147483647 v7 → gb_iv (-1) 4 v8 → gb_iv (-1) 4 v9 → gb_iv 0 5 v10 → (5 - v10.toInt).toNat < M58 → gb_tc (k58 σ v2 v4 v5 v6 v7 v8 v9 v10) Q) (hret : ∀ (r : Int32), gb_iv (-1) 2147483647 r → Q σ r) : ∀ (mm : Nat) (v2 : Int32) (v4 : Int32) (v5 : Nat) (v6 : Nat) (v7 : Int32) (v8 : Int32) (v9 : Int32) (v10 : Int32) (v11 : Int32) (v12 : Int32) (v13 : Int32), gb_kB v5 = true → gb_kB v6 = true → gb_iv 0 7 v2 → gb_iv 0 2 v4 → gb_iv (-1) 2147483647 v7 → gb_iv (-1) 4 v8 → gb_iv (-1) 4 v9 → gb_iv 0 4 v10 → gb_iv 0 2147483647 v11 → gb_iv (-2147483648) 2147483647 v12 → gb_iv 0 5 v13 → (5 - v10.toInt).toNat < M58 + 1 → (5 - v13.toInt).toNat < mm → gb_tc (cs_Face_two_108 n k58 mm σ v2 v4 v5 v6 v7 v8 v9 v10 v11 v12 v13) Q := by
  intro mm
  induction mm with
  | zero =>
    intro v2 v4 v5 v6 v7 v8 v9 v10 v11 v12 v13 hv5 hv6 iv2 iv4 iv7 iv8 iv9 iv10 iv11 iv12 iv13 hm58 hm
    exact absurd hm (Nat.not_lt_zero _)
  | succ mm ih =>
    intro v2 v4 v5 v6 v7 v8 v9 v10 v11 v12 v13 hv5 hv6 iv2 iv4 iv7 iv8 iv9 iv10 iv11 iv12 iv13 hm58 hm
    rw [cs_Face_two_108]
    refine gc_kk hv5 ?_
    refine gc_kk hv6 ?_
    refine gc_cdP (ct_Border_paths_B hn hT hv6) (fun r_55 qr_55 h_13522 => ?_)
    refine gc_if (fun c_13523 => ?_) (fun c_13523 => ?_)
    · refine gc_lti (lo := 1) (hi := 5) (gb_iadd (lo := 1) (hi := 5) iv10 (gb_ic (a := 1) (by decide)) (by decide)) (fun x_59 ex_59 ix_59 => ?_)
      exact hk58 _ _ _ _ _ _ _ _ hv5 hv6 iv2 iv4 iv7 iv8 iv9 (gb_iw (lo := 0) (hi := 5) ix_59 (by decide)) (gb_mup ex_59 iv10 (by decide) hm58)
    · have j_13524 : gb_iv 0 4 v13 := (gb_rU (lo := 0) (hi := 4) (gb_dnle c_13523) iv13 h_13522 (by decide))
      have j_13525 : gb_iv 1 5 r_55 := (gb_rL (lo := 1) (hi := 5) (gb_dnle c_13523) h_13522 j_13524 (by decide))
      refine gc_cdP (ct_Border_miles_B hn hT hv6 j_13524) (fun r_61 qr_61 h_13526 => ?_)
      refine gc_cdP (ct_Border_marksOver_B hn hT hv5 iv2) (fun r_65 qr_65 h_13527 => ?_)
      refine gc_cdP (ct_Border_payOf_B hn hT hv6 j_13524) (fun r_69 qr_69 h_13528 => ?_)
      refine gc_lti (lo := (-2147483648)) (hi := 2147483647) (gb_it _) (fun x_72 ex_72 ix_72 => ?_)
      refine gc_if (fun c_13529 => ?_) (fun c_13529 => ?_)
      · refine gc_lti (lo := 1) (hi := 5) (gb_iadd (lo := 1) (hi := 5) j_13524 (gb_ic (a := 1) (by decide)) (by decide)) (fun x_74 ex_74 ix_74 => ?_)
        exact ih _ _ _ _ _ _ _ _ _ _ _ hv5 hv6 iv2 iv4 iv7 iv8 iv9 iv10 iv11 (gb_it _) (gb_iw (lo := 0) (hi := 5) ix_74 (by decide)) hm58 (gb_mup ex_74 j_13524 (by decide) hm)
      · have j_13530 : gb_iv (-1) 2147483646 v7 := (gb_rU (lo := (-1)) (hi := 2147483646) (gb_dnle c_13529) iv7 (gb_it _) (by decide))
        have j_13531 : gb_iv 0 2147483647 x_72 := (gb_rL (lo := 0) (hi := 2147483647) (gb_dnle c_13529) (gb_it _) j_13530 (by decide))
        refine gc_lti (lo := 1) (hi := 5) (gb_iadd (lo := 1) (hi := 5) j_13524 (gb_ic (a := 1) (by decide)) (by decide)) (fun x_75 ex_75 ix_75 => ?_)
        exact ih _ _ _ _ _ _ _ _ _ _ _ hv5 hv6 iv2 iv4 (gb_iw (lo := (-1)) (hi := 2147483647) j_13531 (by decide)) (gb_iw (lo := (-1)) (hi := 4) iv10 (by decide)) (gb_iw (lo := (-1)) (hi := 4) j_13524 (by decide)) iv10 iv11 (gb_it _) (gb_iw (lo := 0) (hi := 5) ix_75 (by decide)) hm58 (gb_mup ex_75 j_13524 (by decide) hm)
set_option maxHeartbeats 4000000 in
theorem ct_Face_two_58 {n : Nat} (hn : gb_N ≤ n) {Q : gb_S → Int32 → Prop} {σ : gb_S} (hT : gb_TC σ) (hret : ∀ (r : Int32), gb_iv (-1) 2147483647 r → Q σ r) : ∀ (mm : Nat) (v2 : Int32) (v4 : Int32) (v5 : Nat) (v6 : Nat) (v7 : Int32) (v8 : Int32) (v9 : Int32) (v10 : Int32), gb_kB v5 = true → gb_kB v6 = true → gb_iv 0 7 v2 → gb_iv 0 2 v4 → gb_iv (-1) 2147483647 v7 → gb_iv (-1) 4 v8 → gb_iv (-1) 4 v9 → gb_iv 0 5 v10 → (5 - v10.toInt).toNat < mm → gb_tc (cs_Face_two_58 n mm σ v2 v4 v5 v6 v7 v8 v9 v10) Q := by
  intro mm
  induction mm with
  | zero =>
    intro v2 v4 v5 v6 v7 v8 v9 v10 hv5 hv6 iv2 iv4 iv7 iv8 iv9 iv10 hm
    exact absurd hm (Nat.not_lt_zero _)
  | succ mm ih =>
    intro v2 v4 v5 v6 v7 v8 v9 v10 hv5 hv6 iv2 iv4 iv7 iv8 iv9 iv10 hm
    rw [cs_Face_two_58]
    refine gc_kk hv5 ?_
    refine gc_kk hv6 ?_
    refine gc_cdP (ct_Border_paths_B hn hT hv5) (fun r_29 qr_29 h_13378 => ?_)
    refine gc_if (fun c_13379 => ?_) (fun c_13379 => ?_)
    · refine gc_if (fun c_13380 => ?_) (fun c_13380 => ?_)
      · have j_13381 : gb_iv 0 0 v4 := (gb_rU (lo := 0) (hi := 0) (gb_deq c_13380) iv4 (gb_ic (a := 0) (by decide)) (by decide))
        exact gc_some (hret _ (gb_iw (lo := (-1)) (hi := 2147483647) iv8 (by decide)))
      · have j_13382 : gb_iv 1 2 v4 := (gb_rN (lo := 1) (hi := 2) (v := 0) c_13380 iv4 (by decide) (by decide))
        refine gc_if (fun c_13383 => ?_) (fun c_13383 => ?_)
        · have j_13384 : gb_iv 1 1 v4 := (gb_rU (lo := 1) (hi := 1) (gb_deq c_13383) j_13382 (gb_ic (a := 1) (by decide)) (by decide))
          exact gc_some (hret _ (gb_iw (lo := (-1)) (hi := 2147483647) iv9 (by decide)))
        · have j_13385 : gb_iv 2 2 v4 := (gb_rN (lo := 2) (hi := 2) (v := 1) c_13383 j_13382 (by decide) (by decide))
          exact gc_some (hret _ iv7)
    · have j_13386 : gb_iv 0 4 v10 := (gb_rU (lo := 0) (hi := 4) (gb_dnle c_13379) iv10 h_13378 (by decide))
      have j_13387 : gb_iv 1 5 r_29 := (gb_rL (lo := 1) (hi := 5) (gb_dnle c_13379) h_13378 j_13386 (by decide))
      refine gc_cdP (ct_Border_boots_B hn hT hv5 iv2) (fun r_36 qr_36 h_13388 => ?_)
      refine gc_cdP (ct_Border_miles_B hn hT hv5 j_13386) (fun r_40 qr_40 h_13389 => ?_)
      refine gc_lti (lo := 0) (hi := 2147483647) (gb_imax (lo := 0) (hi := 2147483647) (gb_ic (a := 0) (by decide)) (gb_it _) (by decide)) (fun x_43 ex_43 ix_43 => ?_)
      refine gc_cdP (ct_Border_marksFirst_B hn hT hv5 iv2 j_13386) (fun r_45 qr_45 h_13390 => ?_)
      refine gc_cdP (ct_Border_payOf_B hn hT hv5 j_13386) (fun r_49 qr_49 h_13391 => ?_)
      exact ct_Face_two_108 hn hT ih hret n _ _ _ _ _ _ _ _ _ _ _ hv5 hv6 iv2 iv4 iv7 iv8 iv9 j_13386 ix_43 (gb_it _) (gb_iw (lo := 0) (hi := 5) (gb_ic (a := 0) (by decide)) (by decide)) hm (gb_fuu hn (gb_iw (lo := 0) (hi := 5) (gb_ic (a := 0) (by decide)) (by decide)) (by decide))
set_option maxHeartbeats 4000000 in
theorem ct_Face_two {n : Nat} (hn : gb_N ≤ n) {σ : gb_S} {p1 : Int32} {p2 : Int32} {p3 : Int32} {p4 : Int32} (hT : gb_TC σ) : gb_tc (cs_Face_two n σ p1 p2 p3 p4) (fun s r => s = σ ∧ gb_iv (-1) 2147483647 r) := by
  unfold cs_Face_two
  refine gc_cdP (ct_Face_borderAt hn hT) (fun r_2 qr_2 h_11490 => ?_)
  refine gc_if (fun c_11491 => ?_) (fun c_11491 => ?_)
  · refine gc_cdP (ct_Face_borderAt hn hT) (fun r_7 qr_7 h_11492 => ?_)
    refine gc_if (fun c_11493 => ?_) (fun c_11493 => ?_)
    · exact gc_some ⟨rfl, (gb_iw (lo := (-1)) (hi := 2147483647) (gb_ic (a := (-1)) (by decide)) (by decide))⟩
    · refine gc_kk (Or.resolve_left h_11492 c_11493) ?_
      exact gc_some ⟨rfl, (gb_iw (lo := (-1)) (hi := 2147483647) (gb_ic (a := (-1)) (by decide)) (by decide))⟩
  · refine gc_kk (Or.resolve_left h_11490 c_11491) ?_
    refine gc_cdP (ct_Face_borderAt hn hT) (fun r_14 qr_14 h_11494 => ?_)
    refine gc_if (fun c_11495 => ?_) (fun c_11495 => ?_)
    · exact gc_some ⟨rfl, (gb_iw (lo := (-1)) (hi := 2147483647) (gb_ic (a := (-1)) (by decide)) (by decide))⟩
    · refine gc_kk (Or.resolve_left h_11494 c_11495) ?_
      refine gc_cdP (ct_Border_hasGoose_B hn hT (Or.resolve_left h_11490 c_11491)) (fun r_20 qr_20 h_11496 => ?_)
      refine gc_if (fun c_11497 => ?_) (fun c_11497 => ?_)
      · have j_11498 : gb_iv 0 0 r_20 := (gb_rU (lo := 0) (hi := 0) (gb_deq c_11497) h_11496.1 (gb_ic (a := 0) (by decide)) (by decide))
        exact gc_some ⟨rfl, (gb_iw (lo := (-1)) (hi := 2147483647) (gb_ic (a := (-1)) (by decide)) (by decide))⟩
      · have j_11499 : gb_iv 1 1 r_20 := (gb_rN (lo := 1) (hi := 1) (v := 0) c_11497 h_11496.1 (by decide) (by decide))
        have j_11500 : gb_iv 0 7 p2 := (h_11496.2 c_11497)
        refine gc_if (fun c_11501 => ?_) (fun c_11501 => ?_)
        · have j_11502 : gb_iv (-2147483648) (-1) p4 := (gb_rU (lo := (-2147483648)) (hi := (-1)) (gb_dlt c_11501) (gb_it _) (gb_ic (a := 0) (by decide)) (by decide))
          exact gc_some ⟨rfl, (gb_iw (lo := (-1)) (hi := 2147483647) (gb_ic (a := (-1)) (by decide)) (by decide))⟩
        · have j_11503 : gb_iv 0 2147483647 p4 := (gb_rL (lo := 0) (hi := 2147483647) (gb_dnlt c_11501) (gb_it _) (gb_ic (a := 0) (by decide)) (by decide))
          refine gc_if (fun c_11504 => ?_) (fun c_11504 => ?_)
          · have j_11505 : gb_iv 0 2 p4 := (gb_rU (lo := 0) (hi := 2) (gb_dle c_11504) j_11503 (gb_ic (a := 2) (by decide)) (by decide))
            exact ct_Face_two_58 hn hT (fun _ h => ⟨rfl, h⟩) n _ _ _ _ _ _ _ _ (Or.resolve_left h_11490 c_11491) (Or.resolve_left h_11494 c_11495) j_11500 j_11505 (gb_iw (lo := (-1)) (hi := 2147483647) (gb_ic (a := (-1)) (by decide)) (by decide)) (gb_iw (lo := (-1)) (hi := 4) (gb_ic (a := (-1)) (by decide)) (by decide)) (gb_iw (lo := (-1)) (hi := 4) (gb_ic (a := (-1)) (by decide)) (by decide)) (gb_iw (lo := 0) (hi := 5) (gb_ic (a := 0) (by decide)) (by decide)) (gb_fuu hn (gb_iw (lo := 0) (hi := 5) (gb_ic (a := 0) (by decide)) (by decide)) (by decide))
          · have j_13532 : gb_iv 3 2147483647 p4 := (gb_rL (lo := 3) (hi := 2147483647) (gb_dnle c_11504) j_11503 (gb_ic (a := 2) (by decide)) (by decide))
            exact gc_some ⟨rfl, (gb_iw (lo := (-1)) (hi := 2147483647) (gb_ic (a := (-1)) (by decide)) (by decide))⟩
set_option maxHeartbeats 4000000 in
theorem ct_Face_alike_43 {n : Nat} (hn : gb_N ≤ n) {Q : gb_S → Int32 → Prop} {σ : gb_S} (hT : gb_TC σ) (hret : ∀ (r : Int32), gb_iv (-1) 255 r → Q σ r) : ∀ (mm : Nat) (v2 : Int32) (v3 : Int32) (v4 : Nat) (v5 : Int32) (v6 : Int32), gb_kB v4 = true → gb_iv 0 7 v2 → gb_iv 0 7 v3 → gb_iv 0 255 v5 → gb_iv 0 5 v6 → (5 - v6.toInt).toNat < mm → gb_tc (cs_Face_alike_43 n mm σ v2 v3 v4 v5 v6) Q := by
  intro mm
  induction mm with
  | zero =>
    intro v2 v3 v4 v5 v6 hv4 iv2 iv3 iv5 iv6 hm
    exact absurd hm (Nat.not_lt_zero _)
  | succ mm ih =>
    intro v2 v3 v4 v5 v6 hv4 iv2 iv3 iv5 iv6 hm
    rw [cs_Face_alike_43]
    refine gc_kk hv4 ?_
    refine gc_cdP (ct_Border_paths_B hn hT hv4) (fun r_20 qr_20 h_13741 => ?_)
    refine gc_if (fun c_13742 => ?_) (fun c_13742 => ?_)
    · exact gc_some (hret _ (gb_iw (lo := (-1)) (hi := 255) iv5 (by decide)))
    · have j_13743 : gb_iv 0 4 v6 := (gb_rU (lo := 0) (hi := 4) (gb_dnle c_13742) iv6 h_13741 (by decide))
      have j_13744 : gb_iv 1 5 r_20 := (gb_rL (lo := 1) (hi := 5) (gb_dnle c_13742) h_13741 j_13743 (by decide))
      refine gc_cdP (ct_Border_marksFirst_B hn hT hv4 iv2 j_13743) (fun r_25 qr_25 h_13745 => ?_)
      refine gc_cdP (ct_Border_marksFirst_B hn hT hv4 iv3 j_13743) (fun r_29 qr_29 h_13746 => ?_)
      refine gc_if (fun c_13747 => ?_) (fun c_13747 => ?_)
      · refine gc_lti (lo := 0) (hi := 255) (gb_ior iv5 (gb_iw (lo := 0) (hi := 255) (gb_ishl (lo := 1) (hi := 16) j_13743 (by decide)) (by decide))) (fun x_34 ex_34 ix_34 => ?_)
        refine gc_lti (lo := 1) (hi := 5) (gb_iadd (lo := 1) (hi := 5) j_13743 (gb_ic (a := 1) (by decide)) (by decide)) (fun x_35 ex_35 ix_35 => ?_)
        exact ih _ _ _ _ _ hv4 iv2 iv3 ix_34 (gb_iw (lo := 0) (hi := 5) ix_35 (by decide)) (gb_mup ex_35 j_13743 (by decide) hm)
      · refine gc_lti (lo := 1) (hi := 5) (gb_iadd (lo := 1) (hi := 5) j_13743 (gb_ic (a := 1) (by decide)) (by decide)) (fun x_33 ex_33 ix_33 => ?_)
        exact ih _ _ _ _ _ hv4 iv2 iv3 iv5 (gb_iw (lo := 0) (hi := 5) ix_33 (by decide)) (gb_mup ex_33 j_13743 (by decide) hm)
set_option maxHeartbeats 4000000 in
theorem ct_Face_alike {n : Nat} (hn : gb_N ≤ n) {σ : gb_S} {p1 : Int32} {p2 : Int32} {p3 : Int32} (hT : gb_TC σ) : gb_tc (cs_Face_alike n σ p1 p2 p3) (fun s r => s = σ ∧ gb_iv (-1) 255 r) := by
  unfold cs_Face_alike
  refine gc_cdP (ct_Face_borderAt hn hT) (fun r_2 qr_2 h_13637 => ?_)
  refine gc_if (fun c_13638 => ?_) (fun c_13638 => ?_)
  · exact gc_some ⟨rfl, (gb_iw (lo := (-1)) (hi := 255) (gb_ic (a := (-1)) (by decide)) (by decide))⟩
  · refine gc_kk (Or.resolve_left h_13637 c_13638) ?_
    refine gc_if (fun c_13639 => ?_) (fun c_13639 => ?_)
    · exact gc_some ⟨rfl, (gb_iw (lo := (-1)) (hi := 255) (gb_ic (a := (-1)) (by decide)) (by decide))⟩
    · refine gc_cdP (ct_Border_hasGoose_B hn hT (Or.resolve_left h_13637 c_13638)) (fun r_9 qr_9 h_13640 => ?_)
      refine gc_if (fun c_13641 => ?_) (fun c_13641 => ?_)
      · have j_13642 : gb_iv 0 0 r_9 := (gb_rU (lo := 0) (hi := 0) (gb_deq c_13641) h_13640.1 (gb_ic (a := 0) (by decide)) (by decide))
        exact gc_some ⟨rfl, (gb_iw (lo := (-1)) (hi := 255) (gb_ic (a := (-1)) (by decide)) (by decide))⟩
      · have j_13643 : gb_iv 1 1 r_9 := (gb_rN (lo := 1) (hi := 1) (v := 0) c_13641 h_13640.1 (by decide) (by decide))
        have j_13644 : gb_iv 0 7 p2 := (h_13640.2 c_13641)
        refine gc_cdP (ct_Border_hasGoose_B hn hT (Or.resolve_left h_13637 c_13638)) (fun r_14 qr_14 h_13645 => ?_)
        refine gc_if (fun c_13646 => ?_) (fun c_13646 => ?_)
        · have j_13647 : gb_iv 0 0 r_14 := (gb_rU (lo := 0) (hi := 0) (gb_deq c_13646) h_13645.1 (gb_ic (a := 0) (by decide)) (by decide))
          exact gc_some ⟨rfl, (gb_iw (lo := (-1)) (hi := 255) (gb_ic (a := (-1)) (by decide)) (by decide))⟩
        · have j_13648 : gb_iv 1 1 r_14 := (gb_rN (lo := 1) (hi := 1) (v := 0) c_13646 h_13645.1 (by decide) (by decide))
          have j_13649 : gb_iv 0 7 p3 := (h_13645.2 c_13646)
          exact ct_Face_alike_43 hn hT (fun _ h => ⟨rfl, h⟩) n _ _ _ _ _ (Or.resolve_left h_13637 c_13638) j_13644 j_13649 (gb_iw (lo := 0) (hi := 255) (gb_ic (a := 0) (by decide)) (by decide)) (gb_iw (lo := 0) (hi := 5) (gb_ic (a := 0) (by decide)) (by decide)) (gb_fuu hn (gb_iw (lo := 0) (hi := 5) (gb_ic (a := 0) (by decide)) (by decide)) (by decide))
set_option maxHeartbeats 4000000 in
theorem ct_Face_tar_51 {n : Nat} (hn : gb_N ≤ n) {Q : gb_S → Int32 → Prop} {σ : gb_S} (hT : gb_TC σ) (hret : ∀ (r : Int32), gb_iv (-2147483648) 2147483647 r → Q σ r) : ∀ (mm : Nat) (v2 : Int32) (v4 : Nat) (v5 : Int32) (v6 : Int32) (v7 : Int32), gb_kB v4 = true → gb_iv 0 4 v2 → gb_iv (-2147483648) 2147483647 v5 → gb_iv (-2147483648) 2147483647 v6 → gb_iv 0 12 v7 → (v7.toInt - 0).toNat < mm → gb_tc (cs_Face_tar_51 n mm σ v2 v4 v5 v6 v7) Q := by
  intro mm
  induction mm with
  | zero =>
    intro v2 v4 v5 v6 v7 hv4 iv2 iv5 iv6 iv7 hm
    exact absurd hm (Nat.not_lt_zero _)
  | succ mm ih =>
    intro v2 v4 v5 v6 v7 hv4 iv2 iv5 iv6 iv7 hm
    rw [cs_Face_tar_51]
    refine gc_kk hv4 ?_
    refine gc_if (fun c_14083 => ?_) (fun c_14083 => ?_)
    · have j_14084 : gb_iv 0 0 v7 := (gb_rU (lo := 0) (hi := 0) (gb_dle c_14083) iv7 (gb_ic (a := 0) (by decide)) (by decide))
      refine gc_if (fun c_14085 => ?_) (fun c_14085 => ?_)
      · have j_14086 : gb_iv (-2147483648) 0 v5 := (gb_rU (lo := (-2147483648)) (hi := 0) (gb_dle c_14085) (gb_it _) (gb_ic (a := 0) (by decide)) (by decide))
        exact gc_some (hret _ (gb_it _))
      · have j_14087 : gb_iv 1 2147483647 v5 := (gb_rL (lo := 1) (hi := 2147483647) (gb_dnle c_14085) (gb_it _) (gb_ic (a := 0) (by decide)) (by decide))
        exact gc_some (hret _ (gb_iw (lo := (-2147483648)) (hi := 2147483647) (gb_ic (a := (-1)) (by decide)) (by decide)))
    · have j_14088 : gb_iv 1 12 v7 := (gb_rL (lo := 1) (hi := 12) (gb_dnle c_14083) iv7 (gb_ic (a := 0) (by decide)) (by decide))
      refine gc_if (fun c_14089 => ?_) (fun c_14089 => ?_)
      · have j_14090 : gb_iv (-2147483648) 0 v5 := (gb_rU (lo := (-2147483648)) (hi := 0) (gb_dle c_14089) (gb_it _) (gb_ic (a := 0) (by decide)) (by decide))
        refine gc_if (fun c_14091 => ?_) (fun c_14091 => ?_)
        · exact gc_some (hret _ (gb_it _))
        · exact (gb_em (gb_rL (lo := 1) (hi := 0) (gb_dnle c_14091) j_14090 (gb_ic (a := 0) (by decide)) (by decide)) (by decide)).elim
      · have j_14092 : gb_iv 1 2147483647 v5 := (gb_rL (lo := 1) (hi := 2147483647) (gb_dnle c_14089) (gb_it _) (gb_ic (a := 0) (by decide)) (by decide))
        refine gc_cdP (ct_Border_milesThatSpare_B hn hT hv4 iv2) (fun r_25 qr_25 h_14093 => ?_)
        refine gc_nz j_14088 (by decide) ?_
        refine gc_lti (lo := (-2147483648)) (hi := 2147483647) (gb_it _) (fun x_29 ex_29 ix_29 => ?_)
        refine gc_lti (lo := (-2147483648)) (hi := 2147483647) (gb_imin (lo := (-2147483648)) (hi := 2147483647) (gb_it _) (gb_it _) (by decide)) (fun x_30 ex_30 ix_30 => ?_)
        refine gc_lti (lo := (-2147483648)) (hi := 2147483647) (gb_it _) (fun x_31 ex_31 ix_31 => ?_)
        refine gc_lti (lo := (-2147483648)) (hi := 2147483647) (gb_it _) (fun x_32 ex_32 ix_32 => ?_)
        refine gc_lti (lo := 0) (hi := 11) (gb_iadd (lo := 0) (hi := 11) j_14088 (gb_ic (a := (-1)) (by decide)) (by decide)) (fun x_33 ex_33 ix_33 => ?_)
        exact ih _ _ _ _ _ hv4 iv2 (gb_it _) (gb_it _) (gb_iw (lo := 0) (hi := 12) ix_33 (by decide)) (gb_mdn ex_33 j_14088 (by decide) hm)
set_option maxHeartbeats 4000000 in
theorem ct_Face_tar {n : Nat} (hn : gb_N ≤ n) {σ : gb_S} {p1 : Int32} {p2 : Int32} {p3 : Int32} (hT : gb_TC σ) : gb_tc (cs_Face_tar n σ p1 p2 p3) (fun s r => s = σ ∧ gb_iv (-2147483648) 2147483647 r) := by
  unfold cs_Face_tar
  refine gc_cdP (ct_Face_borderAt hn hT) (fun r_2 qr_2 h_13916 => ?_)
  refine gc_if (fun c_13917 => ?_) (fun c_13917 => ?_)
  · exact gc_some ⟨rfl, (gb_iw (lo := (-2147483648)) (hi := 2147483647) (gb_ic (a := (-1)) (by decide)) (by decide))⟩
  · refine gc_kk (Or.resolve_left h_13916 c_13917) ?_
    refine gc_cdP (ct_Border_hasPath_B hn hT (Or.resolve_left h_13916 c_13917)) (fun r_8 qr_8 h_13918 => ?_)
    refine gc_if (fun c_13919 => ?_) (fun c_13919 => ?_)
    · have j_13920 : gb_iv 0 0 r_8 := (gb_rU (lo := 0) (hi := 0) (gb_deq c_13919) h_13918.1 (gb_ic (a := 0) (by decide)) (by decide))
      exact gc_some ⟨rfl, (gb_iw (lo := (-2147483648)) (hi := 2147483647) (gb_ic (a := (-1)) (by decide)) (by decide))⟩
    · have j_13921 : gb_iv 1 1 r_8 := (gb_rN (lo := 1) (hi := 1) (v := 0) c_13919 h_13918.1 (by decide) (by decide))
      have j_13922 : gb_iv 0 4 p2 := (h_13918.2 c_13919)
      refine gc_if (fun c_13923 => ?_) (fun c_13923 => ?_)
      · have j_13924 : gb_iv (-2147483648) (-1) p3 := (gb_rU (lo := (-2147483648)) (hi := (-1)) (gb_dlt c_13923) (gb_it _) (gb_ic (a := 0) (by decide)) (by decide))
        exact gc_some ⟨rfl, (gb_iw (lo := (-2147483648)) (hi := 2147483647) (gb_ic (a := (-1)) (by decide)) (by decide))⟩
      · have j_13925 : gb_iv 0 2147483647 p3 := (gb_rL (lo := 0) (hi := 2147483647) (gb_dnlt c_13923) (gb_it _) (gb_ic (a := 0) (by decide)) (by decide))
        refine gc_if (fun c_13926 => ?_) (fun c_13926 => ?_)
        · have j_13927 : gb_iv 0 9999 p3 := (gb_rU (lo := 0) (hi := 9999) (gb_dle c_13926) j_13925 (gb_ic (a := 9999) (by decide)) (by decide))
          refine gc_cdP (ct_Border_barefoot_B hn hT (Or.resolve_left h_13916 c_13917) j_13922) (fun r_15 qr_15 h_13928 => ?_)
          refine gc_lti (lo := (-2147483648)) (hi := 2147483647) (gb_it _) (fun x_18 ex_18 ix_18 => ?_)
          exact ct_Face_tar_51 hn hT (fun _ h => ⟨rfl, h⟩) n _ _ _ _ _ (Or.resolve_left h_13916 c_13917) j_13922 (gb_it _) (gb_iw (lo := (-2147483648)) (hi := 2147483647) (gb_ic (a := 0) (by decide)) (by decide)) (gb_iw (lo := 0) (hi := 12) (gb_ic (a := 12) (by decide)) (by decide)) (gb_fud hn (gb_iw (lo := 0) (hi := 12) (gb_ic (a := 12) (by decide)) (by decide)) (by decide))
        · have j_14094 : gb_iv 10000 2147483647 p3 := (gb_rL (lo := 10000) (hi := 2147483647) (gb_dnle c_13926) j_13925 (gb_ic (a := 9999) (by decide)) (by decide))
          exact gc_some ⟨rfl, (gb_iw (lo := (-2147483648)) (hi := 2147483647) (gb_ic (a := (-1)) (by decide)) (by decide))⟩
set_option maxHeartbeats 4000000 in
theorem ct_Flocks_sumUp_B_c131_44 {n : Nat} (hn : gb_N ≤ n) {Q : gb_S → Unit → Prop} {k17 : gb_S → Nat → Int32 → Int32 → gb_CR Unit} {M17 : Nat} (hk17 : ∀ (σ : gb_S) (v1 : Nat) (v2 : Int32) (v4 : Int32), gb_TC σ → gb_kB v1 = true → gb_iv 0 4 v2 → gb_iv 0 8 v4 → (8 - v4.toInt).toNat < M17 → gb_tc (k17 σ v1 v2 v4) Q) (hret : ∀ (σ : gb_S) (r : Unit), gb_TC σ → True → Q σ r) : ∀ (mm : Nat) (σ : gb_S) (v1 : Nat) (v2 : Int32) (v4 : Int32) (v5 : Int32) (v6 : Int32) (v7 : Int32), gb_TC σ → gb_kB v1 = true → gb_iv 0 4 v2 → gb_iv 0 7 v4 → gb_iv (-2147483648) 2147483647 v5 → gb_iv 1 128 v6 → gb_iv 0 128 v7 → (8 - v4.toInt).toNat < M17 + 1 → (128 - v7.toInt).toNat < mm → gb_tc (cs_Flocks_sumUp_B_c131_44 n k17 mm σ v1 v2 v4 v5 v6 v7) Q := by
  intro mm
  induction mm with
  | zero =>
    intro σ v1 v2 v4 v5 v6 v7 hT hv1 iv2 iv4 iv5 iv6 iv7 hm17 hm
    exact absurd hm (Nat.not_lt_zero _)
  | succ mm ih =>
    intro σ v1 v2 v4 v5 v6 v7 hT hv1 iv2 iv4 iv5 iv6 iv7 hm17 hm
    rw [cs_Flocks_sumUp_B_c131_44]
    refine gc_kk hv1 ?_
    refine gc_if (fun c_16434 => ?_) (fun c_16434 => ?_)
    · have j_16435 : gb_iv 1 128 v7 := (gb_rL (lo := 1) (hi := 128) (gb_dle c_16434) iv7 iv6 (by decide))
      refine gc_lti (lo := 1) (hi := 8) (gb_iadd (lo := 1) (hi := 8) iv4 (gb_ic (a := 1) (by decide)) (by decide)) (fun x_21 ex_21 ix_21 => ?_)
      exact hk17 _ _ _ _ hT hv1 iv2 (gb_iw (lo := 0) (hi := 8) ix_21 (by decide)) (gb_mup ex_21 iv4 (by decide) hm17)
    · have j_16436 : gb_iv 0 127 v7 := (gb_rU (lo := 0) (hi := 127) (gb_dnle c_16434) iv7 iv6 (by decide))
      refine gc_ck j_16436 (by decide) ?_
      refine gc_lti (lo := (-2147483648)) (hi := 2147483647) (gb_it _) (fun x_23 ex_23 ix_23 => ?_)
      refine gc_ck (gb_iadd (lo := 1) (hi := 255) iv6 j_16436 (by decide)) (by decide) ?_
      refine gc_ltT (gc_su0 hT (rfl : gc_cat 131 = 0)) (fun s_25 es_25 hTs_25 => ?_)
      refine gc_lti (lo := 1) (hi := 128) (gb_iadd (lo := 1) (hi := 128) j_16436 (gb_ic (a := 1) (by decide)) (by decide)) (fun x_26 ex_26 ix_26 => ?_)
      exact ih _ _ _ _ _ _ _ hTs_25 hv1 iv2 iv4 (gb_it _) iv6 (gb_iw (lo := 0) (hi := 128) ix_26 (by decide)) hm17 (gb_mup ex_26 j_16436 (by decide) hm)
set_option maxHeartbeats 4000000 in
theorem ct_Flocks_sumUp_B_c131_17 {n : Nat} (hn : gb_N ≤ n) {Q : gb_S → Unit → Prop} (hret : ∀ (σ : gb_S) (r : Unit), gb_TC σ → True → Q σ r) : ∀ (mm : Nat) (σ : gb_S) (v1 : Nat) (v2 : Int32) (v4 : Int32), gb_TC σ → gb_kB v1 = true → gb_iv 0 4 v2 → gb_iv 0 8 v4 → (8 - v4.toInt).toNat < mm → gb_tc (cs_Flocks_sumUp_B_c131_17 n mm σ v1 v2 v4) Q := by
  intro mm
  induction mm with
  | zero =>
    intro σ v1 v2 v4 hT hv1 iv2 iv4 hm
    exact absurd hm (Nat.not_lt_zero _)
  | succ mm ih =>
    intro σ v1 v2 v4 hT hv1 iv2 iv4 hm
    rw [cs_Flocks_sumUp_B_c131_17]
    refine gc_kk hv1 ?_
    refine gc_cdP (ct_Border_geese_B hn hT hv1) (fun r_10 qr_10 h_16341 => ?_)
    refine gc_if (fun c_16342 => ?_) (fun c_16342 => ?_)
    · exact gc_some (hret _ _ hT trivial)
    · have j_16343 : gb_iv 0 7 v4 := (gb_rU (lo := 0) (hi := 7) (gb_dnle c_16342) iv4 h_16341 (by decide))
      have j_16344 : gb_iv 1 8 r_10 := (gb_rL (lo := 1) (hi := 8) (gb_dnle c_16342) h_16341 j_16343 (by decide))
      refine gc_cdP (ct_Border_marksFirst_B hn hT hv1 j_16343 iv2) (fun r_15 qr_15 h_16345 => ?_)
      refine gc_lti (lo := 1) (hi := 128) (gb_ishl (lo := 1) (hi := 128) j_16343 (by decide)) (fun x_18 ex_18 ix_18 => ?_)
      exact ct_Flocks_sumUp_B_c131_44 hn ih hret n _ _ _ _ _ _ _ hT hv1 iv2 j_16343 (gb_it _) ix_18 (gb_iw (lo := 0) (hi := 128) (gb_ic (a := 0) (by decide)) (by decide)) hm (gb_fuu hn (gb_iw (lo := 0) (hi := 128) (gb_ic (a := 0) (by decide)) (by decide)) (by decide))
set_option maxHeartbeats 4000000 in
theorem ct_Flocks_sumUp_B_c131 {n : Nat} (hn : gb_N ≤ n) {σ : gb_S} {p1 : Nat} {p2 : Int32} (hT : gb_TC σ) (hp1 : gb_kB p1 = true) (ip2 : gb_iv 0 4 p2) : gb_tc (cs_Flocks_sumUp_B_c131 n σ p1 p2) (fun s _ => gb_TC s ∧ True) := by
  unfold cs_Flocks_sumUp_B_c131
  refine gc_kk hp1 ?_
  refine gc_cdP (ct_Border_geese_B hn hT hp1) (fun r_3 qr_3 h_15218 => ?_)
  refine gc_ltT (gc_su (c := 11) (lo := 0) (hi := 256) hT (rfl : gc_cat 130 = 11) (gb_iw (lo := 0) (hi := 256) (gb_ishl (lo := 1) (hi := 256) h_15218 (by decide)) (by decide)) (by decide)) (fun s_6 es_6 hTs_6 => ?_)
  refine gc_ltT (gc_su0 hTs_6 (rfl : gc_cat 131 = 0)) (fun s_7 es_7 hTs_7 => ?_)
  exact ct_Flocks_sumUp_B_c131_17 hn (fun _ _ hT h => ⟨hT, h⟩) n _ _ _ _ hTs_7 hp1 ip2 (gb_iw (lo := 0) (hi := 8) (gb_ic (a := 0) (by decide)) (by decide)) (gb_fuu hn (gb_iw (lo := 0) (hi := 8) (gb_ic (a := 0) (by decide)) (by decide)) (by decide))
set_option maxHeartbeats 4000000 in
theorem ct_Flocks_sumUp_B_c132_44 {n : Nat} (hn : gb_N ≤ n) {Q : gb_S → Unit → Prop} {k17 : gb_S → Nat → Int32 → Int32 → gb_CR Unit} {M17 : Nat} (hk17 : ∀ (σ : gb_S) (v1 : Nat) (v2 : Int32) (v4 : Int32), gb_TC σ → gb_kB v1 = true → gb_iv 0 4 v2 → gb_iv 0 8 v4 → (8 - v4.toInt).toNat < M17 → gb_tc (k17 σ v1 v2 v4) Q) (hret : ∀ (σ : gb_S) (r : Unit), gb_TC σ → True → Q σ r) : ∀ (mm : Nat) (σ : gb_S) (v1 : Nat) (v2 : Int32) (v4 : Int32) (v5 : Int32) (v6 : Int32) (v7 : Int32), gb_TC σ → gb_kB v1 = true → gb_iv 0 4 v2 → gb_iv 0 7 v4 → gb_iv (-2147483648) 2147483647 v5 → gb_iv 1 128 v6 → gb_iv 0 128 v7 → (8 - v4.toInt).toNat < M17 + 1 → (128 - v7.toInt).toNat < mm → gb_tc (cs_Flocks_sumUp_B_c132_44 n k17 mm σ v1 v2 v4 v5 v6 v7) Q := by
  intro mm
  induction mm with
  | zero =>
    intro σ v1 v2 v4 v5 v6 v7 hT hv1 iv2 iv4 iv5 iv6 iv7 hm17 hm
    exact absurd hm (Nat.not_lt_zero _)
  | succ mm ih =>
    intro σ v1 v2 v4 v5 v6 v7 hT hv1 iv2 iv4 iv5 iv6 iv7 hm17 hm
    rw [cs_Flocks_sumUp_B_c132_44]
    refine gc_kk hv1 ?_
    refine gc_if (fun c_18776 => ?_) (fun c_18776 => ?_)
    · have j_18777 : gb_iv 1 128 v7 := (gb_rL (lo := 1) (hi := 128) (gb_dle c_18776) iv7 iv6 (by decide))
      refine gc_lti (lo := 1) (hi := 8) (gb_iadd (lo := 1) (hi := 8) iv4 (gb_ic (a := 1) (by decide)) (by decide)) (fun x_21 ex_21 ix_21 => ?_)
      exact hk17 _ _ _ _ hT hv1 iv2 (gb_iw (lo := 0) (hi := 8) ix_21 (by decide)) (gb_mup ex_21 iv4 (by decide) hm17)
    · have j_18778 : gb_iv 0 127 v7 := (gb_rU (lo := 0) (hi := 127) (gb_dnle c_18776) iv7 iv6 (by decide))
      refine gc_ck j_18778 (by decide) ?_
      refine gc_lti (lo := (-2147483648)) (hi := 2147483647) (gb_it _) (fun x_23 ex_23 ix_23 => ?_)
      refine gc_ck (gb_iadd (lo := 1) (hi := 255) iv6 j_18778 (by decide)) (by decide) ?_
      refine gc_ltT (gc_su0 hT (rfl : gc_cat 132 = 0)) (fun s_25 es_25 hTs_25 => ?_)
      refine gc_lti (lo := 1) (hi := 128) (gb_iadd (lo := 1) (hi := 128) j_18778 (gb_ic (a := 1) (by decide)) (by decide)) (fun x_26 ex_26 ix_26 => ?_)
      exact ih _ _ _ _ _ _ _ hTs_25 hv1 iv2 iv4 (gb_it _) iv6 (gb_iw (lo := 0) (hi := 128) ix_26 (by decide)) hm17 (gb_mup ex_26 j_18778 (by decide) hm)
set_option maxHeartbeats 4000000 in
theorem ct_Flocks_sumUp_B_c132_17 {n : Nat} (hn : gb_N ≤ n) {Q : gb_S → Unit → Prop} (hret : ∀ (σ : gb_S) (r : Unit), gb_TC σ → True → Q σ r) : ∀ (mm : Nat) (σ : gb_S) (v1 : Nat) (v2 : Int32) (v4 : Int32), gb_TC σ → gb_kB v1 = true → gb_iv 0 4 v2 → gb_iv 0 8 v4 → (8 - v4.toInt).toNat < mm → gb_tc (cs_Flocks_sumUp_B_c132_17 n mm σ v1 v2 v4) Q := by
  intro mm
  induction mm with
  | zero =>
    intro σ v1 v2 v4 hT hv1 iv2 iv4 hm
    exact absurd hm (Nat.not_lt_zero _)
  | succ mm ih =>
    intro σ v1 v2 v4 hT hv1 iv2 iv4 hm
    rw [cs_Flocks_sumUp_B_c132_17]
    refine gc_kk hv1 ?_
    refine gc_cdP (ct_Border_geese_B hn hT hv1) (fun r_10 qr_10 h_18683 => ?_)
    refine gc_if (fun c_18684 => ?_) (fun c_18684 => ?_)
    · exact gc_some (hret _ _ hT trivial)
    · have j_18685 : gb_iv 0 7 v4 := (gb_rU (lo := 0) (hi := 7) (gb_dnle c_18684) iv4 h_18683 (by decide))
      have j_18686 : gb_iv 1 8 r_10 := (gb_rL (lo := 1) (hi := 8) (gb_dnle c_18684) h_18683 j_18685 (by decide))
      refine gc_cdP (ct_Border_marksFirst_B hn hT hv1 j_18685 iv2) (fun r_15 qr_15 h_18687 => ?_)
      refine gc_lti (lo := 1) (hi := 128) (gb_ishl (lo := 1) (hi := 128) j_18685 (by decide)) (fun x_18 ex_18 ix_18 => ?_)
      exact ct_Flocks_sumUp_B_c132_44 hn ih hret n _ _ _ _ _ _ _ hT hv1 iv2 j_18685 (gb_it _) ix_18 (gb_iw (lo := 0) (hi := 128) (gb_ic (a := 0) (by decide)) (by decide)) hm (gb_fuu hn (gb_iw (lo := 0) (hi := 128) (gb_ic (a := 0) (by decide)) (by decide)) (by decide))
set_option maxHeartbeats 4000000 in
theorem ct_Flocks_sumUp_B_c132 {n : Nat} (hn : gb_N ≤ n) {σ : gb_S} {p1 : Nat} {p2 : Int32} (hT : gb_TC σ) (hp1 : gb_kB p1 = true) (ip2 : gb_iv 0 4 p2) : gb_tc (cs_Flocks_sumUp_B_c132 n σ p1 p2) (fun s _ => gb_TC s ∧ True) := by
  unfold cs_Flocks_sumUp_B_c132
  refine gc_kk hp1 ?_
  refine gc_cdP (ct_Border_geese_B hn hT hp1) (fun r_3 qr_3 h_17560 => ?_)
  refine gc_ltT (gc_su (c := 11) (lo := 0) (hi := 256) hT (rfl : gc_cat 130 = 11) (gb_iw (lo := 0) (hi := 256) (gb_ishl (lo := 1) (hi := 256) h_17560 (by decide)) (by decide)) (by decide)) (fun s_6 es_6 hTs_6 => ?_)
  refine gc_ltT (gc_su0 hTs_6 (rfl : gc_cat 132 = 0)) (fun s_7 es_7 hTs_7 => ?_)
  exact ct_Flocks_sumUp_B_c132_17 hn (fun _ _ hT h => ⟨hT, h⟩) n _ _ _ _ hTs_7 hp1 ip2 (gb_iw (lo := 0) (hi := 8) (gb_ic (a := 0) (by decide)) (by decide)) (gb_fuu hn (gb_iw (lo := 0) (hi := 8) (gb_ic (a := 0) (by decide)) (by decide)) (by decide))
set_option maxHeartbeats 4000000 in
theorem ct_java_lang_Integer_bitCount {n : Nat} (hn : gb_N ≤ n) {σ : gb_S} {p1 : Int32} (hT : gb_TC σ) : gb_tc (cs_java_lang_Integer_bitCount n σ p1) (fun s r => s = σ ∧ gb_iv 0 63 r) := by
  unfold cs_java_lang_Integer_bitCount
  refine gc_lti (lo := (-2147483648)) (hi := 2147483647) (gb_it _) (fun x_1 ex_1 ix_1 => ?_)
  refine gc_lti (lo := 0) (hi := 1717986918) (gb_iadd (lo := 0) (hi := 1717986918) (gb_iandr (lo := 0) (hi := 858993459) (gb_iw (lo := 0) (hi := 858993459) (gb_ic (a := 858993459) (by decide)) (by decide)) (by decide)) (gb_iandr (lo := 0) (hi := 858993459) (gb_iw (lo := 0) (hi := 858993459) (gb_ic (a := 858993459) (by decide)) (by decide)) (by decide)) (by decide)) (fun x_2 ex_2 ix_2 => ?_)
  refine gc_lti (lo := 0) (hi := 252645135) (gb_iandr (lo := 0) (hi := 252645135) (gb_iw (lo := 0) (hi := 252645135) (gb_ic (a := 252645135) (by decide)) (by decide)) (by decide)) (fun x_3 ex_3 ix_3 => ?_)
  refine gc_lti (lo := (-2147483648)) (hi := 2147483647) (gb_it _) (fun x_4 ex_4 ix_4 => ?_)
  refine gc_lti (lo := (-2147483648)) (hi := 2147483647) (gb_it _) (fun x_5 ex_5 ix_5 => ?_)
  exact gc_some ⟨rfl, (gb_iandr (lo := 0) (hi := 63) (gb_iw (lo := 0) (hi := 63) (gb_ic (a := 63) (by decide)) (by decide)) (by decide))⟩
set_option maxHeartbeats 4000000 in
theorem ct_Flocks_marksOfAny_B_76 {n : Nat} (hn : gb_N ≤ n) {Q : gb_S → Int32 → Prop} {k16 : gb_S → Int32 → Int32 → Int32 → Int32 → gb_CR Int32} {M16 : Nat} (hk16 : ∀ (σ : gb_S) (v3 : Int32) (v4 : Int32) (v5 : Int32) (v6 : Int32), gb_TC σ → gb_iv (-2147483648) 2147483647 v3 → gb_iv (-2147483648) 2147483647 v4 → gb_iv (-2147483648) 2147483647 v5 → gb_iv 0 256 v6 → (256 - v6.toInt).toNat < M16 → gb_tc (k16 σ v3 v4 v5 v6) Q) (hret : ∀ (σ : gb_S) (r : Int32), gb_TC σ → gb_iv (-2147483648) 2147483647 r → Q σ r) : ∀ (σ : gb_S) (v3 : Int32) (v4 : Int32) (v5 : Int32) (v6 : Int32) (t0 : Int32), gb_TC σ → gb_iv 0 63 v3 → gb_iv 0 0 v4 → gb_iv (-2147483648) 2147483647 v5 → gb_iv 0 255 v6 → gb_iv 0 0 t0 → (256 - v6.toInt).toNat < M16 + 1 → gb_tc (cs_Flocks_marksOfAny_B_76 n k16 σ v3 v4 v5 v6 t0) Q := by
  intro σ v3 v4 v5 v6 t0 hT iv3 iv4 iv5 iv6 it0 hm16
  unfold cs_Flocks_marksOfAny_B_76
  refine gc_if (fun c_20752 => ?_) (fun c_20752 => ?_)
  · have j_20753 : gb_iv (-2147483648) (-1) v5 := (gb_rU (lo := (-2147483648)) (hi := (-1)) (gb_deq c_20752) (gb_it _) (gb_ic (a := (-1)) (by decide)) (by decide))
    have j_20754 : gb_iv (-1) (-1) v5 := (gb_rL (lo := (-1)) (hi := (-1)) (gb_deq2 c_20752) j_20753 (gb_ic (a := (-1)) (by decide)) (by decide))
    refine gc_ck iv6 (by decide) ?_
    refine gc_lti (lo := (-2147483648)) (hi := 2147483647) (gb_it _) (fun x_19 ex_19 ix_19 => ?_)
    refine gc_lti (lo := 1) (hi := 256) (gb_iadd (lo := 1) (hi := 256) iv6 (gb_ic (a := 1) (by decide)) (by decide)) (fun x_20 ex_20 ix_20 => ?_)
    exact hk16 _ _ _ _ _ hT (gb_iw (lo := (-2147483648)) (hi := 2147483647) iv3 (by decide)) (gb_iw (lo := (-2147483648)) (hi := 2147483647) iv4 (by decide)) (gb_it _) (gb_iw (lo := 0) (hi := 256) ix_20 (by decide)) (gb_mup ex_20 iv6 (by decide) hm16)
  · refine gc_if (fun c_20755 => ?_) (fun c_20755 => ?_)
    · refine gc_lti (lo := 1) (hi := 256) (gb_iadd (lo := 1) (hi := 256) iv6 (gb_ic (a := 1) (by decide)) (by decide)) (fun x_22 ex_22 ix_22 => ?_)
      exact hk16 _ _ _ _ _ hT (gb_iw (lo := (-2147483648)) (hi := 2147483647) iv3 (by decide)) (gb_iw (lo := (-2147483648)) (hi := 2147483647) iv4 (by decide)) (gb_it _) (gb_iw (lo := 0) (hi := 256) ix_22 (by decide)) (gb_mup ex_22 iv6 (by decide) hm16)
    · exact (gb_em (gb_rN (lo := 1) (hi := (-1)) (v := 0) c_20755 it0 (by decide) (by decide)) (by decide)).elim
set_option maxHeartbeats 4000000 in
theorem ct_Flocks_marksOfAny_B_76_i1 {n : Nat} (hn : gb_N ≤ n) {Q : gb_S → Int32 → Prop} {k16 : gb_S → Int32 → Int32 → Int32 → Int32 → gb_CR Int32} {M16 : Nat} (hk16 : ∀ (σ : gb_S) (v3 : Int32) (v4 : Int32) (v5 : Int32) (v6 : Int32), gb_TC σ → gb_iv (-2147483648) 2147483647 v3 → gb_iv (-2147483648) 2147483647 v4 → gb_iv (-2147483648) 2147483647 v5 → gb_iv 0 256 v6 → (256 - v6.toInt).toNat < M16 → gb_tc (k16 σ v3 v4 v5 v6) Q) (hret : ∀ (σ : gb_S) (r : Int32), gb_TC σ → gb_iv (-2147483648) 2147483647 r → Q σ r) : ∀ (σ : gb_S) (v3 : Int32) (v4 : Int32) (v5 : Int32) (v6 : Int32) (t0 : Int32), gb_TC σ → gb_iv 0 63 v3 → gb_iv 0 0 v4 → gb_iv (-2147483647) 2147483647 v5 → gb_iv 0 255 v6 → gb_iv 1 1 t0 → (256 - v6.toInt).toNat < M16 + 1 → gb_tc (cs_Flocks_marksOfAny_B_76 n k16 σ v3 v4 v5 v6 t0) Q := by
  intro σ v3 v4 v5 v6 t0 hT iv3 iv4 iv5 iv6 it0 hm16
  unfold cs_Flocks_marksOfAny_B_76
  refine gc_if (fun c_20758 => ?_) (fun c_20758 => ?_)
  · have j_20759 : gb_iv (-2147483647) (-1) v5 := (gb_rU (lo := (-2147483647)) (hi := (-1)) (gb_deq c_20758) iv5 (gb_ic (a := (-1)) (by decide)) (by decide))
    have j_20760 : gb_iv (-1) (-1) v5 := (gb_rL (lo := (-1)) (hi := (-1)) (gb_deq2 c_20758) j_20759 (gb_ic (a := (-1)) (by decide)) (by decide))
    refine gc_ck iv6 (by decide) ?_
    refine gc_lti (lo := (-2147483648)) (hi := 2147483647) (gb_it _) (fun x_19 ex_19 ix_19 => ?_)
    refine gc_lti (lo := 1) (hi := 256) (gb_iadd (lo := 1) (hi := 256) iv6 (gb_ic (a := 1) (by decide)) (by decide)) (fun x_20 ex_20 ix_20 => ?_)
    exact hk16 _ _ _ _ _ hT (gb_iw (lo := (-2147483648)) (hi := 2147483647) iv3 (by decide)) (gb_iw (lo := (-2147483648)) (hi := 2147483647) iv4 (by decide)) (gb_it _) (gb_iw (lo := 0) (hi := 256) ix_20 (by decide)) (gb_mup ex_20 iv6 (by decide) hm16)
  · refine gc_if (fun c_20761 => ?_) (fun c_20761 => ?_)
    · exact (gb_em (gb_rU (lo := 1) (hi := 0) (gb_deq c_20761) it0 (gb_ic (a := 0) (by decide)) (by decide)) (by decide)).elim
    · refine gc_ck iv6 (by decide) ?_
      refine gc_lti (lo := (-2147483648)) (hi := 2147483647) (gb_it _) (fun x_24 ex_24 ix_24 => ?_)
      refine gc_lti (lo := 1) (hi := 256) (gb_iadd (lo := 1) (hi := 256) iv6 (gb_ic (a := 1) (by decide)) (by decide)) (fun x_25 ex_25 ix_25 => ?_)
      exact hk16 _ _ _ _ _ hT (gb_iw (lo := (-2147483648)) (hi := 2147483647) iv3 (by decide)) (gb_iw (lo := (-2147483648)) (hi := 2147483647) iv4 (by decide)) (gb_it _) (gb_iw (lo := 0) (hi := 256) ix_25 (by decide)) (gb_mup ex_25 iv6 (by decide) hm16)
set_option maxHeartbeats 4000000 in
theorem ct_Flocks_marksOfAny_B_76_i2 {n : Nat} (hn : gb_N ≤ n) {Q : gb_S → Int32 → Prop} {k16 : gb_S → Int32 → Int32 → Int32 → Int32 → gb_CR Int32} {M16 : Nat} (hk16 : ∀ (σ : gb_S) (v3 : Int32) (v4 : Int32) (v5 : Int32) (v6 : Int32), gb_TC σ → gb_iv (-2147483648) 2147483647 v3 → gb_iv (-2147483648) 2147483647 v4 → gb_iv (-2147483648) 2147483647 v5 → gb_iv 0 256 v6 → (256 - v6.toInt).toNat < M16 → gb_tc (k16 σ v3 v4 v5 v6) Q) (hret : ∀ (σ : gb_S) (r : Int32), gb_TC σ → gb_iv (-2147483648) 2147483647 r → Q σ r) : ∀ (σ : gb_S) (v3 : Int32) (v4 : Int32) (v5 : Int32) (v6 : Int32) (t0 : Int32), gb_TC σ → gb_iv 0 63 v3 → gb_iv (-2147483648) 2147483647 v4 → gb_iv (-2147483648) 2147483647 v5 → gb_iv 0 255 v6 → gb_iv 0 0 t0 → (256 - v6.toInt).toNat < M16 + 1 → gb_tc (cs_Flocks_marksOfAny_B_76 n k16 σ v3 v4 v5 v6 t0) Q := by
  intro σ v3 v4 v5 v6 t0 hT iv3 iv4 iv5 iv6 it0 hm16
  unfold cs_Flocks_marksOfAny_B_76
  refine gc_if (fun c_20763 => ?_) (fun c_20763 => ?_)
  · have j_20764 : gb_iv (-2147483648) (-1) v5 := (gb_rU (lo := (-2147483648)) (hi := (-1)) (gb_deq c_20763) (gb_it _) (gb_ic (a := (-1)) (by decide)) (by decide))
    have j_20765 : gb_iv (-1) (-1) v5 := (gb_rL (lo := (-1)) (hi := (-1)) (gb_deq2 c_20763) j_20764 (gb_ic (a := (-1)) (by decide)) (by decide))
    refine gc_ck iv6 (by decide) ?_
    refine gc_lti (lo := (-2147483648)) (hi := 2147483647) (gb_it _) (fun x_19 ex_19 ix_19 => ?_)
    refine gc_lti (lo := 1) (hi := 256) (gb_iadd (lo := 1) (hi := 256) iv6 (gb_ic (a := 1) (by decide)) (by decide)) (fun x_20 ex_20 ix_20 => ?_)
    exact hk16 _ _ _ _ _ hT (gb_iw (lo := (-2147483648)) (hi := 2147483647) iv3 (by decide)) (gb_it _) (gb_it _) (gb_iw (lo := 0) (hi := 256) ix_20 (by decide)) (gb_mup ex_20 iv6 (by decide) hm16)
  · refine gc_if (fun c_20766 => ?_) (fun c_20766 => ?_)
    · refine gc_lti (lo := 1) (hi := 256) (gb_iadd (lo := 1) (hi := 256) iv6 (gb_ic (a := 1) (by decide)) (by decide)) (fun x_22 ex_22 ix_22 => ?_)
      exact hk16 _ _ _ _ _ hT (gb_iw (lo := (-2147483648)) (hi := 2147483647) iv3 (by decide)) (gb_it _) (gb_it _) (gb_iw (lo := 0) (hi := 256) ix_22 (by decide)) (gb_mup ex_22 iv6 (by decide) hm16)
    · exact (gb_em (gb_rN (lo := 1) (hi := (-1)) (v := 0) c_20766 it0 (by decide) (by decide)) (by decide)).elim
set_option maxHeartbeats 4000000 in
theorem ct_Flocks_marksOfAny_B_76_i3 {n : Nat} (hn : gb_N ≤ n) {Q : gb_S → Int32 → Prop} {k16 : gb_S → Int32 → Int32 → Int32 → Int32 → gb_CR Int32} {M16 : Nat} (hk16 : ∀ (σ : gb_S) (v3 : Int32) (v4 : Int32) (v5 : Int32) (v6 : Int32), gb_TC σ → gb_iv (-2147483648) 2147483647 v3 → gb_iv (-2147483648) 2147483647 v4 → gb_iv (-2147483648) 2147483647 v5 → gb_iv 0 256 v6 → (256 - v6.toInt).toNat < M16 → gb_tc (k16 σ v3 v4 v5 v6) Q) (hret : ∀ (σ : gb_S) (r : Int32), gb_TC σ → gb_iv (-2147483648) 2147483647 r → Q σ r) : ∀ (σ : gb_S) (v3 : Int32) (v4 : Int32) (v5 : Int32) (v6 : Int32) (t0 : Int32), gb_TC σ → gb_iv 0 63 v3 → gb_iv (-2147483648) 2147483647 v4 → gb_iv (-2147483648) 2147483646 v5 → gb_iv 0 255 v6 → gb_iv 1 1 t0 → (256 - v6.toInt).toNat < M16 + 1 → gb_tc (cs_Flocks_marksOfAny_B_76 n k16 σ v3 v4 v5 v6 t0) Q := by
  intro σ v3 v4 v5 v6 t0 hT iv3 iv4 iv5 iv6 it0 hm16
  unfold cs_Flocks_marksOfAny_B_76
  refine gc_if (fun c_20769 => ?_) (fun c_20769 => ?_)
  · have j_20770 : gb_iv (-2147483648) (-1) v5 := (gb_rU (lo := (-2147483648)) (hi := (-1)) (gb_deq c_20769) iv5 (gb_ic (a := (-1)) (by decide)) (by decide))
    have j_20771 : gb_iv (-1) (-1) v5 := (gb_rL (lo := (-1)) (hi := (-1)) (gb_deq2 c_20769) j_20770 (gb_ic (a := (-1)) (by decide)) (by decide))
    refine gc_ck iv6 (by decide) ?_
    refine gc_lti (lo := (-2147483648)) (hi := 2147483647) (gb_it _) (fun x_19 ex_19 ix_19 => ?_)
    refine gc_lti (lo := 1) (hi := 256) (gb_iadd (lo := 1) (hi := 256) iv6 (gb_ic (a := 1) (by decide)) (by decide)) (fun x_20 ex_20 ix_20 => ?_)
    exact hk16 _ _ _ _ _ hT (gb_iw (lo := (-2147483648)) (hi := 2147483647) iv3 (by decide)) (gb_it _) (gb_it _) (gb_iw (lo := 0) (hi := 256) ix_20 (by decide)) (gb_mup ex_20 iv6 (by decide) hm16)
  · refine gc_if (fun c_20772 => ?_) (fun c_20772 => ?_)
    · exact (gb_em (gb_rU (lo := 1) (hi := 0) (gb_deq c_20772) it0 (gb_ic (a := 0) (by decide)) (by decide)) (by decide)).elim
    · refine gc_ck iv6 (by decide) ?_
      refine gc_lti (lo := (-2147483648)) (hi := 2147483647) (gb_it _) (fun x_24 ex_24 ix_24 => ?_)
      refine gc_lti (lo := 1) (hi := 256) (gb_iadd (lo := 1) (hi := 256) iv6 (gb_ic (a := 1) (by decide)) (by decide)) (fun x_25 ex_25 ix_25 => ?_)
      exact hk16 _ _ _ _ _ hT (gb_iw (lo := (-2147483648)) (hi := 2147483647) iv3 (by decide)) (gb_it _) (gb_it _) (gb_iw (lo := 0) (hi := 256) ix_25 (by decide)) (gb_mup ex_25 iv6 (by decide) hm16)
set_option maxHeartbeats 4000000 in
theorem ct_Flocks_marksOfAny_B_16 {n : Nat} (hn : gb_N ≤ n) {Q : gb_S → Int32 → Prop} (hret : ∀ (σ : gb_S) (r : Int32), gb_TC σ → gb_iv (-2147483648) 2147483647 r → Q σ r) : ∀ (mm : Nat) (σ : gb_S) (v3 : Int32) (v4 : Int32) (v5 : Int32) (v6 : Int32), gb_TC σ → gb_iv (-2147483648) 2147483647 v3 → gb_iv (-2147483648) 2147483647 v4 → gb_iv (-2147483648) 2147483647 v5 → gb_iv 0 256 v6 → (256 - v6.toInt).toNat < mm → gb_tc (cs_Flocks_marksOfAny_B_16 n mm σ v3 v4 v5 v6) Q := by
  intro mm
  induction mm with
  | zero =>
    intro σ v3 v4 v5 v6 hT iv3 iv4 iv5 iv6 hm
    exact absurd hm (Nat.not_lt_zero _)
  | succ mm ih =>
    intro σ v3 v4 v5 v6 hT iv3 iv4 iv5 iv6 hm
    rw [cs_Flocks_marksOfAny_B_16]
    refine gc_if (fun c_20741 => ?_) (fun c_20741 => ?_)
    · exact gc_some (hret _ _ hT (gb_it _))
    · have j_20742 : gb_iv 0 255 v6 := (gb_rU (lo := 0) (hi := 255) (gb_dnle c_20741) iv6 (gc_rd (c := 11) (lo := 0) (hi := 256) hT (rfl : gc_cat 130 = 11) (by decide)) (by decide))
      have j_20743 : gb_iv 1 256 (σ.1 130 4) := (gb_rL (lo := 1) (hi := 256) (gb_dnle c_20741) (gc_rd (c := 11) (lo := 0) (hi := 256) hT (rfl : gc_cat 130 = 11) (by decide)) j_20742 (by decide))
      refine gc_cdP (ct_java_lang_Integer_bitCount hn hT) (fun r_8 qr_8 h_20744 => ?_)
      refine gc_if (fun c_20745 => ?_) (fun c_20745 => ?_)
      · have j_20746 : gb_iv 0 2147483647 v3 := (gb_rL (lo := 0) (hi := 2147483647) (gb_deq c_20745) (gb_it _) h_20744 (by decide))
        have j_20747 : gb_iv 0 63 v3 := (gb_rU (lo := 0) (hi := 63) (gb_deq2 c_20745) j_20746 h_20744 (by decide))
        refine gc_if (fun c_20748 => ?_) (fun c_20748 => ?_)
        · have j_20749 : gb_iv (-2147483648) 0 v4 := (gb_rU (lo := (-2147483648)) (hi := 0) (gb_deq c_20748) (gb_it _) (gb_ic (a := 0) (by decide)) (by decide))
          have j_20750 : gb_iv 0 0 v4 := (gb_rL (lo := 0) (hi := 0) (gb_deq2 c_20748) j_20749 (gb_ic (a := 0) (by decide)) (by decide))
          refine gc_ck j_20742 (by decide) ?_
          refine gc_lti (lo := (-2147483648)) (hi := 2147483647) (gb_it _) (fun x_15 ex_15 ix_15 => ?_)
          refine gc_if (fun c_20751 => ?_) (fun c_20751 => ?_)
          · exact ct_Flocks_marksOfAny_B_76 hn ih hret _ _ _ _ _ _ hT j_20747 j_20750 (gb_it _) j_20742 (gb_ic (a := 0) (by decide)) hm
          · have j_20756 : gb_iv (-2147483648) 2147483646 x_15 := (gb_rU (lo := (-2147483648)) (hi := 2147483646) (gb_dnle c_20751) (gb_it _) (gb_it _) (by decide))
            have j_20757 : gb_iv (-2147483647) 2147483647 v5 := (gb_rL (lo := (-2147483647)) (hi := 2147483647) (gb_dnle c_20751) (gb_it _) j_20756 (by decide))
            exact ct_Flocks_marksOfAny_B_76_i1 hn ih hret _ _ _ _ _ _ hT j_20747 j_20750 j_20757 j_20742 (gb_ic (a := 1) (by decide)) hm
        · refine gc_ck j_20742 (by decide) ?_
          refine gc_lti (lo := (-2147483648)) (hi := 2147483647) (gb_it _) (fun x_27 ex_27 ix_27 => ?_)
          refine gc_if (fun c_20762 => ?_) (fun c_20762 => ?_)
          · exact ct_Flocks_marksOfAny_B_76_i2 hn ih hret _ _ _ _ _ _ hT j_20747 (gb_it _) (gb_it _) j_20742 (gb_ic (a := 0) (by decide)) hm
          · have j_20767 : gb_iv (-2147483648) 2147483646 v5 := (gb_rU (lo := (-2147483648)) (hi := 2147483646) (gb_dnle c_20762) (gb_it _) (gb_it _) (by decide))
            have j_20768 : gb_iv (-2147483647) 2147483647 x_27 := (gb_rL (lo := (-2147483647)) (hi := 2147483647) (gb_dnle c_20762) (gb_it _) j_20767 (by decide))
            exact ct_Flocks_marksOfAny_B_76_i3 hn ih hret _ _ _ _ _ _ hT j_20747 (gb_it _) j_20767 j_20742 (gb_ic (a := 1) (by decide)) hm
      · refine gc_lti (lo := 1) (hi := 256) (gb_iadd (lo := 1) (hi := 256) j_20742 (gb_ic (a := 1) (by decide)) (by decide)) (fun x_12 ex_12 ix_12 => ?_)
        exact ih _ _ _ _ _ hT (gb_it _) (gb_it _) (gb_it _) (gb_iw (lo := 0) (hi := 256) ix_12 (by decide)) (gb_mup ex_12 j_20742 (by decide) hm)
set_option maxHeartbeats 4000000 in
theorem ct_Flocks_marksOfAny_B {n : Nat} (hn : gb_N ≤ n) {σ : gb_S} {p1 : Nat} {p2 : Int32} {p3 : Int32} {p4 : Int32} (hT : gb_TC σ) (hp1 : gb_kB p1 = true) (ip2 : gb_iv 0 4 p2) : gb_tc (cs_Flocks_marksOfAny_B n σ p1 p2 p3 p4) (fun s r => gb_TC s ∧ gb_iv (-2147483648) 2147483647 r) := by
  unfold cs_Flocks_marksOfAny_B
  refine gc_kk hp1 ?_
  refine gc_cdT (ct_Flocks_sumUp_B_c131 hn hT hp1 ip2) (fun s_2 u_19760 hTs_2 _ => ?_)
  exact ct_Flocks_marksOfAny_B_16 hn (fun _ _ hT h => ⟨hT, h⟩) n _ _ _ _ _ hTs_2 (gb_it _) (gb_it _) (gb_iw (lo := (-2147483648)) (hi := 2147483647) (gb_ic (a := (-1)) (by decide)) (by decide)) (gb_iw (lo := 0) (hi := 256) (gb_ic (a := 0) (by decide)) (by decide)) (gb_fuu hn (gb_iw (lo := 0) (hi := 256) (gb_ic (a := 0) (by decide)) (by decide)) (by decide))
set_option maxHeartbeats 4000000 in
theorem ct_Face_span {n : Nat} (hn : gb_N ≤ n) {σ : gb_S} {p1 : Int32} {p2 : Int32} {p3 : Int32} {p4 : Int32} (hT : gb_TC σ) : gb_tc (cs_Face_span n σ p1 p2 p3 p4) (fun s r => gb_TC s ∧ gb_iv (-2147483648) 2147483647 r) := by
  unfold cs_Face_span
  refine gc_cdP (ct_Face_borderAt hn hT) (fun r_2 qr_2 h_20788 => ?_)
  refine gc_if (fun c_20789 => ?_) (fun c_20789 => ?_)
  · exact gc_some ⟨hT, (gb_iw (lo := (-2147483648)) (hi := 2147483647) (gb_ic (a := (-1)) (by decide)) (by decide))⟩
  · refine gc_kk (Or.resolve_left h_20788 c_20789) ?_
    refine gc_cdP (ct_Border_hasPath_B hn hT (Or.resolve_left h_20788 c_20789)) (fun r_8 qr_8 h_20790 => ?_)
    refine gc_if (fun c_20791 => ?_) (fun c_20791 => ?_)
    · have j_20792 : gb_iv 0 0 r_8 := (gb_rU (lo := 0) (hi := 0) (gb_deq c_20791) h_20790.1 (gb_ic (a := 0) (by decide)) (by decide))
      exact gc_some ⟨hT, (gb_iw (lo := (-2147483648)) (hi := 2147483647) (gb_ic (a := (-1)) (by decide)) (by decide))⟩
    · have j_20793 : gb_iv 1 1 r_8 := (gb_rN (lo := 1) (hi := 1) (v := 0) c_20791 h_20790.1 (by decide) (by decide))
      have j_20794 : gb_iv 0 4 p2 := (h_20790.2 c_20791)
      refine gc_if (fun c_20795 => ?_) (fun c_20795 => ?_)
      · have j_20796 : gb_iv (-2147483648) (-1) p3 := (gb_rU (lo := (-2147483648)) (hi := (-1)) (gb_dlt c_20795) (gb_it _) (gb_ic (a := 0) (by decide)) (by decide))
        exact gc_some ⟨hT, (gb_iw (lo := (-2147483648)) (hi := 2147483647) (gb_ic (a := (-1)) (by decide)) (by decide))⟩
      · have j_20797 : gb_iv 0 2147483647 p3 := (gb_rL (lo := 0) (hi := 2147483647) (gb_dnlt c_20795) (gb_it _) (gb_ic (a := 0) (by decide)) (by decide))
        refine gc_cdP (ct_Border_geese_B hn hT (Or.resolve_left h_20788 c_20789)) (fun r_14 qr_14 h_20798 => ?_)
        refine gc_if (fun c_20799 => ?_) (fun c_20799 => ?_)
        · have j_20800 : gb_iv 0 8 p3 := (gb_rU (lo := 0) (hi := 8) (gb_dle c_20799) j_20797 h_20798 (by decide))
          refine gc_cdT (ct_Flocks_marksOfAny_B hn hT (Or.resolve_left h_20788 c_20789) j_20794) (fun s_18 r_19 hTs_18 h_20801 => ?_)
          exact gc_some ⟨hTs_18, (gb_it _)⟩
        · have j_20802 : gb_iv 1 2147483647 p3 := (gb_rL (lo := 1) (hi := 2147483647) (gb_dnle c_20799) j_20797 h_20798 (by decide))
          exact gc_some ⟨hT, (gb_iw (lo := (-2147483648)) (hi := 2147483647) (gb_ic (a := (-1)) (by decide)) (by decide))⟩
set_option maxHeartbeats 4000000 in
theorem ct_Flocks_paysAll_B_3 {n : Nat} (hn : gb_N ≤ n) {Q : gb_S → Int32 → Prop} {σ : gb_S} (hT : gb_TC σ) (hret : ∀ (r : Int32), gb_iv 0 1 r → Q σ r) : ∀ (mm : Nat) (v1 : Nat) (v2 : Int32) (v3 : Int32) (v4 : Int32), gb_kB v1 = true → gb_iv 0 255 v2 → gb_iv 0 4 v3 → gb_iv 0 8 v4 → (8 - v4.toInt).toNat < mm → gb_tc (cs_Flocks_paysAll_B_3 n mm σ v1 v2 v3 v4) Q := by
  intro mm
  induction mm with
  | zero =>
    intro v1 v2 v3 v4 hv1 iv2 iv3 iv4 hm
    exact absurd hm (Nat.not_lt_zero _)
  | succ mm ih =>
    intro v1 v2 v3 v4 hv1 iv2 iv3 iv4 hm
    rw [cs_Flocks_paysAll_B_3]
    refine gc_kk hv1 ?_
    refine gc_cdP (ct_Border_geese_B hn hT hv1) (fun r_4 qr_4 h_21193 => ?_)
    refine gc_if (fun c_21194 => ?_) (fun c_21194 => ?_)
    · exact gc_some (hret _ (gb_iw (lo := 0) (hi := 1) (gb_ic (a := 0) (by decide)) (by decide)))
    · have j_21195 : gb_iv 0 7 v4 := (gb_rU (lo := 0) (hi := 7) (gb_dnle c_21194) iv4 h_21193 (by decide))
      have j_21196 : gb_iv 1 8 r_4 := (gb_rL (lo := 1) (hi := 8) (gb_dnle c_21194) h_21193 j_21195 (by decide))
      refine gc_lti (lo := 0) (hi := 255) (gb_iand (lo := 0) (hi := 255) iv2 (by decide)) (fun x_8 ex_8 ix_8 => ?_)
      refine gc_if (fun c_21197 => ?_) (fun c_21197 => ?_)
      · refine gc_lti (lo := 1) (hi := 8) (gb_iadd (lo := 1) (hi := 8) j_21195 (gb_ic (a := 1) (by decide)) (by decide)) (fun x_10 ex_10 ix_10 => ?_)
        exact ih _ _ _ _ hv1 iv2 iv3 (gb_iw (lo := 0) (hi := 8) ix_10 (by decide)) (gb_mup ex_10 j_21195 (by decide) hm)
      · refine gc_kk (gc_q4 hT) ?_
        refine gc_ck ix_8 (by decide) ?_
        refine gc_lt (fun x_13 ex_13 => ?_)
        refine gc_if (fun c_21198 => ?_) (fun c_21198 => ?_)
        · have j_21199 : gb_iv (-2147483648) 0 (lg_cmp x_13 (1 : Int64)) := (gb_rU (lo := (-2147483648)) (hi := 0) (gb_deq c_21198) (gb_it _) (gb_ic (a := 0) (by decide)) (by decide))
          have j_21200 : gb_iv 0 0 (lg_cmp x_13 (1 : Int64)) := (gb_rL (lo := 0) (hi := 0) (gb_deq2 c_21198) j_21199 (gb_ic (a := 0) (by decide)) (by decide))
          refine gc_cdP (ct_Border_marksFirst_B hn hT hv1 j_21195 iv3) (fun r_17 qr_17 h_21201 => ?_)
          refine gc_cdP (ct_Border_payOf_B hn hT hv1 iv3) (fun r_21 qr_21 h_21202 => ?_)
          refine gc_if (fun c_21203 => ?_) (fun c_21203 => ?_)
          · have j_21204 : gb_iv (-2147483648) 0 r_21 := (gb_rU (lo := (-2147483648)) (hi := 0) (gb_dle c_21203) (gb_it _) (gb_ic (a := 0) (by decide)) (by decide))
            refine gc_lti (lo := 1) (hi := 8) (gb_iadd (lo := 1) (hi := 8) j_21195 (gb_ic (a := 1) (by decide)) (by decide)) (fun x_25 ex_25 ix_25 => ?_)
            exact ih _ _ _ _ hv1 iv2 iv3 (gb_iw (lo := 0) (hi := 8) ix_25 (by decide)) (gb_mup ex_25 j_21195 (by decide) hm)
          · have j_21205 : gb_iv 1 2147483647 r_21 := (gb_rL (lo := 1) (hi := 2147483647) (gb_dnle c_21203) (gb_it _) (gb_ic (a := 0) (by decide)) (by decide))
            exact gc_some (hret _ (gb_iw (lo := 0) (hi := 1) (gb_ic (a := 1) (by decide)) (by decide)))
        · refine gc_lti (lo := 1) (hi := 8) (gb_iadd (lo := 1) (hi := 8) j_21195 (gb_ic (a := 1) (by decide)) (by decide)) (fun x_15 ex_15 ix_15 => ?_)
          exact ih _ _ _ _ hv1 iv2 iv3 (gb_iw (lo := 0) (hi := 8) ix_15 (by decide)) (gb_mup ex_15 j_21195 (by decide) hm)
set_option maxHeartbeats 4000000 in
theorem ct_Flocks_paysAll_B {n : Nat} (hn : gb_N ≤ n) {σ : gb_S} {p1 : Nat} {p2 : Int32} {p3 : Int32} (hT : gb_TC σ) (hp1 : gb_kB p1 = true) (ip2 : gb_iv 0 255 p2) (ip3 : gb_iv 0 4 p3) : gb_tc (cs_Flocks_paysAll_B n σ p1 p2 p3) (fun s r => s = σ ∧ gb_iv 0 1 r) := by
  unfold cs_Flocks_paysAll_B
  refine gc_kk hp1 ?_
  exact ct_Flocks_paysAll_B_3 hn hT (fun _ h => ⟨rfl, h⟩) n _ _ _ _ hp1 ip2 ip3 (gb_iw (lo := 0) (hi := 8) (gb_ic (a := 0) (by decide)) (by decide)) (gb_fuu hn (gb_iw (lo := 0) (hi := 8) (gb_ic (a := 0) (by decide)) (by decide)) (by decide))
set_option maxHeartbeats 4000000 in
theorem ct_java_util_Arrays_fillJ_J_6 {n : Nat} (hn : gb_N ≤ n) {Q : gb_S → Unit → Prop} (hret : ∀ (σ : gb_S) (r : Unit), gb_TC σ → True → Q σ r) : ∀ (mm : Nat) (σ : gb_S) (v0 : Nat) (v1 : Int64) (v3 : Int32) (v4 : Int32), gb_TC σ → gb_kJ v0 = true → gb_iv 0 256 v3 → gb_iv 256 256 v4 → (256 - v3.toInt).toNat < mm → gb_tc (cs_java_util_Arrays_fillJ_J_6 n mm σ v0 v1 v3 v4) Q := by
  intro mm
  induction mm with
  | zero =>
    intro σ v0 v1 v3 v4 hT hv0 iv3 iv4 hm
    exact absurd hm (Nat.not_lt_zero _)
  | succ mm ih =>
    intro σ v0 v1 v3 v4 hT hv0 iv3 iv4 hm
    rw [cs_java_util_Arrays_fillJ_J_6]
    refine gc_kk hv0 ?_
    refine gc_if (fun c_21300 => ?_) (fun c_21300 => ?_)
    · have j_21301 : gb_iv 256 256 v3 := (gb_rL (lo := 256) (hi := 256) (gb_dle c_21300) iv3 iv4 (by decide))
      exact gc_some (hret _ _ hT trivial)
    · have j_21302 : gb_iv 0 255 v3 := (gb_rU (lo := 0) (hi := 255) (gb_dnle c_21300) iv3 iv4 (by decide))
      refine gc_ck j_21302 (by decide) ?_
      refine gc_ltT (gc_sg hT) (fun s_5 es_5 hTs_5 => ?_)
      refine gc_lti (lo := 1) (hi := 256) (gb_iadd (lo := 1) (hi := 256) j_21302 (gb_ic (a := 1) (by decide)) (by decide)) (fun x_6 ex_6 ix_6 => ?_)
      exact ih _ _ _ _ _ hTs_5 hv0 (gb_iw (lo := 0) (hi := 256) ix_6 (by decide)) iv4 (gb_mup ex_6 j_21302 (by decide) hm)
set_option maxHeartbeats 4000000 in
theorem ct_java_util_Arrays_fillJ_J {n : Nat} (hn : gb_N ≤ n) {σ : gb_S} {p1 : Nat} {p2 : Int64} (hT : gb_TC σ) (hp1 : gb_kJ p1 = true) : gb_tc (cs_java_util_Arrays_fillJ_J n σ p1 p2) (fun s _ => gb_TC s ∧ True) := by
  unfold cs_java_util_Arrays_fillJ_J
  refine gc_kk hp1 ?_
  exact ct_java_util_Arrays_fillJ_J_6 hn (fun _ _ hT h => ⟨hT, h⟩) n _ _ _ _ _ hT hp1 (gb_iw (lo := 0) (hi := 256) (gb_ic (a := 0) (by decide)) (by decide)) (gb_ic (a := 256) (by decide)) (gb_fuu hn (gb_iw (lo := 0) (hi := 256) (gb_ic (a := 0) (by decide)) (by decide)) (by decide))
set_option maxHeartbeats 4000000 in
theorem ct_Flocks_allWays_4 {n : Nat} (hn : gb_N ≤ n) {Q : gb_S → Int64 → Prop} {σ : gb_S} (hT : gb_TC σ) (hret : ∀ (r : Int64), True → Q σ r) : ∀ (mm : Nat) (v1 : Int64) (v3 : Int32), gb_iv 0 256 v3 → (256 - v3.toInt).toNat < mm → gb_tc (cs_Flocks_allWays_4 n mm σ v1 v3) Q := by
  intro mm
  induction mm with
  | zero =>
    intro v1 v3 iv3 hm
    exact absurd hm (Nat.not_lt_zero _)
  | succ mm ih =>
    intro v1 v3 iv3 hm
    rw [cs_Flocks_allWays_4]
    refine gc_if (fun c_21489 => ?_) (fun c_21489 => ?_)
    · exact gc_some (hret _ trivial)
    · have j_21490 : gb_iv 0 255 v3 := (gb_rU (lo := 0) (hi := 255) (gb_dnle c_21489) iv3 (gc_rd (c := 11) (lo := 0) (hi := 256) hT (rfl : gc_cat 130 = 11) (by decide)) (by decide))
      have j_21491 : gb_iv 1 256 (σ.1 130 4) := (gb_rL (lo := 1) (hi := 256) (gb_dnle c_21489) (gc_rd (c := 11) (lo := 0) (hi := 256) hT (rfl : gc_cat 130 = 11) (by decide)) j_21490 (by decide))
      refine gc_kk (gc_q4 hT) ?_
      refine gc_ck j_21490 (by decide) ?_
      refine gc_lt (fun x_4 ex_4 => ?_)
      refine gc_lt (fun x_5 ex_5 => ?_)
      refine gc_lti (lo := 1) (hi := 256) (gb_iadd (lo := 1) (hi := 256) j_21490 (gb_ic (a := 1) (by decide)) (by decide)) (fun x_6 ex_6 ix_6 => ?_)
      exact ih _ _ (gb_iw (lo := 0) (hi := 256) ix_6 (by decide)) (gb_mup ex_6 j_21490 (by decide) hm)
set_option maxHeartbeats 4000000 in
theorem ct_Flocks_allWays {n : Nat} (hn : gb_N ≤ n) {σ : gb_S} (hT : gb_TC σ) : gb_tc (cs_Flocks_allWays n σ) (fun s _ => s = σ ∧ True) := by
  unfold cs_Flocks_allWays
  exact ct_Flocks_allWays_4 hn hT (fun _ h => ⟨rfl, h⟩) n _ _ (gb_iw (lo := 0) (hi := 256) (gb_ic (a := 0) (by decide)) (by decide)) (gb_fuu hn (gb_iw (lo := 0) (hi := 256) (gb_ic (a := 0) (by decide)) (by decide)) (by decide))
set_option maxHeartbeats 4000000 in
theorem ct_Flocks_fewestGone_5 {n : Nat} (hn : gb_N ≤ n) {Q : gb_S → Int32 → Prop} {σ : gb_S} (hT : gb_TC σ) (hret : ∀ (r : Int32), gb_iv 0 8 r → Q σ r) : ∀ (mm : Nat) (v1 : Int32) (v2 : Int32), gb_iv 0 8 v1 → gb_iv 0 256 v2 → (256 - v2.toInt).toNat < mm → gb_tc (cs_Flocks_fewestGone_5 n mm σ v1 v2) Q := by
  intro mm
  induction mm with
  | zero =>
    intro v1 v2 iv1 iv2 hm
    exact absurd hm (Nat.not_lt_zero _)
  | succ mm ih =>
    intro v1 v2 iv1 iv2 hm
    rw [cs_Flocks_fewestGone_5]
    refine gc_if (fun c_21926 => ?_) (fun c_21926 => ?_)
    · exact gc_some (hret _ iv1)
    · have j_21927 : gb_iv 0 255 v2 := (gb_rU (lo := 0) (hi := 255) (gb_dnle c_21926) iv2 (gc_rd (c := 11) (lo := 0) (hi := 256) hT (rfl : gc_cat 130 = 11) (by decide)) (by decide))
      have j_21928 : gb_iv 1 256 (σ.1 130 4) := (gb_rL (lo := 1) (hi := 256) (gb_dnle c_21926) (gc_rd (c := 11) (lo := 0) (hi := 256) hT (rfl : gc_cat 130 = 11) (by decide)) j_21927 (by decide))
      refine gc_kk (gc_q4 hT) ?_
      refine gc_ck j_21927 (by decide) ?_
      refine gc_lt (fun x_4 ex_4 => ?_)
      refine gc_if (fun c_21929 => ?_) (fun c_21929 => ?_)
      · have j_21930 : gb_iv (-2147483648) 0 (lg_cmp x_4 (0 : Int64)) := (gb_rU (lo := (-2147483648)) (hi := 0) (gb_dle c_21929) (gb_it _) (gb_ic (a := 0) (by decide)) (by decide))
        refine gc_lti (lo := 1) (hi := 256) (gb_iadd (lo := 1) (hi := 256) j_21927 (gb_ic (a := 1) (by decide)) (by decide)) (fun x_6 ex_6 ix_6 => ?_)
        exact ih _ _ iv1 (gb_iw (lo := 0) (hi := 256) ix_6 (by decide)) (gb_mup ex_6 j_21927 (by decide) hm)
      · have j_21931 : gb_iv 1 2147483647 (lg_cmp x_4 (0 : Int64)) := (gb_rL (lo := 1) (hi := 2147483647) (gb_dnle c_21929) (gb_it _) (gb_ic (a := 0) (by decide)) (by decide))
        refine gc_cdP (ct_java_lang_Integer_bitCount hn hT) (fun r_8 qr_8 h_21932 => ?_)
        refine gc_lti (lo := 0) (hi := 8) (gb_imin (lo := 0) (hi := 8) iv1 h_21932 (by decide)) (fun x_11 ex_11 ix_11 => ?_)
        refine gc_lti (lo := 1) (hi := 256) (gb_iadd (lo := 1) (hi := 256) j_21927 (gb_ic (a := 1) (by decide)) (by decide)) (fun x_12 ex_12 ix_12 => ?_)
        exact ih _ _ ix_11 (gb_iw (lo := 0) (hi := 256) ix_12 (by decide)) (gb_mup ex_12 j_21927 (by decide) hm)
set_option maxHeartbeats 4000000 in
theorem ct_Flocks_fewestGone {n : Nat} (hn : gb_N ≤ n) {σ : gb_S} (hT : gb_TC σ) : gb_tc (cs_Flocks_fewestGone n σ) (fun s r => s = σ ∧ gb_iv 0 8 r) := by
  unfold cs_Flocks_fewestGone
  exact ct_Flocks_fewestGone_5 hn hT (fun _ h => ⟨rfl, h⟩) n _ _ (gb_iw (lo := 0) (hi := 8) (gb_ic (a := 8) (by decide)) (by decide)) (gb_iw (lo := 0) (hi := 256) (gb_ic (a := 0) (by decide)) (by decide)) (gb_fuu hn (gb_iw (lo := 0) (hi := 256) (gb_ic (a := 0) (by decide)) (by decide)) (by decide))
set_option maxHeartbeats 4000000 in
theorem ct_Flocks_mostGone_4 {n : Nat} (hn : gb_N ≤ n) {Q : gb_S → Int32 → Prop} {σ : gb_S} (hT : gb_TC σ) (hret : ∀ (r : Int32), gb_iv 0 63 r → Q σ r) : ∀ (mm : Nat) (v1 : Int32) (v2 : Int32), gb_iv 0 63 v1 → gb_iv 0 256 v2 → (256 - v2.toInt).toNat < mm → gb_tc (cs_Flocks_mostGone_4 n mm σ v1 v2) Q := by
  intro mm
  induction mm with
  | zero =>
    intro v1 v2 iv1 iv2 hm
    exact absurd hm (Nat.not_lt_zero _)
  | succ mm ih =>
    intro v1 v2 iv1 iv2 hm
    rw [cs_Flocks_mostGone_4]
    refine gc_if (fun c_22367 => ?_) (fun c_22367 => ?_)
    · exact gc_some (hret _ iv1)
    · have j_22368 : gb_iv 0 255 v2 := (gb_rU (lo := 0) (hi := 255) (gb_dnle c_22367) iv2 (gc_rd (c := 11) (lo := 0) (hi := 256) hT (rfl : gc_cat 130 = 11) (by decide)) (by decide))
      have j_22369 : gb_iv 1 256 (σ.1 130 4) := (gb_rL (lo := 1) (hi := 256) (gb_dnle c_22367) (gc_rd (c := 11) (lo := 0) (hi := 256) hT (rfl : gc_cat 130 = 11) (by decide)) j_22368 (by decide))
      refine gc_kk (gc_q4 hT) ?_
      refine gc_ck j_22368 (by decide) ?_
      refine gc_lt (fun x_4 ex_4 => ?_)
      refine gc_if (fun c_22370 => ?_) (fun c_22370 => ?_)
      · have j_22371 : gb_iv (-2147483648) 0 (lg_cmp x_4 (0 : Int64)) := (gb_rU (lo := (-2147483648)) (hi := 0) (gb_dle c_22370) (gb_it _) (gb_ic (a := 0) (by decide)) (by decide))
        refine gc_lti (lo := 1) (hi := 256) (gb_iadd (lo := 1) (hi := 256) j_22368 (gb_ic (a := 1) (by decide)) (by decide)) (fun x_6 ex_6 ix_6 => ?_)
        exact ih _ _ iv1 (gb_iw (lo := 0) (hi := 256) ix_6 (by decide)) (gb_mup ex_6 j_22368 (by decide) hm)
      · have j_22372 : gb_iv 1 2147483647 (lg_cmp x_4 (0 : Int64)) := (gb_rL (lo := 1) (hi := 2147483647) (gb_dnle c_22370) (gb_it _) (gb_ic (a := 0) (by decide)) (by decide))
        refine gc_cdP (ct_java_lang_Integer_bitCount hn hT) (fun r_8 qr_8 h_22373 => ?_)
        refine gc_lti (lo := 0) (hi := 63) (gb_imax (lo := 0) (hi := 63) iv1 h_22373 (by decide)) (fun x_11 ex_11 ix_11 => ?_)
        refine gc_lti (lo := 1) (hi := 256) (gb_iadd (lo := 1) (hi := 256) j_22368 (gb_ic (a := 1) (by decide)) (by decide)) (fun x_12 ex_12 ix_12 => ?_)
        exact ih _ _ ix_11 (gb_iw (lo := 0) (hi := 256) ix_12 (by decide)) (gb_mup ex_12 j_22368 (by decide) hm)
set_option maxHeartbeats 4000000 in
theorem ct_Flocks_mostGone {n : Nat} (hn : gb_N ≤ n) {σ : gb_S} (hT : gb_TC σ) : gb_tc (cs_Flocks_mostGone n σ) (fun s r => s = σ ∧ gb_iv 0 63 r) := by
  unfold cs_Flocks_mostGone
  exact ct_Flocks_mostGone_4 hn hT (fun _ h => ⟨rfl, h⟩) n _ _ (gb_iw (lo := 0) (hi := 63) (gb_ic (a := 0) (by decide)) (by decide)) (gb_iw (lo := 0) (hi := 256) (gb_ic (a := 0) (by decide)) (by decide)) (gb_fuu hn (gb_iw (lo := 0) (hi := 256) (gb_ic (a := 0) (by decide)) (by decide)) (by decide))
set_option maxHeartbeats 4000000 in
theorem ct_Flocks_sureOnes_9 {n : Nat} (hn : gb_N ≤ n) {Q : gb_S → Int32 → Prop} {σ : gb_S} (hT : gb_TC σ) (hret : ∀ (r : Int32), gb_iv (-1) 255 r → Q σ r) : ∀ (mm : Nat) (v1 : Int32) (v2 : Int32), gb_iv (-1) 255 v1 → gb_iv 0 256 v2 → (256 - v2.toInt).toNat < mm → gb_tc (cs_Flocks_sureOnes_9 n mm σ v1 v2) Q := by
  intro mm
  induction mm with
  | zero =>
    intro v1 v2 iv1 iv2 hm
    exact absurd hm (Nat.not_lt_zero _)
  | succ mm ih =>
    intro v1 v2 iv1 iv2 hm
    rw [cs_Flocks_sureOnes_9]
    refine gc_if (fun c_22746 => ?_) (fun c_22746 => ?_)
    · exact gc_some (hret _ iv1)
    · have j_22747 : gb_iv 0 255 v2 := (gb_rU (lo := 0) (hi := 255) (gb_dnle c_22746) iv2 (gc_rd (c := 11) (lo := 0) (hi := 256) hT (rfl : gc_cat 130 = 11) (by decide)) (by decide))
      have j_22748 : gb_iv 1 256 (σ.1 130 4) := (gb_rL (lo := 1) (hi := 256) (gb_dnle c_22746) (gc_rd (c := 11) (lo := 0) (hi := 256) hT (rfl : gc_cat 130 = 11) (by decide)) j_22747 (by decide))
      refine gc_kk (gc_q4 hT) ?_
      refine gc_ck j_22747 (by decide) ?_
      refine gc_lt (fun x_5 ex_5 => ?_)
      refine gc_if (fun c_22749 => ?_) (fun c_22749 => ?_)
      · have j_22750 : gb_iv (-2147483648) 0 (lg_cmp x_5 (0 : Int64)) := (gb_rU (lo := (-2147483648)) (hi := 0) (gb_dle c_22749) (gb_it _) (gb_ic (a := 0) (by decide)) (by decide))
        refine gc_lti (lo := 1) (hi := 256) (gb_iadd (lo := 1) (hi := 256) j_22747 (gb_ic (a := 1) (by decide)) (by decide)) (fun x_7 ex_7 ix_7 => ?_)
        exact ih _ _ iv1 (gb_iw (lo := 0) (hi := 256) ix_7 (by decide)) (gb_mup ex_7 j_22747 (by decide) hm)
      · have j_22751 : gb_iv 1 2147483647 (lg_cmp x_5 (0 : Int64)) := (gb_rL (lo := 1) (hi := 2147483647) (gb_dnle c_22749) (gb_it _) (gb_ic (a := 0) (by decide)) (by decide))
        refine gc_lti (lo := 0) (hi := 255) (gb_iandr (lo := 0) (hi := 255) j_22747 (by decide)) (fun x_8 ex_8 ix_8 => ?_)
        refine gc_lti (lo := 1) (hi := 256) (gb_iadd (lo := 1) (hi := 256) j_22747 (gb_ic (a := 1) (by decide)) (by decide)) (fun x_9 ex_9 ix_9 => ?_)
        exact ih _ _ (gb_iw (lo := (-1)) (hi := 255) ix_8 (by decide)) (gb_iw (lo := 0) (hi := 256) ix_9 (by decide)) (gb_mup ex_9 j_22747 (by decide) hm)
set_option maxHeartbeats 4000000 in
theorem ct_Flocks_sureOnes {n : Nat} (hn : gb_N ≤ n) {σ : gb_S} (hT : gb_TC σ) : gb_tc (cs_Flocks_sureOnes n σ) (fun s r => s = σ ∧ gb_iv (-1) 255 r) := by
  unfold cs_Flocks_sureOnes
  refine gc_lti (lo := (-1)) (hi := 255) (gb_isub (lo := (-1)) (hi := 255) (gc_rd (c := 11) (lo := 0) (hi := 256) hT (rfl : gc_cat 130 = 11) (by decide)) (gb_ic (a := 1) (by decide)) (by decide)) (fun x_1 ex_1 ix_1 => ?_)
  exact ct_Flocks_sureOnes_9 hn hT (fun _ h => ⟨rfl, h⟩) n _ _ ix_1 (gb_iw (lo := 0) (hi := 256) (gb_ic (a := 0) (by decide)) (by decide)) (gb_fuu hn (gb_iw (lo := 0) (hi := 256) (gb_ic (a := 0) (by decide)) (by decide)) (by decide))
set_option maxHeartbeats 4000000 in
theorem ct_Flocks_nearest_B_16 {n : Nat} (hn : gb_N ≤ n) {Q : gb_S → Int32 → Prop} (hret : ∀ (σ : gb_S) (r : Int32), gb_TC σ → gb_iv 0 255 r → Q σ r) : ∀ (mm : Nat) (σ : gb_S) (v3 : Int32) (v4 : Int32) (v5 : Int32), gb_TC σ → gb_iv (-2147483648) 2147483647 v3 → gb_iv 0 255 v4 → gb_iv 1 256 v5 → (256 - v5.toInt).toNat < mm → gb_tc (cs_Flocks_nearest_B_16 n mm σ v3 v4 v5) Q := by
  intro mm
  induction mm with
  | zero =>
    intro σ v3 v4 v5 hT iv3 iv4 iv5 hm
    exact absurd hm (Nat.not_lt_zero _)
  | succ mm ih =>
    intro σ v3 v4 v5 hT iv3 iv4 iv5 hm
    rw [cs_Flocks_nearest_B_16]
    refine gc_if (fun c_23114 => ?_) (fun c_23114 => ?_)
    · exact gc_some (hret _ _ hT iv4)
    · have j_23115 : gb_iv 1 255 v5 := (gb_rU (lo := 1) (hi := 255) (gb_dnle c_23114) iv5 (gc_rd (c := 11) (lo := 0) (hi := 256) hT (rfl : gc_cat 130 = 11) (by decide)) (by decide))
      have j_23116 : gb_iv 2 256 (σ.1 130 4) := (gb_rL (lo := 2) (hi := 256) (gb_dnle c_23114) (gc_rd (c := 11) (lo := 0) (hi := 256) hT (rfl : gc_cat 130 = 11) (by decide)) j_23115 (by decide))
      refine gc_ck j_23115 (by decide) ?_
      refine gc_lti (lo := (-2147483648)) (hi := 2147483647) (gb_it _) (fun x_8 ex_8 ix_8 => ?_)
      refine gc_lti (lo := (-2147483648)) (hi := 2147483647) (gb_iite (gb_iw (lo := (-2147483648)) (hi := 2147483647) (gb_it _) (by decide)) (gb_iw (lo := (-2147483648)) (hi := 2147483647) (gb_it _) (by decide))) (fun x_9 ex_9 ix_9 => ?_)
      refine gc_ck iv4 (by decide) ?_
      refine gc_lti (lo := (-2147483648)) (hi := 2147483647) (gb_it _) (fun x_11 ex_11 ix_11 => ?_)
      refine gc_lti (lo := (-2147483648)) (hi := 2147483647) (gb_iite (gb_iw (lo := (-2147483648)) (hi := 2147483647) (gb_it _) (by decide)) (gb_iw (lo := (-2147483648)) (hi := 2147483647) (gb_it _) (by decide))) (fun x_12 ex_12 ix_12 => ?_)
      refine gc_if (fun c_23117 => ?_) (fun c_23117 => ?_)
      · refine gc_lti (lo := 2) (hi := 256) (gb_iadd (lo := 2) (hi := 256) j_23115 (gb_ic (a := 1) (by decide)) (by decide)) (fun x_14 ex_14 ix_14 => ?_)
        exact ih _ _ _ _ hT (gb_it _) iv4 (gb_iw (lo := 1) (hi := 256) ix_14 (by decide)) (gb_mup ex_14 j_23115 (by decide) hm)
      · have j_23118 : gb_iv (-2147483648) 2147483646 x_9 := (gb_rU (lo := (-2147483648)) (hi := 2147483646) (gb_dnle c_23117) (gb_it _) (gb_it _) (by decide))
        have j_23119 : gb_iv (-2147483647) 2147483647 x_12 := (gb_rL (lo := (-2147483647)) (hi := 2147483647) (gb_dnle c_23117) (gb_it _) j_23118 (by decide))
        refine gc_lti (lo := 2) (hi := 256) (gb_iadd (lo := 2) (hi := 256) j_23115 (gb_ic (a := 1) (by decide)) (by decide)) (fun x_15 ex_15 ix_15 => ?_)
        exact ih _ _ _ _ hT (gb_it _) (gb_iw (lo := 0) (hi := 255) j_23115 (by decide)) (gb_iw (lo := 1) (hi := 256) ix_15 (by decide)) (gb_mup ex_15 j_23115 (by decide) hm)
set_option maxHeartbeats 4000000 in
theorem ct_Flocks_nearest_B {n : Nat} (hn : gb_N ≤ n) {σ : gb_S} {p1 : Nat} {p2 : Int32} {p3 : Int32} (hT : gb_TC σ) (hp1 : gb_kB p1 = true) (ip2 : gb_iv 0 4 p2) : gb_tc (cs_Flocks_nearest_B n σ p1 p2 p3) (fun s r => gb_TC s ∧ gb_iv 0 255 r) := by
  unfold cs_Flocks_nearest_B
  refine gc_kk hp1 ?_
  refine gc_cdT (ct_Flocks_sumUp_B_c131 hn hT hp1 ip2) (fun s_2 u_22933 hTs_2 _ => ?_)
  exact ct_Flocks_nearest_B_16 hn (fun _ _ hT h => ⟨hT, h⟩) n _ _ _ _ hTs_2 (gb_it _) (gb_iw (lo := 0) (hi := 255) (gb_ic (a := 0) (by decide)) (by decide)) (gb_iw (lo := 1) (hi := 256) (gb_ic (a := 1) (by decide)) (by decide)) (gb_fuu hn (gb_iw (lo := 1) (hi := 256) (gb_ic (a := 1) (by decide)) (by decide)) (by decide))
set_option maxHeartbeats 4000000 in
theorem ct_Face_near {n : Nat} (hn : gb_N ≤ n) {σ : gb_S} {p1 : Int32} {p2 : Int32} {p3 : Int32} (hT : gb_TC σ) : gb_tc (cs_Face_near n σ p1 p2 p3) (fun s r => gb_TC s ∧ gb_iv (-1) 255 r) := by
  unfold cs_Face_near
  refine gc_cdP (ct_Face_borderAt hn hT) (fun r_2 qr_2 h_23141 => ?_)
  refine gc_if (fun c_23142 => ?_) (fun c_23142 => ?_)
  · refine gc_cdP (ct_Face_dawnAt hn hT) (fun r_7 qr_7 h_23143 => ?_)
    refine gc_if (fun c_23144 => ?_) (fun c_23144 => ?_)
    · exact gc_some ⟨hT, (gb_iw (lo := (-1)) (hi := 255) (gb_ic (a := (-1)) (by decide)) (by decide))⟩
    · refine gc_kk (Or.resolve_left h_23143 c_23144) ?_
      exact gc_some ⟨hT, (gb_iw (lo := (-1)) (hi := 255) (gb_ic (a := (-1)) (by decide)) (by decide))⟩
  · refine gc_kk (Or.resolve_left h_23141 c_23142) ?_
    refine gc_cdP (ct_Face_dawnAt hn hT) (fun r_14 qr_14 h_23145 => ?_)
    refine gc_if (fun c_23146 => ?_) (fun c_23146 => ?_)
    · exact gc_some ⟨hT, (gb_iw (lo := (-1)) (hi := 255) (gb_ic (a := (-1)) (by decide)) (by decide))⟩
    · refine gc_kk (Or.resolve_left h_23145 c_23146) ?_
      refine gc_if (fun c_23147 => ?_) (fun c_23147 => ?_)
      · have j_23148 : gb_iv (-2147483648) (-1) p3 := (gb_rU (lo := (-2147483648)) (hi := (-1)) (gb_dlt c_23147) (gb_it _) (gb_ic (a := 0) (by decide)) (by decide))
        exact gc_some ⟨hT, (gb_iw (lo := (-1)) (hi := 255) (gb_ic (a := (-1)) (by decide)) (by decide))⟩
      · have j_23149 : gb_iv 0 2147483647 p3 := (gb_rL (lo := 0) (hi := 2147483647) (gb_dnlt c_23147) (gb_it _) (gb_ic (a := 0) (by decide)) (by decide))
        refine gc_cdP (ct_Lines_size_D hn hT (Or.resolve_left h_23145 c_23146)) (fun r_21 qr_21 h_23150 => ?_)
        refine gc_if (fun c_23151 => ?_) (fun c_23151 => ?_)
        · exact gc_some ⟨hT, (gb_iw (lo := (-1)) (hi := 255) (gb_ic (a := (-1)) (by decide)) (by decide))⟩
        · have j_23152 : gb_iv 0 4 p3 := (gb_rU (lo := 0) (hi := 4) (gb_dnle c_23151) j_23149 h_23150 (by decide))
          have j_23153 : gb_iv 1 5 r_21 := (gb_rL (lo := 1) (hi := 5) (gb_dnle c_23151) h_23150 j_23152 (by decide))
          refine gc_cdP (ct_Dawn_pathSeen_D hn hT (Or.resolve_left h_23145 c_23146) j_23152) (fun r_26 qr_26 h_23154 => ?_)
          refine gc_cdP (ct_Border_hasPath_B hn hT (Or.resolve_left h_23141 c_23142)) (fun r_30 qr_30 h_23155 => ?_)
          refine gc_if (fun c_23156 => ?_) (fun c_23156 => ?_)
          · have j_23157 : gb_iv 0 0 r_30 := (gb_rU (lo := 0) (hi := 0) (gb_deq c_23156) h_23155.1 (gb_ic (a := 0) (by decide)) (by decide))
            exact gc_some ⟨hT, (gb_iw (lo := (-1)) (hi := 255) (gb_ic (a := (-1)) (by decide)) (by decide))⟩
          · have j_23158 : gb_iv 1 1 r_30 := (gb_rN (lo := 1) (hi := 1) (v := 0) c_23156 h_23155.1 (by decide) (by decide))
            have j_23159 : gb_iv 0 4 r_26 := (h_23155.2 c_23156)
            refine gc_cdE qr_26 ?_
            refine gc_cdP (ct_Dawn_marksSeen_D hn hT (Or.resolve_left h_23145 c_23146) j_23152) (fun r_39 qr_39 h_23160 => ?_)
            refine gc_cdT (ct_Flocks_nearest_B hn hT (Or.resolve_left h_23141 c_23142) j_23159) (fun s_42 r_43 hTs_42 h_23161 => ?_)
            exact gc_some ⟨hTs_42, (gb_iw (lo := (-1)) (hi := 255) h_23161 (by decide))⟩
set_option maxHeartbeats 4000000 in
theorem ct_Face_toeOf_B_D_12 {n : Nat} (hn : gb_N ≤ n) {Q : gb_S → Int32 → Prop} {σ : gb_S} (hT : gb_TC σ) {k2 : gb_S → Nat → Nat → Int32 → gb_CR Int32} {M2 : Nat} (hk2 : ∀ (v0 : Nat) (v1 : Nat) (v2 : Int32), gb_kB v0 = true → gb_kD v1 = true → gb_iv 0 8 v2 → (8 - v2.toInt).toNat < M2 → gb_tc (k2 σ v0 v1 v2) Q) (hret : ∀ (r : Int32), gb_iv (-1) 7 r → Q σ r) : ∀ (mm : Nat) (v0 : Nat) (v1 : Nat) (v2 : Int32) (v3 : Int32), gb_kB v0 = true → gb_kD v1 = true → gb_iv 0 7 v2 → gb_iv 0 5 v3 → (8 - v2.toInt).toNat < M2 + 1 → (5 - v3.toInt).toNat < mm → gb_tc (cs_Face_toeOf_B_D_12 n k2 mm σ v0 v1 v2 v3) Q := by
  intro mm
  induction mm with
  | zero =>
    intro v0 v1 v2 v3 hv0 hv1 iv2 iv3 hm2 hm
    exact absurd hm (Nat.not_lt_zero _)
  | succ mm ih =>
    intro v0 v1 v2 v3 hv0 hv1 iv2 iv3 hm2 hm
    rw [cs_Face_toeOf_B_D_12]
    refine gc_kk hv0 ?_
    refine gc_kk hv1 ?_
    refine gc_cdP (ct_Lines_size_D hn hT hv1) (fun r_13 qr_13 h_28525 => ?_)
    refine gc_if (fun c_28526 => ?_) (fun c_28526 => ?_)
    · refine gc_lti (lo := 1) (hi := 8) (gb_iadd (lo := 1) (hi := 8) iv2 (gb_ic (a := 1) (by decide)) (by decide)) (fun x_17 ex_17 ix_17 => ?_)
      exact hk2 _ _ _ hv0 hv1 (gb_iw (lo := 0) (hi := 8) ix_17 (by decide)) (gb_mup ex_17 iv2 (by decide) hm2)
    · have j_28527 : gb_iv 0 4 v3 := (gb_rU (lo := 0) (hi := 4) (gb_dnle c_28526) iv3 h_28525 (by decide))
      have j_28528 : gb_iv 1 5 r_13 := (gb_rL (lo := 1) (hi := 5) (gb_dnle c_28526) h_28525 j_28527 (by decide))
      refine gc_cdP (ct_Dawn_pathSeen_D hn hT hv1 j_28527) (fun r_19 qr_19 h_28529 => ?_)
      refine gc_cdP (ct_Border_hasPath_B hn hT hv0) (fun r_23 qr_23 h_28530 => ?_)
      refine gc_if (fun c_28531 => ?_) (fun c_28531 => ?_)
      · have j_28532 : gb_iv 0 0 r_23 := (gb_rU (lo := 0) (hi := 0) (gb_deq c_28531) h_28530.1 (gb_ic (a := 0) (by decide)) (by decide))
        refine gc_lti (lo := 1) (hi := 5) (gb_iadd (lo := 1) (hi := 5) j_28527 (gb_ic (a := 1) (by decide)) (by decide)) (fun x_27 ex_27 ix_27 => ?_)
        exact ih _ _ _ _ hv0 hv1 iv2 (gb_iw (lo := 0) (hi := 5) ix_27 (by decide)) hm2 (gb_mup ex_27 j_28527 (by decide) hm)
      · have j_28533 : gb_iv 1 1 r_23 := (gb_rN (lo := 1) (hi := 1) (v := 0) c_28531 h_28530.1 (by decide) (by decide))
        have j_28534 : gb_iv 0 4 r_19 := (h_28530.2 c_28531)
        refine gc_cdP (ct_Border_marksFirst_B hn hT hv0 iv2 j_28534) (fun r_29 qr_29 h_28535 => ?_)
        refine gc_cdP (ct_Dawn_marksSeen_D hn hT hv1 j_28527) (fun r_33 qr_33 h_28536 => ?_)
        refine gc_if (fun c_28537 => ?_) (fun c_28537 => ?_)
        · exact gc_some (hret _ (gb_iw (lo := (-1)) (hi := 7) iv2 (by decide)))
        · refine gc_lti (lo := 1) (hi := 5) (gb_iadd (lo := 1) (hi := 5) j_28527 (gb_ic (a := 1) (by decide)) (by decide)) (fun x_37 ex_37 ix_37 => ?_)
          exact ih _ _ _ _ hv0 hv1 iv2 (gb_iw (lo := 0) (hi := 5) ix_37 (by decide)) hm2 (gb_mup ex_37 j_28527 (by decide) hm)
set_option maxHeartbeats 4000000 in
theorem ct_Face_toeOf_B_D_2 {n : Nat} (hn : gb_N ≤ n) {Q : gb_S → Int32 → Prop} {σ : gb_S} (hT : gb_TC σ) (hret : ∀ (r : Int32), gb_iv (-1) 7 r → Q σ r) : ∀ (mm : Nat) (v0 : Nat) (v1 : Nat) (v2 : Int32), gb_kB v0 = true → gb_kD v1 = true → gb_iv 0 8 v2 → (8 - v2.toInt).toNat < mm → gb_tc (cs_Face_toeOf_B_D_2 n mm σ v0 v1 v2) Q := by
  intro mm
  induction mm with
  | zero =>
    intro v0 v1 v2 hv0 hv1 iv2 hm
    exact absurd hm (Nat.not_lt_zero _)
  | succ mm ih =>
    intro v0 v1 v2 hv0 hv1 iv2 hm
    rw [cs_Face_toeOf_B_D_2]
    refine gc_kk hv0 ?_
    refine gc_kk hv1 ?_
    refine gc_cdP (ct_Border_geese_B hn hT hv0) (fun r_6 qr_6 h_28352 => ?_)
    refine gc_if (fun c_28353 => ?_) (fun c_28353 => ?_)
    · exact gc_some (hret _ (gb_iw (lo := (-1)) (hi := 7) (gb_ic (a := (-1)) (by decide)) (by decide)))
    · have j_28354 : gb_iv 0 7 v2 := (gb_rU (lo := 0) (hi := 7) (gb_dnle c_28353) iv2 h_28352 (by decide))
      have j_28355 : gb_iv 1 8 r_6 := (gb_rL (lo := 1) (hi := 8) (gb_dnle c_28353) h_28352 j_28354 (by decide))
      exact ct_Face_toeOf_B_D_12 hn hT ih hret n _ _ _ _ hv0 hv1 j_28354 (gb_iw (lo := 0) (hi := 5) (gb_ic (a := 0) (by decide)) (by decide)) hm (gb_fuu hn (gb_iw (lo := 0) (hi := 5) (gb_ic (a := 0) (by decide)) (by decide)) (by decide))
set_option maxHeartbeats 4000000 in
theorem ct_Face_toeOf_B_D {n : Nat} (hn : gb_N ≤ n) {σ : gb_S} {p1 : Nat} {p2 : Nat} (hT : gb_TC σ) (hp1 : gb_kB p1 = true) (hp2 : gb_kD p2 = true) : gb_tc (cs_Face_toeOf_B_D n σ p1 p2) (fun s r => s = σ ∧ gb_iv (-1) 7 r) := by
  unfold cs_Face_toeOf_B_D
  refine gc_kk hp1 ?_
  refine gc_kk hp2 ?_
  exact ct_Face_toeOf_B_D_2 hn hT (fun _ h => ⟨rfl, h⟩) n _ _ _ hp1 hp2 (gb_iw (lo := 0) (hi := 8) (gb_ic (a := 0) (by decide)) (by decide)) (gb_fuu hn (gb_iw (lo := 0) (hi := 8) (gb_ic (a := 0) (by decide)) (by decide)) (by decide))
set_option maxHeartbeats 4000000 in
theorem ct_Face_numberBelow {n : Nat} (hn : gb_N ≤ n) {σ : gb_S} {p1 : Int32} (hT : gb_TC σ) : gb_tc (cs_Face_numberBelow n σ p1) (fun s r => gb_TC s ∧ gb_iv 0 65535 r) := by
  unfold cs_Face_numberBelow
  refine gc_ltT (gc_su0 hT (rfl : gc_cat 0 = 0)) (fun s_1 es_1 hTs_1 => ?_)
  refine gc_if (fun c_28541 => ?_) (fun c_28541 => ?_)
  · have j_28542 : gb_iv (-2147483648) 0 p1 := (gb_rU (lo := (-2147483648)) (hi := 0) (gb_dle c_28541) (gb_it _) (gb_ic (a := 0) (by decide)) (by decide))
    exact gc_some ⟨hTs_1, (gb_iw (lo := 0) (hi := 65535) (gb_ic (a := 0) (by decide)) (by decide))⟩
  · have j_28543 : gb_iv 1 2147483647 p1 := (gb_rL (lo := 1) (hi := 2147483647) (gb_dnle c_28541) (gb_it _) (gb_ic (a := 0) (by decide)) (by decide))
    refine gc_nz j_28543 (by decide) ?_
    refine gc_lti (lo := 0) (hi := 65535) (gb_irem (lo := 0) (hi := 65535) (gb_iushr _) j_28543 (by decide)) (fun x_4 ex_4 ix_4 => ?_)
    exact gc_some ⟨hTs_1, ix_4⟩
set_option maxHeartbeats 4000000 in
theorem ct_Play_allTallies_4 {n : Nat} (hn : gb_N ≤ n) {Q : gb_S → Int32 → Prop} {σ : gb_S} (hT : gb_TC σ) (hret : ∀ (r : Int32), gb_iv (-2147483648) 2147483647 r → Q σ r) : ∀ (mm : Nat) (v1 : Int32) (v2 : Int32), gb_iv (-2147483648) 2147483647 v1 → gb_iv 0 5 v2 → (5 - v2.toInt).toNat < mm → gb_tc (cs_Play_allTallies_4 n mm σ v1 v2) Q := by
  intro mm
  induction mm with
  | zero =>
    intro v1 v2 iv1 iv2 hm
    exact absurd hm (Nat.not_lt_zero _)
  | succ mm ih =>
    intro v1 v2 iv1 iv2 hm
    rw [cs_Play_allTallies_4]
    refine gc_kk (gc_q1 hT) ?_
    refine gc_cdP (ct_Border_paths_B hn hT (gc_q1 hT)) (fun r_3 qr_3 h_28674 => ?_)
    refine gc_if (fun c_28675 => ?_) (fun c_28675 => ?_)
    · exact gc_some (hret _ (gb_it _))
    · have j_28676 : gb_iv 0 4 v2 := (gb_rU (lo := 0) (hi := 4) (gb_dnle c_28675) iv2 h_28674 (by decide))
      have j_28677 : gb_iv 1 5 r_3 := (gb_rL (lo := 1) (hi := 5) (gb_dnle c_28675) h_28674 j_28676 (by decide))
      refine gc_cdP (ct_Play_tally hn hT j_28676) (fun r_8 qr_8 h_28678 => ?_)
      refine gc_lti (lo := (-2147483648)) (hi := 2147483647) (gb_it _) (fun x_11 ex_11 ix_11 => ?_)
      refine gc_lti (lo := 1) (hi := 5) (gb_iadd (lo := 1) (hi := 5) j_28676 (gb_ic (a := 1) (by decide)) (by decide)) (fun x_12 ex_12 ix_12 => ?_)
      exact ih _ _ (gb_it _) (gb_iw (lo := 0) (hi := 5) ix_12 (by decide)) (gb_mup ex_12 j_28676 (by decide) hm)
set_option maxHeartbeats 4000000 in
theorem ct_Play_allTallies {n : Nat} (hn : gb_N ≤ n) {σ : gb_S} (hT : gb_TC σ) : gb_tc (cs_Play_allTallies n σ) (fun s r => s = σ ∧ gb_iv (-2147483648) 2147483647 r) := by
  unfold cs_Play_allTallies
  exact ct_Play_allTallies_4 hn hT (fun _ h => ⟨rfl, h⟩) n _ _ (gb_iw (lo := (-2147483648)) (hi := 2147483647) (gb_ic (a := 0) (by decide)) (by decide)) (gb_iw (lo := 0) (hi := 5) (gb_ic (a := 0) (by decide)) (by decide)) (gb_fuu hn (gb_iw (lo := 0) (hi := 5) (gb_ic (a := 0) (by decide)) (by decide)) (by decide))
/-! THE CLASS: more methods (written by wip/tot) -/
set_option maxHeartbeats 4000000 in
theorem ct_Sharing_begin_B_n_177 {n : Nat} (hn : gb_N ≤ n) {Q : gb_S → Unit → Prop} (hret : ∀ (σ : gb_S) (r : Unit), gb_TC σ → True → Q σ r) : ∀ (mm : Nat) (σ : gb_S) (v4 : Int32), gb_TC σ → gb_iv 0 5 v4 → (5 - v4.toInt).toNat < mm → gb_tc (cs_Sharing_begin_B_n_177 n mm σ v4) Q := by
  intro mm
  induction mm with
  | zero =>
    intro σ v4 hT iv4 hm
    exact absurd hm (Nat.not_lt_zero _)
  | succ mm ih =>
    intro σ v4 hT iv4 hm
    rw [cs_Sharing_begin_B_n_177]
    refine gc_if (fun c_30308 => ?_) (fun c_30308 => ?_)
    · exact gc_some (hret _ _ hT trivial)
    · have j_30309 : gb_iv 0 4 v4 := (gb_rU (lo := 0) (hi := 4) (gb_dnle c_30308) iv4 (gc_rd (c := 8) (lo := 0) (hi := 5) hT (rfl : gc_cat 120 = 8) (by decide)) (by decide))
      have j_30310 : gb_iv 1 5 (σ.1 120 4) := (gb_rL (lo := 1) (hi := 5) (gb_dnle c_30308) (gc_rd (c := 8) (lo := 0) (hi := 5) hT (rfl : gc_cat 120 = 8) (by decide)) j_30309 (by decide))
      refine gc_ck j_30309 (by decide) ?_
      refine gc_lti (lo := 0) (hi := 4) (gc_rd (c := 9) (lo := 0) (hi := 4) hT (rfl : gc_cat 124 = 9) ⟨Int.le_refl _, Int.le_refl _⟩) (fun x_19 ex_19 ix_19 => ?_)
      refine gc_cdT (ct_Sharing_payAnew hn hT ix_19) (fun s_20 u_30311 hTs_20 _ => ?_)
      refine gc_lti (lo := 1) (hi := 5) (gb_iadd (lo := 1) (hi := 5) j_30309 (gb_ic (a := 1) (by decide)) (by decide)) (fun x_24 ex_24 ix_24 => ?_)
      exact ih _ _ hTs_20 (gb_iw (lo := 0) (hi := 5) ix_24 (by decide)) (gb_mup ex_24 j_30309 (by decide) hm)
set_option maxHeartbeats 4000000 in
theorem ct_Sharing_begin_B_n_97 {n : Nat} (hn : gb_N ≤ n) {Q : gb_S → Unit → Prop} {k74 : gb_S → Int32 → gb_CR Unit} {M74 : Nat} (hk74 : ∀ (σ : gb_S) (v4 : Int32), gb_TC σ → gb_iv 0 8 v4 → (8 - v4.toInt).toNat < M74 → gb_tc (k74 σ v4) Q) (hret : ∀ (σ : gb_S) (r : Unit), gb_TC σ → True → Q σ r) : ∀ (mm : Nat) (σ : gb_S) (v4 : Int32) (v5 : Int32), gb_TC σ → gb_iv 0 7 v4 → gb_iv 0 5 v5 → (8 - v4.toInt).toNat < M74 + 1 → (5 - v5.toInt).toNat < mm → gb_tc (cs_Sharing_begin_B_n_97 n k74 mm σ v4 v5) Q := by
  intro mm
  induction mm with
  | zero =>
    intro σ v4 v5 hT iv4 iv5 hm74 hm
    exact absurd hm (Nat.not_lt_zero _)
  | succ mm ih =>
    intro σ v4 v5 hT iv4 iv5 hm74 hm
    rw [cs_Sharing_begin_B_n_97]
    refine gc_kk (gc_q2 hT) ?_
    refine gc_cdP (ct_Border_paths_B hn hT (gc_q2 hT)) (fun r_29 qr_29 h_30379 => ?_)
    refine gc_if (fun c_30380 => ?_) (fun c_30380 => ?_)
    · refine gc_lti (lo := 0) (hi := 4) (gc_rd (c := 9) (lo := 0) (hi := 4) hT (rfl : gc_cat 124 = 9) (by decide)) (fun x_33 ex_33 ix_33 => ?_)
      refine gc_ck ix_33 (by decide) ?_
      refine gc_lti (lo := (-2147483648)) (hi := 2147483647) (gb_it _) (fun x_35 ex_35 ix_35 => ?_)
      refine gc_lti (lo := 0) (hi := 4) (gc_rd (c := 9) (lo := 0) (hi := 4) hT (rfl : gc_cat 124 = 9) (by decide)) (fun x_36 ex_36 ix_36 => ?_)
      refine gc_ck (gb_iadd (lo := 0) (hi := 39) (gb_imul (lo := 0) (hi := 35) iv4 (gb_ic (a := 5) (by decide)) (by decide)) ix_36 (by decide)) (by decide) ?_
      refine gc_lti (lo := (-2147483648)) (hi := 2147483647) (gb_it _) (fun x_38 ex_38 ix_38 => ?_)
      refine gc_ck ix_33 (by decide) ?_
      refine gc_ltT (gc_su0 hT (rfl : gc_cat 126 = 0)) (fun s_40 es_40 hTs_40 => ?_)
      refine gc_lti (lo := 1) (hi := 8) (gb_iadd (lo := 1) (hi := 8) iv4 (gb_ic (a := 1) (by decide)) (by decide)) (fun x_41 ex_41 ix_41 => ?_)
      exact hk74 _ _ hTs_40 (gb_iw (lo := 0) (hi := 8) ix_41 (by decide)) (gb_mup ex_41 iv4 (by decide) hm74)
    · have j_30381 : gb_iv 0 4 v5 := (gb_rU (lo := 0) (hi := 4) (gb_dnle c_30380) iv5 h_30379 (by decide))
      have j_30382 : gb_iv 1 5 r_29 := (gb_rL (lo := 1) (hi := 5) (gb_dnle c_30380) h_30379 j_30381 (by decide))
      refine gc_kk (gc_q2 hT) ?_
      refine gc_cdP (ct_Border_marksFirst_B hn hT (gc_q2 hT) iv4 j_30381) (fun r_44 qr_44 h_30383 => ?_)
      refine gc_ck (gb_iadd (lo := 0) (hi := 39) (gb_imul (lo := 0) (hi := 35) iv4 (gb_ic (a := 5) (by decide)) (by decide)) j_30381 (by decide)) (by decide) ?_
      refine gc_ltT (gc_su0 hT (rfl : gc_cat 123 = 0)) (fun s_48 es_48 hTs_48 => ?_)
      refine gc_lti (lo := 1) (hi := 5) (gb_iadd (lo := 1) (hi := 5) j_30381 (gb_ic (a := 1) (by decide)) (by decide)) (fun x_49 ex_49 ix_49 => ?_)
      exact ih _ _ _ hTs_48 iv4 (gb_iw (lo := 0) (hi := 5) ix_49 (by decide)) hm74 (gb_mup ex_49 j_30381 (by decide) hm)
set_option maxHeartbeats 4000000 in
theorem ct_Sharing_begin_B_n_74 {n : Nat} (hn : gb_N ≤ n) {Q : gb_S → Unit → Prop} (hret : ∀ (σ : gb_S) (r : Unit), gb_TC σ → True → Q σ r) : ∀ (mm : Nat) (σ : gb_S) (v4 : Int32), gb_TC σ → gb_iv 0 8 v4 → (8 - v4.toInt).toNat < mm → gb_tc (cs_Sharing_begin_B_n_74 n mm σ v4) Q := by
  intro mm
  induction mm with
  | zero =>
    intro σ v4 hT iv4 hm
    exact absurd hm (Nat.not_lt_zero _)
  | succ mm ih =>
    intro σ v4 hT iv4 hm
    rw [cs_Sharing_begin_B_n_74]
    refine gc_kk (gc_q2 hT) ?_
    refine gc_cdP (ct_Border_geese_B hn hT (gc_q2 hT)) (fun r_13 qr_13 h_30254 => ?_)
    refine gc_if (fun c_30255 => ?_) (fun c_30255 => ?_)
    · exact ct_Sharing_begin_B_n_177 hn hret n _ _ hT (gb_iw (lo := 0) (hi := 5) (gb_ic (a := 0) (by decide)) (by decide)) (gb_fuu hn (gb_iw (lo := 0) (hi := 5) (gb_ic (a := 0) (by decide)) (by decide)) (by decide))
    · have j_30312 : gb_iv 0 7 v4 := (gb_rU (lo := 0) (hi := 7) (gb_dnle c_30255) iv4 h_30254 (by decide))
      have j_30313 : gb_iv 1 8 r_13 := (gb_rL (lo := 1) (hi := 8) (gb_dnle c_30255) h_30254 j_30312 (by decide))
      refine gc_ck j_30312 (by decide) ?_
      refine gc_ltT (gc_su (c := 9) (lo := 0) (hi := 4) hT (rfl : gc_cat 125 = 9) (gb_iw (lo := 0) (hi := 4) (gb_ic (a := 0) (by decide)) (by decide)) ⟨Int.le_refl _, Int.le_refl _⟩) (fun s_26 es_26 hTs_26 => ?_)
      exact ct_Sharing_begin_B_n_97 hn ih hret n _ _ _ hTs_26 j_30312 (gb_iw (lo := 0) (hi := 5) (gb_ic (a := 0) (by decide)) (by decide)) hm (gb_fuu hn (gb_iw (lo := 0) (hi := 5) (gb_ic (a := 0) (by decide)) (by decide)) (by decide))
set_option maxHeartbeats 4000000 in
theorem ct_shrest_n {n : Nat} (hn : gb_N ≤ n) {σ : gb_S} (hT : gb_TC σ) : gb_tc (cs_Sharing_begin_B_n_74 n n σ 0) (fun s _ => gb_TC s ∧ True) := by
  exact ct_Sharing_begin_B_n_74 hn (fun _ _ hT h => ⟨hT, h⟩) n _ _ hT (gb_iw (lo := 0) (hi := 8) (gb_ic (a := 0) (by decide)) (by decide)) (gb_fuu hn (gb_iw (lo := 0) (hi := 8) (gb_ic (a := 0) (by decide)) (by decide)) (by decide))
set_option maxHeartbeats 4000000 in
theorem ct_Sharing_begin_B_L_177 {n : Nat} (hn : gb_N ≤ n) {Q : gb_S → Unit → Prop} (hret : ∀ (σ : gb_S) (r : Unit), gb_TC σ → True → Q σ r) : ∀ (mm : Nat) (σ : gb_S) (v4 : Int32), gb_TC σ → gb_iv 0 5 v4 → (5 - v4.toInt).toNat < mm → gb_tc (cs_Sharing_begin_B_L_177 n mm σ v4) Q := by
  intro mm
  induction mm with
  | zero =>
    intro σ v4 hT iv4 hm
    exact absurd hm (Nat.not_lt_zero _)
  | succ mm ih =>
    intro σ v4 hT iv4 hm
    rw [cs_Sharing_begin_B_L_177]
    refine gc_if (fun c_32253 => ?_) (fun c_32253 => ?_)
    · exact gc_some (hret _ _ hT trivial)
    · have j_32254 : gb_iv 0 4 v4 := (gb_rU (lo := 0) (hi := 4) (gb_dnle c_32253) iv4 (gc_rd (c := 8) (lo := 0) (hi := 5) hT (rfl : gc_cat 120 = 8) (by decide)) (by decide))
      have j_32255 : gb_iv 1 5 (σ.1 120 4) := (gb_rL (lo := 1) (hi := 5) (gb_dnle c_32253) (gc_rd (c := 8) (lo := 0) (hi := 5) hT (rfl : gc_cat 120 = 8) (by decide)) j_32254 (by decide))
      refine gc_ck j_32254 (by decide) ?_
      refine gc_lti (lo := 0) (hi := 4) (gc_rd (c := 9) (lo := 0) (hi := 4) hT (rfl : gc_cat 124 = 9) ⟨Int.le_refl _, Int.le_refl _⟩) (fun x_20 ex_20 ix_20 => ?_)
      refine gc_cdT (ct_Sharing_payAnew hn hT ix_20) (fun s_21 u_32256 hTs_21 _ => ?_)
      refine gc_lti (lo := 1) (hi := 5) (gb_iadd (lo := 1) (hi := 5) j_32254 (gb_ic (a := 1) (by decide)) (by decide)) (fun x_25 ex_25 ix_25 => ?_)
      exact ih _ _ hTs_21 (gb_iw (lo := 0) (hi := 5) ix_25 (by decide)) (gb_mup ex_25 j_32254 (by decide) hm)
set_option maxHeartbeats 4000000 in
theorem ct_Sharing_begin_B_L_97 {n : Nat} (hn : gb_N ≤ n) {Q : gb_S → Unit → Prop} {k74 : gb_S → Int32 → gb_CR Unit} {M74 : Nat} (hk74 : ∀ (σ : gb_S) (v4 : Int32), gb_TC σ → gb_iv 0 8 v4 → (8 - v4.toInt).toNat < M74 → gb_tc (k74 σ v4) Q) (hret : ∀ (σ : gb_S) (r : Unit), gb_TC σ → True → Q σ r) : ∀ (mm : Nat) (σ : gb_S) (v4 : Int32) (v5 : Int32), gb_TC σ → gb_iv 0 7 v4 → gb_iv 0 5 v5 → (8 - v4.toInt).toNat < M74 + 1 → (5 - v5.toInt).toNat < mm → gb_tc (cs_Sharing_begin_B_L_97 n k74 mm σ v4 v5) Q := by
  intro mm
  induction mm with
  | zero =>
    intro σ v4 v5 hT iv4 iv5 hm74 hm
    exact absurd hm (Nat.not_lt_zero _)
  | succ mm ih =>
    intro σ v4 v5 hT iv4 iv5 hm74 hm
    rw [cs_Sharing_begin_B_L_97]
    refine gc_kk (gc_q2 hT) ?_
    refine gc_cdP (ct_Border_paths_B hn hT (gc_q2 hT)) (fun r_30 qr_30 h_32324 => ?_)
    refine gc_if (fun c_32325 => ?_) (fun c_32325 => ?_)
    · refine gc_lti (lo := 0) (hi := 4) (gc_rd (c := 9) (lo := 0) (hi := 4) hT (rfl : gc_cat 124 = 9) (by decide)) (fun x_34 ex_34 ix_34 => ?_)
      refine gc_ck ix_34 (by decide) ?_
      refine gc_lti (lo := (-2147483648)) (hi := 2147483647) (gb_it _) (fun x_36 ex_36 ix_36 => ?_)
      refine gc_lti (lo := 0) (hi := 4) (gc_rd (c := 9) (lo := 0) (hi := 4) hT (rfl : gc_cat 124 = 9) (by decide)) (fun x_37 ex_37 ix_37 => ?_)
      refine gc_ck (gb_iadd (lo := 0) (hi := 39) (gb_imul (lo := 0) (hi := 35) iv4 (gb_ic (a := 5) (by decide)) (by decide)) ix_37 (by decide)) (by decide) ?_
      refine gc_lti (lo := (-2147483648)) (hi := 2147483647) (gb_it _) (fun x_39 ex_39 ix_39 => ?_)
      refine gc_ck ix_34 (by decide) ?_
      refine gc_ltT (gc_su0 hT (rfl : gc_cat 126 = 0)) (fun s_41 es_41 hTs_41 => ?_)
      refine gc_lti (lo := 1) (hi := 8) (gb_iadd (lo := 1) (hi := 8) iv4 (gb_ic (a := 1) (by decide)) (by decide)) (fun x_42 ex_42 ix_42 => ?_)
      exact hk74 _ _ hTs_41 (gb_iw (lo := 0) (hi := 8) ix_42 (by decide)) (gb_mup ex_42 iv4 (by decide) hm74)
    · have j_32326 : gb_iv 0 4 v5 := (gb_rU (lo := 0) (hi := 4) (gb_dnle c_32325) iv5 h_32324 (by decide))
      have j_32327 : gb_iv 1 5 r_30 := (gb_rL (lo := 1) (hi := 5) (gb_dnle c_32325) h_32324 j_32326 (by decide))
      refine gc_kk (gc_q2 hT) ?_
      refine gc_cdP (ct_Border_marksFirst_B hn hT (gc_q2 hT) iv4 j_32326) (fun r_45 qr_45 h_32328 => ?_)
      refine gc_ck (gb_iadd (lo := 0) (hi := 39) (gb_imul (lo := 0) (hi := 35) iv4 (gb_ic (a := 5) (by decide)) (by decide)) j_32326 (by decide)) (by decide) ?_
      refine gc_ltT (gc_su0 hT (rfl : gc_cat 123 = 0)) (fun s_49 es_49 hTs_49 => ?_)
      refine gc_lti (lo := 1) (hi := 5) (gb_iadd (lo := 1) (hi := 5) j_32326 (gb_ic (a := 1) (by decide)) (by decide)) (fun x_50 ex_50 ix_50 => ?_)
      exact ih _ _ _ hTs_49 iv4 (gb_iw (lo := 0) (hi := 5) ix_50 (by decide)) hm74 (gb_mup ex_50 j_32326 (by decide) hm)
set_option maxHeartbeats 4000000 in
theorem ct_Sharing_begin_B_L_74 {n : Nat} (hn : gb_N ≤ n) {Q : gb_S → Unit → Prop} (hret : ∀ (σ : gb_S) (r : Unit), gb_TC σ → True → Q σ r) : ∀ (mm : Nat) (σ : gb_S) (v4 : Int32), gb_TC σ → gb_iv 0 8 v4 → (8 - v4.toInt).toNat < mm → gb_tc (cs_Sharing_begin_B_L_74 n mm σ v4) Q := by
  intro mm
  induction mm with
  | zero =>
    intro σ v4 hT iv4 hm
    exact absurd hm (Nat.not_lt_zero _)
  | succ mm ih =>
    intro σ v4 hT iv4 hm
    rw [cs_Sharing_begin_B_L_74]
    refine gc_kk (gc_q2 hT) ?_
    refine gc_cdP (ct_Border_geese_B hn hT (gc_q2 hT)) (fun r_14 qr_14 h_32199 => ?_)
    refine gc_if (fun c_32200 => ?_) (fun c_32200 => ?_)
    · exact ct_Sharing_begin_B_L_177 hn hret n _ _ hT (gb_iw (lo := 0) (hi := 5) (gb_ic (a := 0) (by decide)) (by decide)) (gb_fuu hn (gb_iw (lo := 0) (hi := 5) (gb_ic (a := 0) (by decide)) (by decide)) (by decide))
    · have j_32257 : gb_iv 0 7 v4 := (gb_rU (lo := 0) (hi := 7) (gb_dnle c_32200) iv4 h_32199 (by decide))
      have j_32258 : gb_iv 1 8 r_14 := (gb_rL (lo := 1) (hi := 8) (gb_dnle c_32200) h_32199 j_32257 (by decide))
      refine gc_ck j_32257 (by decide) ?_
      refine gc_ltT (gc_su (c := 9) (lo := 0) (hi := 4) hT (rfl : gc_cat 125 = 9) (gb_iw (lo := 0) (hi := 4) (gb_ic (a := 0) (by decide)) (by decide)) ⟨Int.le_refl _, Int.le_refl _⟩) (fun s_27 es_27 hTs_27 => ?_)
      exact ct_Sharing_begin_B_L_97 hn ih hret n _ _ _ hTs_27 j_32257 (gb_iw (lo := 0) (hi := 5) (gb_ic (a := 0) (by decide)) (by decide)) hm (gb_fuu hn (gb_iw (lo := 0) (hi := 5) (gb_ic (a := 0) (by decide)) (by decide)) (by decide))
set_option maxHeartbeats 4000000 in
theorem ct_shrest_L {n : Nat} (hn : gb_N ≤ n) {σ : gb_S} (hT : gb_TC σ) : gb_tc (cs_Sharing_begin_B_L_74 n n σ 0) (fun s _ => gb_TC s ∧ True) := by
  exact ct_Sharing_begin_B_L_74 hn (fun _ _ hT h => ⟨hT, h⟩) n _ _ hT (gb_iw (lo := 0) (hi := 8) (gb_ic (a := 0) (by decide)) (by decide)) (gb_fuu hn (gb_iw (lo := 0) (hi := 8) (gb_ic (a := 0) (by decide)) (by decide)) (by decide))
set_option maxHeartbeats 4000000 in
theorem ct_Sharing_advance_68 {n : Nat} (hn : gb_N ≤ n) {Q : gb_S → Unit → Prop} {k10 : gb_S → Int32 → gb_CR Unit} {M10 : Nat} (hk10 : ∀ (σ : gb_S) (v1 : Int32), gb_TC σ → gb_iv (-1) 7 v1 → (v1.toInt - (-1)).toNat < M10 → gb_tc (k10 σ v1) Q) (hret : ∀ (σ : gb_S) (r : Unit), gb_TC σ → True → Q σ r) : ∀ (σ : gb_S) (v1 : Int32) (v2 : Int32) (v3 : Int32) (t0 : Int32) (t1 : Int32), gb_TC σ → gb_iv 0 7 v1 → gb_iv 0 4 v2 → gb_iv 0 0 v3 → gb_iv 1 4 t0 → gb_iv 0 7 t1 → gb_iv 0 3 ((σ.1 125) (Int32.toNatClampNeg t1)) → (v1.toInt - (-1)).toNat < M10 + 1 → gb_tc (cs_Sharing_advance_68 n k10 σ v1 v2 v3 t0 t1) Q := by
  intro σ v1 v2 v3 t0 t1 hT iv1 iv2 iv3 it0 it1 y_0 hm10
  unfold cs_Sharing_advance_68
  refine gc_ck it1 (by decide) ?_
  refine gc_ltT (gc_su (c := 9) (lo := 0) (hi := 4) hT (rfl : gc_cat 125 = 9) (gb_iw (lo := 0) (hi := 4) it0 (by decide)) ⟨Int.le_refl _, Int.le_refl _⟩) (fun s_19 es_19 hTs_19 => ?_)
  refine gc_ck iv1 (by decide) ?_
  refine gc_lti (lo := 0) (hi := 4) (gc_rd (c := 9) (lo := 0) (hi := 4) hTs_19 (rfl : gc_cat 125 = 9) ⟨Int.le_refl _, Int.le_refl _⟩) (fun x_21 ex_21 ix_21 => ?_)
  refine gc_ck ix_21 (by decide) ?_
  refine gc_lti (lo := 0) (hi := 4) (gc_rd (c := 9) (lo := 0) (hi := 4) hTs_19 (rfl : gc_cat 124 = 9) ⟨Int.le_refl _, Int.le_refl _⟩) (fun x_23 ex_23 ix_23 => ?_)
  refine gc_ck iv2 (by decide) ?_
  refine gc_lti (lo := (-2147483648)) (hi := 2147483647) (gb_it _) (fun x_25 ex_25 ix_25 => ?_)
  refine gc_ck (gb_iadd (lo := 0) (hi := 39) (gb_imul (lo := 0) (hi := 35) iv1 (gb_ic (a := 5) (by decide)) (by decide)) iv2 (by decide)) (by decide) ?_
  refine gc_lti (lo := (-2147483648)) (hi := 2147483647) (gb_it _) (fun x_27 ex_27 ix_27 => ?_)
  refine gc_ck iv2 (by decide) ?_
  refine gc_ltT (gc_su0 hTs_19 (rfl : gc_cat 126 = 0)) (fun s_29 es_29 hTs_29 => ?_)
  refine gc_ck ix_23 (by decide) ?_
  refine gc_lti (lo := (-2147483648)) (hi := 2147483647) (gb_it _) (fun x_31 ex_31 ix_31 => ?_)
  refine gc_ck (gb_iadd (lo := 0) (hi := 39) (gb_imul (lo := 0) (hi := 35) iv1 (gb_ic (a := 5) (by decide)) (by decide)) ix_23 (by decide)) (by decide) ?_
  refine gc_lti (lo := (-2147483648)) (hi := 2147483647) (gb_it _) (fun x_33 ex_33 ix_33 => ?_)
  refine gc_ck ix_23 (by decide) ?_
  refine gc_ltT (gc_su0 hTs_29 (rfl : gc_cat 126 = 0)) (fun s_35 es_35 hTs_35 => ?_)
  refine gc_cdT (ct_Sharing_payAnew hn hTs_35 iv2) (fun s_36 u_32579 hTs_36 _ => ?_)
  refine gc_cdT (ct_Sharing_payAnew hn hTs_36 ix_23) (fun s_40 u_32580 hTs_40 _ => ?_)
  refine gc_if (fun c_32581 => ?_) (fun c_32581 => ?_)
  · exact gc_some (hret _ _ hTs_40 trivial)
  · exact (gb_em (gb_rN (lo := 1) (hi := (-1)) (v := 0) c_32581 iv3 (by decide) (by decide)) (by decide)).elim
set_option maxHeartbeats 4000000 in
theorem ct_Sharing_advance_46 {n : Nat} (hn : gb_N ≤ n) {Q : gb_S → Unit → Prop} {k10 : gb_S → Int32 → gb_CR Unit} {M10 : Nat} (hk10 : ∀ (σ : gb_S) (v1 : Int32), gb_TC σ → gb_iv (-1) 7 v1 → (v1.toInt - (-1)).toNat < M10 → gb_tc (k10 σ v1) Q) (hret : ∀ (σ : gb_S) (r : Unit), gb_TC σ → True → Q σ r) : ∀ (σ : gb_S) (v1 : Int32) (v2 : Int32) (t0 : Int32), gb_TC σ → gb_iv 0 7 v1 → gb_iv 0 4 v2 → gb_iv 0 0 t0 → gb_iv 0 3 ((σ.1 125) (Int32.toNatClampNeg v1)) → (v1.toInt - (-1)).toNat < M10 + 1 → gb_tc (cs_Sharing_advance_46 n k10 σ v1 v2 t0) Q := by
  intro σ v1 v2 t0 hT iv1 iv2 it0 y_0 hm10
  unfold cs_Sharing_advance_46
  refine gc_if (fun c_32578 => ?_) (fun c_32578 => ?_)
  · refine gc_ck iv1 (by decide) ?_
    refine gc_lti (lo := 0) (hi := 3) y_0 (fun x_17 ex_17 ix_17 => ?_)
    exact ct_Sharing_advance_68 hn hk10 hret _ _ _ _ _ _ hT iv1 iv2 it0 (gb_iadd (lo := 1) (hi := 4) ix_17 (gb_ic (a := 1) (by decide)) (by decide)) iv1 y_0 hm10
  · exact (gb_em (gb_rN (lo := 1) (hi := (-1)) (v := 0) c_32578 it0 (by decide) (by decide)) (by decide)).elim
set_option maxHeartbeats 4000000 in
theorem ct_Sharing_advance_68_i1 {n : Nat} (hn : gb_N ≤ n) {Q : gb_S → Unit → Prop} {k10 : gb_S → Int32 → gb_CR Unit} {M10 : Nat} (hk10 : ∀ (σ : gb_S) (v1 : Int32), gb_TC σ → gb_iv (-1) 7 v1 → (v1.toInt - (-1)).toNat < M10 → gb_tc (k10 σ v1) Q) (hret : ∀ (σ : gb_S) (r : Unit), gb_TC σ → True → Q σ r) : ∀ (σ : gb_S) (v1 : Int32) (v2 : Int32) (v3 : Int32) (t0 : Int32) (t1 : Int32), gb_TC σ → gb_iv 0 7 v1 → gb_iv 0 4 v2 → gb_iv 1 1 v3 → gb_iv 0 0 t0 → gb_iv 0 7 t1 → (v1.toInt - (-1)).toNat < M10 + 1 → gb_tc (cs_Sharing_advance_68 n k10 σ v1 v2 v3 t0 t1) Q := by
  intro σ v1 v2 v3 t0 t1 hT iv1 iv2 iv3 it0 it1 hm10
  unfold cs_Sharing_advance_68
  refine gc_ck it1 (by decide) ?_
  refine gc_ltT (gc_su (c := 9) (lo := 0) (hi := 4) hT (rfl : gc_cat 125 = 9) (gb_iw (lo := 0) (hi := 4) it0 (by decide)) ⟨Int.le_refl _, Int.le_refl _⟩) (fun s_19 es_19 hTs_19 => ?_)
  refine gc_ck iv1 (by decide) ?_
  refine gc_lti (lo := 0) (hi := 4) (gc_rd (c := 9) (lo := 0) (hi := 4) hTs_19 (rfl : gc_cat 125 = 9) ⟨Int.le_refl _, Int.le_refl _⟩) (fun x_21 ex_21 ix_21 => ?_)
  refine gc_ck ix_21 (by decide) ?_
  refine gc_lti (lo := 0) (hi := 4) (gc_rd (c := 9) (lo := 0) (hi := 4) hTs_19 (rfl : gc_cat 124 = 9) ⟨Int.le_refl _, Int.le_refl _⟩) (fun x_23 ex_23 ix_23 => ?_)
  refine gc_ck iv2 (by decide) ?_
  refine gc_lti (lo := (-2147483648)) (hi := 2147483647) (gb_it _) (fun x_25 ex_25 ix_25 => ?_)
  refine gc_ck (gb_iadd (lo := 0) (hi := 39) (gb_imul (lo := 0) (hi := 35) iv1 (gb_ic (a := 5) (by decide)) (by decide)) iv2 (by decide)) (by decide) ?_
  refine gc_lti (lo := (-2147483648)) (hi := 2147483647) (gb_it _) (fun x_27 ex_27 ix_27 => ?_)
  refine gc_ck iv2 (by decide) ?_
  refine gc_ltT (gc_su0 hTs_19 (rfl : gc_cat 126 = 0)) (fun s_29 es_29 hTs_29 => ?_)
  refine gc_ck ix_23 (by decide) ?_
  refine gc_lti (lo := (-2147483648)) (hi := 2147483647) (gb_it _) (fun x_31 ex_31 ix_31 => ?_)
  refine gc_ck (gb_iadd (lo := 0) (hi := 39) (gb_imul (lo := 0) (hi := 35) iv1 (gb_ic (a := 5) (by decide)) (by decide)) ix_23 (by decide)) (by decide) ?_
  refine gc_lti (lo := (-2147483648)) (hi := 2147483647) (gb_it _) (fun x_33 ex_33 ix_33 => ?_)
  refine gc_ck ix_23 (by decide) ?_
  refine gc_ltT (gc_su0 hTs_29 (rfl : gc_cat 126 = 0)) (fun s_35 es_35 hTs_35 => ?_)
  refine gc_cdT (ct_Sharing_payAnew hn hTs_35 iv2) (fun s_36 u_32583 hTs_36 _ => ?_)
  refine gc_cdT (ct_Sharing_payAnew hn hTs_36 ix_23) (fun s_40 u_32584 hTs_40 _ => ?_)
  refine gc_if (fun c_32585 => ?_) (fun c_32585 => ?_)
  · exact (gb_em (gb_rU (lo := 1) (hi := 0) (gb_deq c_32585) iv3 (gb_ic (a := 0) (by decide)) (by decide)) (by decide)).elim
  · refine gc_lti (lo := (-1)) (hi := 6) (gb_iadd (lo := (-1)) (hi := 6) iv1 (gb_ic (a := (-1)) (by decide)) (by decide)) (fun x_45 ex_45 ix_45 => ?_)
    exact hk10 _ _ hTs_40 (gb_iw (lo := (-1)) (hi := 7) ix_45 (by decide)) (gb_mdn ex_45 iv1 (by decide) hm10)
set_option maxHeartbeats 4000000 in
theorem ct_Sharing_advance_46_i1 {n : Nat} (hn : gb_N ≤ n) {Q : gb_S → Unit → Prop} {k10 : gb_S → Int32 → gb_CR Unit} {M10 : Nat} (hk10 : ∀ (σ : gb_S) (v1 : Int32), gb_TC σ → gb_iv (-1) 7 v1 → (v1.toInt - (-1)).toNat < M10 → gb_tc (k10 σ v1) Q) (hret : ∀ (σ : gb_S) (r : Unit), gb_TC σ → True → Q σ r) : ∀ (σ : gb_S) (v1 : Int32) (v2 : Int32) (t0 : Int32), gb_TC σ → gb_iv 0 7 v1 → gb_iv 0 4 v2 → gb_iv 1 1 t0 → (v1.toInt - (-1)).toNat < M10 + 1 → gb_tc (cs_Sharing_advance_46 n k10 σ v1 v2 t0) Q := by
  intro σ v1 v2 t0 hT iv1 iv2 it0 hm10
  unfold cs_Sharing_advance_46
  refine gc_if (fun c_32582 => ?_) (fun c_32582 => ?_)
  · exact (gb_em (gb_rU (lo := 1) (hi := 0) (gb_deq c_32582) it0 (gb_ic (a := 0) (by decide)) (by decide)) (by decide)).elim
  · exact ct_Sharing_advance_68_i1 hn hk10 hret _ _ _ _ _ _ hT iv1 iv2 it0 (gb_ic (a := 0) (by decide)) iv1 hm10
set_option maxHeartbeats 4000000 in
theorem ct_Sharing_advance_10 {n : Nat} (hn : gb_N ≤ n) {Q : gb_S → Unit → Prop} (hret : ∀ (σ : gb_S) (r : Unit), gb_TC σ → True → Q σ r) : ∀ (mm : Nat) (σ : gb_S) (v1 : Int32), gb_TC σ → gb_iv (-1) 7 v1 → (v1.toInt - (-1)).toNat < mm → gb_tc (cs_Sharing_advance_10 n mm σ v1) Q := by
  intro mm
  induction mm with
  | zero =>
    intro σ v1 hT iv1 hm
    exact absurd hm (Nat.not_lt_zero _)
  | succ mm ih =>
    intro σ v1 hT iv1 hm
    rw [cs_Sharing_advance_10]
    refine gc_if (fun c_32571 => ?_) (fun c_32571 => ?_)
    · have j_32572 : gb_iv (-1) (-1) v1 := (gb_rU (lo := (-1)) (hi := (-1)) (gb_dlt c_32571) iv1 (gb_ic (a := 0) (by decide)) (by decide))
      exact gc_some (hret _ _ hT trivial)
    · have j_32573 : gb_iv 0 7 v1 := (gb_rL (lo := 0) (hi := 7) (gb_dnlt c_32571) iv1 (gb_ic (a := 0) (by decide)) (by decide))
      refine gc_ck j_32573 (by decide) ?_
      refine gc_lti (lo := 0) (hi := 4) (gc_rd (c := 9) (lo := 0) (hi := 4) hT (rfl : gc_cat 125 = 9) ⟨Int.le_refl _, Int.le_refl _⟩) (fun x_9 ex_9 ix_9 => ?_)
      refine gc_ck ix_9 (by decide) ?_
      refine gc_lti (lo := 0) (hi := 4) (gc_rd (c := 9) (lo := 0) (hi := 4) hT (rfl : gc_cat 124 = 9) ⟨Int.le_refl _, Int.le_refl _⟩) (fun x_11 ex_11 ix_11 => ?_)
      refine gc_ck j_32573 (by decide) ?_
      refine gc_lti (lo := 0) (hi := 4) (gc_rd (c := 9) (lo := 0) (hi := 4) hT (rfl : gc_cat 125 = 9) ⟨Int.le_refl _, Int.le_refl _⟩) (fun x_13 ex_13 ix_13 => ?_)
      refine gc_if (fun c_32574 => ?_) (fun c_32574 => ?_)
      · have j_32575 : gb_iv 1 4 (x_13 + 1) := (gb_rU (lo := 1) (hi := 4) (gb_dlt c_32574) (gb_iadd (lo := 1) (hi := 5) ix_13 (gb_ic (a := 1) (by decide)) (by decide)) (gc_rd (c := 8) (lo := 0) (hi := 5) hT (rfl : gc_cat 120 = 8) (by decide)) (by decide))
        have j_32576 : gb_iv 0 3 x_13 := (gb_vadd (lo := 0) (hi := 3) (v := 1) j_32575 (by decide) (by decide))
        have j_32577 : gb_iv 2 5 (σ.1 120 4) := (gb_rL (lo := 2) (hi := 5) (gb_dlt c_32574) (gc_rd (c := 8) (lo := 0) (hi := 5) hT (rfl : gc_cat 120 = 8) (by decide)) (gb_iadd (lo := 1) (hi := 4) j_32576 (gb_ic (a := 1) (by decide)) (by decide)) (by decide))
        exact ct_Sharing_advance_46 hn ih hret _ _ _ _ hT j_32573 ix_11 (gb_ic (a := 0) (by decide)) (gb_ie ex_13.symm j_32576) hm
      · exact ct_Sharing_advance_46_i1 hn ih hret _ _ _ _ hT j_32573 ix_11 (gb_ic (a := 1) (by decide)) hm
set_option maxHeartbeats 4000000 in
theorem ct_Sharing_advance {n : Nat} (hn : gb_N ≤ n) {σ : gb_S} (hT : gb_TC σ) : gb_tc (cs_Sharing_advance n σ) (fun s _ => gb_TC s ∧ True) := by
  unfold cs_Sharing_advance
  refine gc_kk (gc_q2 hT) ?_
  refine gc_cdP (ct_Border_geese_B hn hT (gc_q2 hT)) (fun r_3 qr_3 h_32450 => ?_)
  refine gc_lti (lo := (-1)) (hi := 7) (gb_isub (lo := (-1)) (hi := 7) h_32450 (gb_ic (a := 1) (by decide)) (by decide)) (fun x_6 ex_6 ix_6 => ?_)
  exact ct_Sharing_advance_10 hn (fun _ _ hT h => ⟨hT, h⟩) n _ _ hT ix_6 (gb_fud hn ix_6 (by decide))
set_option maxHeartbeats 4000000 in
theorem ct_Flocks_fewestBackwards_B_21 {n : Nat} (hn : gb_N ≤ n) {Q : gb_S → Int32 → Prop} (hret : ∀ (σ : gb_S) (r : Int32), gb_TC σ → gb_iv (-1) 255 r → Q σ r) : ∀ (mm : Nat) (σ : gb_S) (v3 : Int32) (v4 : Int32) (v5 : Int32), gb_TC σ → gb_iv (-2147483648) 2147483647 v3 → gb_iv (-1) 255 v4 → gb_iv 0 256 v5 → (256 - v5.toInt).toNat < mm → gb_tc (cs_Flocks_fewestBackwards_B_21 n mm σ v3 v4 v5) Q := by
  intro mm
  induction mm with
  | zero =>
    intro σ v3 v4 v5 hT iv3 iv4 iv5 hm
    exact absurd hm (Nat.not_lt_zero _)
  | succ mm ih =>
    intro σ v3 v4 v5 hT iv3 iv4 iv5 hm
    rw [cs_Flocks_fewestBackwards_B_21]
    refine gc_if (fun c_33704 => ?_) (fun c_33704 => ?_)
    · exact gc_some (hret _ _ hT iv4)
    · have j_33705 : gb_iv 0 255 v5 := (gb_rU (lo := 0) (hi := 255) (gb_dnle c_33704) iv5 (gc_rd (c := 11) (lo := 0) (hi := 256) hT (rfl : gc_cat 130 = 11) (by decide)) (by decide))
      have j_33706 : gb_iv 1 256 (σ.1 130 4) := (gb_rL (lo := 1) (hi := 256) (gb_dnle c_33704) (gc_rd (c := 11) (lo := 0) (hi := 256) hT (rfl : gc_cat 130 = 11) (by decide)) j_33705 (by decide))
      refine gc_ck (gb_isub (lo := 0) (hi := 255) j_33706 (gb_ic (a := 1) (by decide)) (by decide)) (by decide) ?_
      refine gc_lti (lo := (-2147483648)) (hi := 2147483647) (gb_it _) (fun x_9 ex_9 ix_9 => ?_)
      refine gc_ck j_33705 (by decide) ?_
      refine gc_lti (lo := (-2147483648)) (hi := 2147483647) (gb_it _) (fun x_11 ex_11 ix_11 => ?_)
      refine gc_if (fun c_33707 => ?_) (fun c_33707 => ?_)
      · have j_33708 : gb_iv (-2147483648) 2147483646 v3 := (gb_rU (lo := (-2147483648)) (hi := 2147483646) (gb_dlt c_33707) (gb_it _) (gb_it _) (by decide))
        have j_33709 : gb_iv (-2147483647) 2147483647 (x_9 - (2 * x_11)) := (gb_rL (lo := (-2147483647)) (hi := 2147483647) (gb_dlt c_33707) (gb_it _) j_33708 (by decide))
        refine gc_if (fun c_33710 => ?_) (fun c_33710 => ?_)
        · refine gc_lti (lo := 1) (hi := 256) (gb_iadd (lo := 1) (hi := 256) j_33705 (gb_ic (a := 1) (by decide)) (by decide)) (fun x_14 ex_14 ix_14 => ?_)
          exact ih _ _ _ _ hT (gb_iw (lo := (-2147483648)) (hi := 2147483647) j_33708 (by decide)) iv4 (gb_iw (lo := 0) (hi := 256) ix_14 (by decide)) (gb_mup ex_14 j_33705 (by decide) hm)
        · refine gc_cdP (ct_java_lang_Integer_bitCount hn hT) (fun r_16 qr_16 h_33711 => ?_)
          refine gc_cdP (ct_java_lang_Integer_bitCount hn hT) (fun r_20 qr_20 h_33712 => ?_)
          refine gc_if (fun c_33713 => ?_) (fun c_33713 => ?_)
          · refine gc_lti (lo := 1) (hi := 256) (gb_iadd (lo := 1) (hi := 256) j_33705 (gb_ic (a := 1) (by decide)) (by decide)) (fun x_24 ex_24 ix_24 => ?_)
            exact ih _ _ _ _ hT (gb_iw (lo := (-2147483648)) (hi := 2147483647) j_33708 (by decide)) iv4 (gb_iw (lo := 0) (hi := 256) ix_24 (by decide)) (gb_mup ex_24 j_33705 (by decide) hm)
          · have j_33714 : gb_iv 0 62 r_16 := (gb_rU (lo := 0) (hi := 62) (gb_dnle c_33713) h_33711 h_33712 (by decide))
            have j_33715 : gb_iv 1 63 r_20 := (gb_rL (lo := 1) (hi := 63) (gb_dnle c_33713) h_33712 j_33714 (by decide))
            refine gc_lti (lo := 1) (hi := 256) (gb_iadd (lo := 1) (hi := 256) j_33705 (gb_ic (a := 1) (by decide)) (by decide)) (fun x_25 ex_25 ix_25 => ?_)
            exact ih _ _ _ _ hT (gb_iw (lo := (-2147483648)) (hi := 2147483647) j_33708 (by decide)) (gb_iw (lo := (-1)) (hi := 255) j_33705 (by decide)) (gb_iw (lo := 0) (hi := 256) ix_25 (by decide)) (gb_mup ex_25 j_33705 (by decide) hm)
      · refine gc_if (fun c_33716 => ?_) (fun c_33716 => ?_)
        · exact absurd c_33716 (by decide)
        · refine gc_cdP (ct_java_lang_Integer_bitCount hn hT) (fun r_29 qr_29 h_33717 => ?_)
          refine gc_cdP (ct_java_lang_Integer_bitCount hn hT) (fun r_33 qr_33 h_33718 => ?_)
          refine gc_if (fun c_33719 => ?_) (fun c_33719 => ?_)
          · refine gc_lti (lo := 1) (hi := 256) (gb_iadd (lo := 1) (hi := 256) j_33705 (gb_ic (a := 1) (by decide)) (by decide)) (fun x_37 ex_37 ix_37 => ?_)
            exact ih _ _ _ _ hT (gb_it _) iv4 (gb_iw (lo := 0) (hi := 256) ix_37 (by decide)) (gb_mup ex_37 j_33705 (by decide) hm)
          · have j_33720 : gb_iv 0 62 r_29 := (gb_rU (lo := 0) (hi := 62) (gb_dnle c_33719) h_33717 h_33718 (by decide))
            have j_33721 : gb_iv 1 63 r_33 := (gb_rL (lo := 1) (hi := 63) (gb_dnle c_33719) h_33718 j_33720 (by decide))
            refine gc_lti (lo := 1) (hi := 256) (gb_iadd (lo := 1) (hi := 256) j_33705 (gb_ic (a := 1) (by decide)) (by decide)) (fun x_38 ex_38 ix_38 => ?_)
            exact ih _ _ _ _ hT (gb_it _) (gb_iw (lo := (-1)) (hi := 255) j_33705 (by decide)) (gb_iw (lo := 0) (hi := 256) ix_38 (by decide)) (gb_mup ex_38 j_33705 (by decide) hm)
set_option maxHeartbeats 4000000 in
theorem ct_Flocks_fewestBackwards_B {n : Nat} (hn : gb_N ≤ n) {σ : gb_S} {p1 : Nat} {p2 : Int32} {p3 : Int32} (hT : gb_TC σ) (hp1 : gb_kB p1 = true) (ip2 : gb_iv 0 4 p2) : gb_tc (cs_Flocks_fewestBackwards_B n σ p1 p2 p3) (fun s r => gb_TC s ∧ gb_iv (-1) 255 r) := by
  unfold cs_Flocks_fewestBackwards_B
  refine gc_kk hp1 ?_
  refine gc_cdT (ct_Flocks_sumUp_B_c131 hn hT hp1 ip2) (fun s_2 u_33145 hTs_2 _ => ?_)
  refine gc_lti (lo := (-1)) (hi := 255) (gb_isub (lo := (-1)) (hi := 255) (gc_rd (c := 11) (lo := 0) (hi := 256) hTs_2 (rfl : gc_cat 130 = 11) (by decide)) (gb_ic (a := 1) (by decide)) (by decide)) (fun x_6 ex_6 ix_6 => ?_)
  exact ct_Flocks_fewestBackwards_B_21 hn (fun _ _ hT h => ⟨hT, h⟩) n _ _ _ _ hTs_2 (gb_it _) ix_6 (gb_iw (lo := 0) (hi := 256) (gb_ic (a := 0) (by decide)) (by decide)) (gb_fuu hn (gb_iw (lo := 0) (hi := 256) (gb_ic (a := 0) (by decide)) (by decide)) (by decide))
set_option maxHeartbeats 4000000 in
theorem ct_Face_backs {n : Nat} (hn : gb_N ≤ n) {σ : gb_S} {p1 : Int32} {p2 : Int32} {p3 : Int32} {p4 : Int32} (hT : gb_TC σ) : gb_tc (cs_Face_backs n σ p1 p2 p3 p4) (fun s r => gb_TC s ∧ gb_iv (-1) 255 r) := by
  unfold cs_Face_backs
  refine gc_cdP (ct_Face_borderAt hn hT) (fun r_2 qr_2 h_33740 => ?_)
  refine gc_if (fun c_33741 => ?_) (fun c_33741 => ?_)
  · exact gc_some ⟨hT, (gb_iw (lo := (-1)) (hi := 255) (gb_ic (a := (-1)) (by decide)) (by decide))⟩
  · refine gc_kk (Or.resolve_left h_33740 c_33741) ?_
    refine gc_cdP (ct_Border_hasPath_B hn hT (Or.resolve_left h_33740 c_33741)) (fun r_8 qr_8 h_33742 => ?_)
    refine gc_if (fun c_33743 => ?_) (fun c_33743 => ?_)
    · have j_33744 : gb_iv 0 0 r_8 := (gb_rU (lo := 0) (hi := 0) (gb_deq c_33743) h_33742.1 (gb_ic (a := 0) (by decide)) (by decide))
      exact gc_some ⟨hT, (gb_iw (lo := (-1)) (hi := 255) (gb_ic (a := (-1)) (by decide)) (by decide))⟩
    · have j_33745 : gb_iv 1 1 r_8 := (gb_rN (lo := 1) (hi := 1) (v := 0) c_33743 h_33742.1 (by decide) (by decide))
      have j_33746 : gb_iv 0 4 p2 := (h_33742.2 c_33743)
      refine gc_if (fun c_33747 => ?_) (fun c_33747 => ?_)
      · have j_33748 : gb_iv (-2147483648) (-1) p3 := (gb_rU (lo := (-2147483648)) (hi := (-1)) (gb_dlt c_33747) (gb_it _) (gb_ic (a := 0) (by decide)) (by decide))
        exact gc_some ⟨hT, (gb_iw (lo := (-1)) (hi := 255) (gb_ic (a := (-1)) (by decide)) (by decide))⟩
      · have j_33749 : gb_iv 0 2147483647 p3 := (gb_rL (lo := 0) (hi := 2147483647) (gb_dnlt c_33747) (gb_it _) (gb_ic (a := 0) (by decide)) (by decide))
        refine gc_if (fun c_33750 => ?_) (fun c_33750 => ?_)
        · have j_33751 : gb_iv 0 9999 p3 := (gb_rU (lo := 0) (hi := 9999) (gb_dle c_33750) j_33749 (gb_ic (a := 9999) (by decide)) (by decide))
          refine gc_cdT (ct_Flocks_fewestBackwards_B hn hT (Or.resolve_left h_33740 c_33741) j_33746) (fun s_14 r_15 hTs_14 h_33752 => ?_)
          refine gc_if (fun c_33753 => ?_) (fun c_33753 => ?_)
          · have j_33754 : gb_iv (-2147483648) 0 p4 := (gb_rU (lo := (-2147483648)) (hi := 0) (gb_deq c_33753) (gb_it _) (gb_ic (a := 0) (by decide)) (by decide))
            have j_33755 : gb_iv 0 0 p4 := (gb_rL (lo := 0) (hi := 0) (gb_deq2 c_33753) j_33754 (gb_ic (a := 0) (by decide)) (by decide))
            exact gc_some ⟨hTs_14, h_33752⟩
          · refine gc_cdP (ct_java_lang_Integer_bitCount hn hTs_14) (fun r_20 qr_20 h_33756 => ?_)
            exact gc_some ⟨hTs_14, (gb_iw (lo := (-1)) (hi := 255) h_33756 (by decide))⟩
        · have j_33757 : gb_iv 10000 2147483647 p3 := (gb_rL (lo := 10000) (hi := 2147483647) (gb_dnle c_33750) j_33749 (gb_ic (a := 9999) (by decide)) (by decide))
          exact gc_some ⟨hT, (gb_iw (lo := (-1)) (hi := 255) (gb_ic (a := (-1)) (by decide)) (by decide))⟩
/-! THE CLASS: by hand -/
/-! feeding -/
theorem gb_nnar (x : Int32) : gb_iv (-128) 127 (vp_nar .byte (x.toInt8.toInt32)) := by
  rw [pk_vb]
  have h1 := Int8.le_toInt x.toInt8
  have h2 := Int8.toInt_lt x.toInt8
  have e : x.toInt8.toInt32.toInt = x.toInt8.toInt := Int8.toInt_toInt32 _
  constructor <;> (rw [e]; omega)
set_option maxHeartbeats 4000000 in
theorem ct_Told_addBytes_14 {n : Nat} : ∀ (mm : Nat) (σ : gb_S) (v1 v2 : Int32), gb_TC σ → (∃ j : Nat, j ≤ 4 ∧ v2.toInt = 8 * j - 8 ∧ (σ.1 1 6).toInt + j ≤ 600 ∧ j < mm) → gb_tc (cs_Told_addBytes_14 n mm σ v1 v2) (fun s _ => gb_TC s ∧ True) := by
  intro mm
  induction mm with
  | zero =>
    intro σ v1 v2 hT h
    obtain ⟨j, -, -, -, hm⟩ := h
    exact absurd hm (Nat.not_lt_zero _)
  | succ mm ih =>
    intro σ v1 v2 hT h
    obtain ⟨j, hj, ev, hl, hm⟩ := h
    rw [cs_Told_addBytes_14]
    refine gc_if (fun c => gc_some ⟨hT, trivial⟩) (fun c => ?_)
    have z : (0 : Int32).toInt = 0 := by decide
    have hc := gb_dnlt c
    obtain ⟨k, rfl⟩ : ∃ k, j = k + 1 := ⟨j - 1, by omega⟩
    have i6 : gb_iv 0 600 (σ.1 1 6) := gc_rd (c := 7) hT rfl (by decide)
    have i6' : gb_iv 0 599 (σ.1 1 6) := ⟨i6.1, by omega⟩
    refine gc_ck i6' (by decide) ?_
    refine gc_ltT (gc_su (c := 6) (lo := -128) (hi := 127) hT rfl (gb_nnar _) ⟨Int.le_refl _, Int.le_refl _⟩) (fun s2 e2 hT2 => ?_)
    have e6 : s2.1 1 6 = σ.1 1 6 := by
      rw [e2]
      rfl
    obtain ⟨q1, q2⟩ := gb_inc i6'
    refine gc_ltT (gc_su (c := 7) (lo := 0) (hi := 600) hT2 rfl (by rw [e6]; exact q1) (by decide)) (fun s3 e3 hT3 => gc_lt (fun x ex => ?_))
    have e7 : s3.1 1 6 = σ.1 1 6 + 1 := by
      rw [e3, ← e6]
      rfl
    have m8 : (-8 : Int32).toInt = -8 := by decide
    have ex2 : x.toInt = v2.toInt - 8 := by
      rw [ex, gb_tadd (by rw [m8]; omega) (by rw [m8]; omega), m8]
      omega
    exact ih s3 v1 x hT3 ⟨k, by omega, by omega, by rw [e7, q2]; omega, by omega⟩
theorem ct_Told_addBytes {n : Nat} (hn : gb_N ≤ n) {σ : gb_S} {p1 : Int32} (hT : gb_TC σ) : gb_tc (cs_Told_addBytes n σ p1) (fun s _ => gb_TC s ∧ True) := by
  unfold cs_Told_addBytes
  refine gc_if (fun c => ?_) (fun c => gc_some ⟨hT, trivial⟩)
  have h := gb_dle c
  have z : (596 : Int32).toInt = 596 := by decide
  exact ct_Told_addBytes_14 n σ p1 24 hT ⟨4, by decide, by decide, by omega, by unfold gb_N at hn; omega⟩
/-! a night changed -/
set_option maxHeartbeats 4000000 in
theorem ct_Night_changeWithNext_31 {n : Nat} : ∀ (mm : Nat) (σ : gb_S) (v2 v3 v4 : Int32), gb_TC σ → v2 = 4 → gb_iv 1 89 v3 → gb_iv 0 4 v4 → (4 - v4.toInt).toNat < mm → gb_tc (cs_Night_changeWithNext_31 n mm σ v2 v3 v4) (fun s _ => gb_TC s ∧ True) := by
  have st : ∀ (σ : gb_S) (i v : Int32) (a b : Int), gb_TC σ → gb_iv a b i → 1 ≤ a → gb_TC (gb_su σ 105 (upd (σ.1 105) (Int32.toNatClampNeg i) v)) := fun σ i v a b hT hi ha => by
    refine gc_su (c := 2) (lo := -2147483648) (hi := 2147483647) hT rfl (gb_it v) ?_
    have : ¬ Int32.toNatClampNeg i = 0 := by
      have := gb_cl hi (by omega)
      have := hi.1
      omega
    unfold gc_ty
    show (if Int32.toNatClampNeg i = 0 then ((0, 24) : Int × Int) else (-2147483648, 2147483647)).1 ≤ _ ∧ _
    rw [if_neg this]
    exact ⟨Int.le_refl _, Int.le_refl _⟩
  intro mm
  induction mm with
  | zero =>
    intro σ v2 v3 v4 hT e2 i3 i4 hm
    exact absurd hm (Nat.not_lt_zero _)
  | succ mm ih =>
    intro σ v2 v3 v4 hT e2 i3 i4 hm
    subst e2
    rw [cs_Night_changeWithNext_31]
    refine gc_if (fun c => gc_some ⟨hT, trivial⟩) (fun c => ?_)
    have i4' : gb_iv 0 3 v4 := gb_rU (s := 1) (gb_dnle c) i4 (gb_ic (a := 4) (by decide)) (by decide)
    have a1 := gb_iadd (lo := 1) (hi := 92) i3 i4' (by decide)
    have a2 := gb_iadd (lo := 5) (hi := 96) (gb_iadd (lo := 5) (hi := 93) i3 (gb_ic (x := 4) (a := 4) (by decide)) (by decide)) i4' (by decide)
    refine gc_ck a1 (by decide) (gc_lt (fun x ex => gc_ck a2 (by decide) (gc_lt (fun y ey => gc_ck a1 (by decide) (gc_ltT (st σ _ _ _ _ hT a1 (by decide)) (fun s2 e2 hT2 => gc_ck a2 (by decide) (gc_ltT (st s2 _ _ _ _ hT2 a2 (by decide)) (fun s3 e3 hT3 => gc_lt (fun z ez => ?_)))))))))
    refine ih s3 4 v3 z hT3 rfl i3 ?_ (gb_mup ez i4' (by decide) hm)
    rw [ez]
    exact gb_iw (gb_iadd (lo := 1) (hi := 4) i4' (gb_ic (a := 1) (by decide)) (by decide)) (by decide)
theorem ct_Night_changeWithNext {n : Nat} (hn : gb_N ≤ n) {σ : gb_S} {p1 : Int32} (hT : gb_TC σ) (i1 : gb_iv 0 22 p1) : gb_tc (cs_Night_changeWithNext n σ p1) (fun s _ => gb_TC s ∧ True) := by
  unfold cs_Night_changeWithNext
  refine gc_if (fun c => gc_some ⟨hT, trivial⟩) (fun c => ?_)
  refine gc_cdP (ct_Lines_size hn hT) (fun r er hr => gc_if (fun c2 => ?_) (fun c2 => gc_some ⟨hT, trivial⟩))
  refine gc_lt (fun x ex => gc_lt (fun y ey => ?_))
  have e4 : x = 4 := by
    rw [ex]
    decide
  subst e4
  have iy : gb_iv 1 89 y := by
    rw [ey]
    exact gb_iadd (lo := 1) (hi := 89) (gb_ic (a := 1) (by decide)) (gb_imul (lo := 0) (hi := 88) i1 (gb_ic (a := 4) (by decide)) (by decide)) (by decide)
  have i0 : gb_iv 0 4 (0 : Int32) := gb_iw (gb_ic (a := 0) (by decide)) (by decide)
  exact ct_Night_changeWithNext_31 n σ 4 y 0 hT rfl iy i0 (gb_fuu hn i0 (by decide))
/-! bits -/
def gc_bc (p1 : Int32) : Int32 :=
  let x_1 := (p1 - ((((p1 : Int32).toUInt32 >>> ((1 : Int32).toUInt32 &&& Int32.toUInt32 31)).toInt32) &&& 1431655765))
  let x_2 := ((x_1 &&& 858993459) + ((((x_1 : Int32).toUInt32 >>> ((2 : Int32).toUInt32 &&& Int32.toUInt32 31)).toInt32) &&& 858993459))
  let x_3 := ((x_2 + (((x_2 : Int32).toUInt32 >>> ((4 : Int32).toUInt32 &&& Int32.toUInt32 31)).toInt32)) &&& 252645135)
  let x_4 := (x_3 + (((x_3 : Int32).toUInt32 >>> ((8 : Int32).toUInt32 &&& Int32.toUInt32 31)).toInt32))
  let x_5 := (x_4 + (((x_4 : Int32).toUInt32 >>> ((16 : Int32).toUInt32 &&& Int32.toUInt32 31)).toInt32))
  (x_5 &&& 63)
theorem gc_bcE (n : Nat) (σ : gb_S) (p : Int32) : cs_java_lang_Integer_bitCount n σ p = some (σ, gc_bc p) := rfl
theorem gc_bc1 : ∀ j : Fin 256, 1 ≤ j.val → 1 ≤ (gc_bc (nI j.val)).toInt ∧ (gc_bc (nI j.val)).toInt ≤ 8 := by decide +kernel
theorem gb_nI {p : Int32} {a b : Int} (h : gb_iv a b p) (k : 0 ≤ a ∧ b ≤ 255) : ∃ j : Fin 256, p = nI j.val ∧ p.toInt = (j.val : Int) := by
  obtain ⟨h1, h2⟩ := h
  obtain ⟨j, hj, e⟩ := nI_of (x := p) (fun q => by have := gb_dlt q; have z : (0 : Int32).toInt = 0 := (by decide); omega)
  have ej : (nI j).toInt = j := by
    show (Int32.ofNat j).toInt = j
    exact Int32.toInt_ofNat_of_lt (by omega)
  have h3 : p.toInt = (j : Int) := by rw [e, ej]
  exact ⟨⟨j, by omega⟩, e, h3⟩
theorem ct_bitCount1 {n : Nat} (hn : gb_N ≤ n) {σ : gb_S} {p1 : Int32} (hT : gb_TC σ) (i1 : gb_iv 1 255 p1) : gb_tc (cs_java_lang_Integer_bitCount n σ p1) (fun s r => s = σ ∧ gb_iv 1 8 r) := by
  obtain ⟨j, e, ej⟩ := gb_nI i1 (by decide)
  have h1 := i1.1
  have := gc_bc1 j (by omega)
  rw [← e] at this
  exact ⟨σ, _, gc_bcE n σ p1, rfl, this⟩
/-! evenest -/
def gb_TS (σ : gb_S) : Prop := gb_TC σ ∧ 1 ≤ (σ.1 130 4).toInt
theorem gc_ss0 {σ : gb_S} {i : Nat} {v : Int32} (h : gb_TS σ) (e : gc_cat 132 = 0) : gb_TS (gb_su σ 132 (upd (σ.1 132) i v)) := ⟨gc_su0 h.1 e, h.2⟩
theorem gc_ltS {ρ : Type} {v : gb_S} {k : gb_S → gb_CR ρ} {Q : gb_S → ρ → Prop} (h : gb_TS v) (H : ∀ s, s = v → gb_TS s → gb_tc (k s) Q) : gb_tc (gb_lt v k) Q := H v rfl h
set_option maxHeartbeats 4000000 in
theorem cs2_sumUp_44 {n : Nat} (hn : gb_N ≤ n) {Q : gb_S → Unit → Prop} {k17 : gb_S → Nat → Int32 → Int32 → gb_CR Unit} {M17 : Nat} (hk17 : ∀ (σ : gb_S) (v1 : Nat) (v2 : Int32) (v4 : Int32), gb_TS σ → gb_kB v1 = true → gb_iv 0 4 v2 → gb_iv 0 8 v4 → (8 - v4.toInt).toNat < M17 → gb_tc (k17 σ v1 v2 v4) Q) (hret : ∀ (σ : gb_S) (r : Unit), gb_TS σ → True → Q σ r) : ∀ (mm : Nat) (σ : gb_S) (v1 : Nat) (v2 : Int32) (v4 : Int32) (v5 : Int32) (v6 : Int32) (v7 : Int32), gb_TS σ → gb_kB v1 = true → gb_iv 0 4 v2 → gb_iv 0 7 v4 → gb_iv (-2147483648) 2147483647 v5 → gb_iv 1 128 v6 → gb_iv 0 128 v7 → (8 - v4.toInt).toNat < M17 + 1 → (128 - v7.toInt).toNat < mm → gb_tc (cs_Flocks_sumUp_B_c132_44 n k17 mm σ v1 v2 v4 v5 v6 v7) Q := by
  intro mm
  induction mm with
  | zero =>
    intro σ v1 v2 v4 v5 v6 v7 hT hv1 iv2 iv4 iv5 iv6 iv7 hm17 hm
    exact absurd hm (Nat.not_lt_zero _)
  | succ mm ih =>
    intro σ v1 v2 v4 v5 v6 v7 hT hv1 iv2 iv4 iv5 iv6 iv7 hm17 hm
    rw [cs_Flocks_sumUp_B_c132_44]
    refine gc_kk hv1 ?_
    refine gc_if (fun c_30778 => ?_) (fun c_30778 => ?_)
    · have j_30779 : gb_iv 1 128 v7 := (gb_rL (lo := 1) (hi := 128) (gb_dle c_30778) iv7 iv6 (by decide))
      refine gc_lti (lo := 1) (hi := 8) (gb_iadd (lo := 1) (hi := 8) iv4 (gb_ic (a := 1) (by decide)) (by decide)) (fun x_21 ex_21 ix_21 => ?_)
      exact hk17 _ _ _ _ hT hv1 iv2 (gb_iw (lo := 0) (hi := 8) ix_21 (by decide)) (gb_mup ex_21 iv4 (by decide) hm17)
    · have j_30780 : gb_iv 0 127 v7 := (gb_rU (lo := 0) (hi := 127) (gb_dnle c_30778) iv7 iv6 (by decide))
      refine gc_ck j_30780 (by decide) ?_
      refine gc_lti (lo := (-2147483648)) (hi := 2147483647) (gb_it _) (fun x_23 ex_23 ix_23 => ?_)
      refine gc_ck (gb_iadd (lo := 1) (hi := 255) iv6 j_30780 (by decide)) (by decide) ?_
      refine gc_ltS (gc_ss0 hT (rfl : gc_cat 132 = 0)) (fun s_25 es_25 hTs_25 => ?_)
      refine gc_lti (lo := 1) (hi := 128) (gb_iadd (lo := 1) (hi := 128) j_30780 (gb_ic (a := 1) (by decide)) (by decide)) (fun x_26 ex_26 ix_26 => ?_)
      exact ih _ _ _ _ _ _ _ hTs_25 hv1 iv2 iv4 (gb_it _) iv6 (gb_iw (lo := 0) (hi := 128) ix_26 (by decide)) hm17 (gb_mup ex_26 j_30780 (by decide) hm)
set_option maxHeartbeats 4000000 in
theorem cs2_sumUp_17 {n : Nat} (hn : gb_N ≤ n) {Q : gb_S → Unit → Prop} (hret : ∀ (σ : gb_S) (r : Unit), gb_TS σ → True → Q σ r) : ∀ (mm : Nat) (σ : gb_S) (v1 : Nat) (v2 : Int32) (v4 : Int32), gb_TS σ → gb_kB v1 = true → gb_iv 0 4 v2 → gb_iv 0 8 v4 → (8 - v4.toInt).toNat < mm → gb_tc (cs_Flocks_sumUp_B_c132_17 n mm σ v1 v2 v4) Q := by
  intro mm
  induction mm with
  | zero =>
    intro σ v1 v2 v4 hT hv1 iv2 iv4 hm
    exact absurd hm (Nat.not_lt_zero _)
  | succ mm ih =>
    intro σ v1 v2 v4 hT hv1 iv2 iv4 hm
    rw [cs_Flocks_sumUp_B_c132_17]
    refine gc_kk hv1 ?_
    refine gc_cdP (ct_Border_geese_B hn hT.1 hv1) (fun r_10 qr_10 h_30685 => ?_)
    refine gc_if (fun c_30686 => ?_) (fun c_30686 => ?_)
    · exact gc_some (hret _ _ hT trivial)
    · have j_30687 : gb_iv 0 7 v4 := (gb_rU (lo := 0) (hi := 7) (gb_dnle c_30686) iv4 h_30685 (by decide))
      have j_30688 : gb_iv 1 8 r_10 := (gb_rL (lo := 1) (hi := 8) (gb_dnle c_30686) h_30685 j_30687 (by decide))
      refine gc_cdP (ct_Border_marksFirst_B hn hT.1 hv1 j_30687 iv2) (fun r_15 qr_15 h_30689 => ?_)
      refine gc_lti (lo := 1) (hi := 128) (gb_ishl (lo := 1) (hi := 128) j_30687 (by decide)) (fun x_18 ex_18 ix_18 => ?_)
      exact cs2_sumUp_44 hn ih hret n _ _ _ _ _ _ _ hT hv1 iv2 j_30687 (gb_it _) ix_18 (gb_iw (lo := 0) (hi := 128) (gb_ic (a := 0) (by decide)) (by decide)) hm (gb_fuu hn (gb_iw (lo := 0) (hi := 128) (gb_ic (a := 0) (by decide)) (by decide)) (by decide))
set_option maxHeartbeats 4000000 in
theorem cs2_sumUp {n : Nat} (hn : gb_N ≤ n) {σ : gb_S} {p1 : Nat} {p2 : Int32} (hT : gb_TC σ) (h1 : gb_kB p1 = true) (i2 : gb_iv 0 4 p2) : gb_tc (cs_Flocks_sumUp_B_c132 n σ p1 p2) (fun s _ => gb_TC s ∧ 1 ≤ (s.1 130 4).toInt) := by
  unfold cs_Flocks_sumUp_B_c132
  refine gc_kk h1 ?_
  refine gc_cdP (ct_Border_geese_B hn hT h1) (fun r _ hr => ?_)
  have ib := gb_ishl (lo := 1) (hi := 256) hr (by decide)
  refine gc_ltT (gc_su (c := 11) (lo := 1) (hi := 256) hT rfl ib (by decide)) (fun s2 e2 hT2 => ?_)
  have hS2 : gb_TS s2 := ⟨hT2, by rw [e2]; exact ib.1⟩
  refine gc_ltS (gc_ss0 hS2 rfl) (fun s3 e3 hS3 => ?_)
  have i0 : gb_iv 0 8 (0 : Int32) := gb_iw (gb_ic (a := 0) (by decide)) (by decide)
  exact cs2_sumUp_17 hn (fun _ _ hT _ => hT) n _ _ _ _ hS3 h1 i2 i0 (gb_fuu hn i0 (by decide))

set_option maxHeartbeats 4000000 in
theorem ct_Flocks_evenest_B_41 {n : Nat} : ∀ (mm : Nat) (σ : gb_S) (v4 v5 : Int32), gb_TC σ → gb_iv 0 256 v5 → (256 - v5.toInt).toNat < mm → gb_tc (cs_Flocks_evenest_B_41 n mm σ v4 v5) (fun s _ => gb_TC s ∧ True) := by
  intro mm
  induction mm with
  | zero =>
    intro σ v4 v5 hT i5 hm
    exact absurd hm (Nat.not_lt_zero _)
  | succ mm ih =>
    intro σ v4 v5 hT i5 hm
    rw [cs_Flocks_evenest_B_41]
    refine gc_if (fun c => gc_some ⟨hT, trivial⟩) (fun c => ?_)
    have is : gb_iv 0 256 (σ.1 130 4) := gc_rd (c := 11) hT rfl (by decide)
    have hc := gb_dnle c
    have h1 := i5.1
    have h2 := is.2
    have i5' : gb_iv 0 255 v5 := ⟨h1, by omega⟩
    have c1 : (1 : Int32).toInt = 1 := by decide
    have a1 : ((σ.1 130 4) - 1).toInt = (σ.1 130 4).toInt - 1 := by
      rw [gb_tsub (by rw [c1]; omega) (by rw [c1]; omega), c1]
    have a2 : (((σ.1 130 4) - 1) - v5).toInt = (σ.1 130 4).toInt - 1 - v5.toInt := by
      rw [gb_tsub (by rw [a1]; omega) (by rw [a1]; omega), a1]
    have ia : gb_iv 0 255 (((σ.1 130 4) - 1) - v5) := ⟨by omega, by omega⟩
    have st : ∀ x : Int32, x = v5 + 1 → gb_iv 0 256 x := fun x e => by
      rw [e]
      exact gb_iw (gb_iadd (lo := 1) (hi := 256) i5' (gb_ic (a := 1) (by decide)) (by decide)) (by decide)
    refine gc_ck i5' (by decide) (gc_lt (fun x ex => gc_ck ia (by decide) (gc_lt (fun y ey => gc_lt (fun z ez => gc_if (fun _ => gc_lt (fun u eu => ih _ _ _ hT (st u eu) (gb_mup eu i5' (by decide) hm))) (fun _ => ?_))))))
    exact gc_ltT (gc_su (c := 11) (lo := -2147483648) (hi := 2147483647) hT rfl (gb_it _) (by decide)) (fun s2 e2 hT2 => gc_lt (fun u eu => ih _ _ _ hT2 (st u eu) (gb_mup eu i5' (by decide) hm)))
theorem ct_Flocks_evenest_B {n : Nat} (hn : gb_N ≤ n) {σ : gb_S} {p1 : Nat} {p2 p3 : Int32} (hT : gb_TC σ) (h1 : gb_kB p1 = true) (i2 : gb_iv 0 4 p2) (i3 : gb_iv 0 4 p3) : gb_tc (cs_Flocks_evenest_B n σ p1 p2 p3) (fun s r => gb_TC s ∧ gb_iv (-2147483648) 2147483647 r) := by
  unfold cs_Flocks_evenest_B
  refine gc_kk h1 ?_
  refine gc_cdT (ct_Flocks_sumUp_B_c131 hn hT h1 i2) (fun s2 _ hT2 _ => ?_)
  refine gc_cd (cs2_sumUp hn hT2 h1 i3) (fun s3 _ h3 => ?_)
  obtain ⟨hT3, hs⟩ := h3
  have is : gb_iv 0 256 (s3.1 130 4) := gc_rd (c := 11) hT3 rfl (by decide)
  have ia := gb_isub (lo := 0) (hi := 255) (a := 1) (b := 256) ⟨hs, is.2⟩ (gb_ic (x := 1) (a := 1) (by decide)) (by decide)
  refine gc_ck ia (by decide) (gc_lt (fun x ex => gc_ltT (gc_su (c := 11) (lo := -2147483648) (hi := 2147483647) hT3 rfl (gb_it _) (by decide)) (fun s4 e4 hT4 => ?_)))
  have i0 : gb_iv 0 256 (1 : Int32) := gb_iw (gb_ic (a := 1) (by decide)) (by decide)
  exact gc_mono (ct_Flocks_evenest_B_41 n s4 0 1 hT4 i0 (gb_fuu hn i0 (by decide))) (fun _ _ h => ⟨h.1, gb_it _⟩)
/-! ways -/
set_option maxHeartbeats 4000000 in
theorem ct_Flocks_addGoing_13 {n : Nat} : ∀ (mm : Nat) (σ : gb_S) (v1 v2 v3 : Int32), gb_TS σ → gb_iv 0 255 v1 → gb_iv 0 255 v3 → v3.toInt.toNat < mm → gb_tc (cs_Flocks_addGoing_13 n mm σ v1 v2 v3) (fun s _ => gb_TS s ∧ True) := by
  intro mm
  induction mm with
  | zero =>
    intro σ v1 v2 v3 hT i1 i3 hm
    exact absurd hm (Nat.not_lt_zero _)
  | succ mm ih =>
    intro σ v1 v2 v3 hT i1 i3 hm
    rw [cs_Flocks_addGoing_13]
    refine gc_if (fun c => ?_) (fun c => ?_)
    · exact gc_kk (gc_q5 hT.1) (gc_ck i1 (by decide) (gc_lt (fun x ex => gc_kk (gc_q4 hT.1) (gc_lt (fun y ey => gc_ck i1 (by decide) (gc_lt (fun s2 e2 => gc_some ⟨by rw [e2]; exact hT, trivial⟩)))))))
    · have hc := gb_dnle c
      have z : (0 : Int32).toInt = 0 := by decide
      have c1 : (1 : Int32).toInt = 1 := by decide
      have h3 := i3.2
      have io := gb_ior i3 i1
      have e1 : (v3 - 1).toInt = v3.toInt - 1 := by
        rw [gb_tsub (by rw [c1]; omega) (by rw [c1]; omega), c1]
      refine gc_kk (gc_q5 hT.1) (gc_ck io (by decide) (gc_lt (fun x ex => gc_kk (gc_q4 hT.1) (gc_ck i3 (by decide) (gc_lt (fun y ey => gc_ck io (by decide) (gc_lt (fun s2 e2 => gc_lt (fun u eu => ?_)))))))))
      have iu : gb_iv 0 (v3.toInt - 1) u := by
        rw [eu]
        exact gb_iand ⟨by omega, by omega⟩ ⟨Int.le_refl _, Int.le_refl _⟩
      have hu1 := iu.1
      have hu2 := iu.2
      exact ih s2 v1 v2 u (by rw [e2]; exact hT) i1 ⟨hu1, by omega⟩ (by omega)
theorem ct_Flocks_addGoing {n : Nat} (hn : gb_N ≤ n) {σ : gb_S} {p1 : Int32} (hT : gb_TS σ) (i1 : gb_iv 0 255 p1) : gb_tc (cs_Flocks_addGoing n σ p1) (fun s _ => gb_TS s ∧ True) := by
  unfold cs_Flocks_addGoing
  have is : gb_iv 0 256 (σ.1 130 4) := gc_rd (c := 11) hT.1 rfl (by decide)
  have ia := gb_isub (lo := 0) (hi := 255) (a := 1) (b := 256) ⟨hT.2, is.2⟩ (gb_ic (x := 1) (a := 1) (by decide)) (by decide)
  refine gc_lti (gb_iand (lo := 0) (hi := 255) ia (by decide)) (fun x ex ix => ct_Flocks_addGoing_13 n σ p1 x x hT i1 ix ?_)
  have := ix.2
  unfold gb_N at hn
  omega
set_option maxHeartbeats 4000000 in
theorem ct_Flocks_goBy_10 {n : Nat} (hn : gb_N ≤ n) : ∀ (mm : Nat) (σ : gb_S) (v1 v2 v3 : Int32), gb_TC σ → gb_iv 0 256 v3 → (256 - v3.toInt).toNat < mm → gb_tc (cs_Flocks_goBy_10 n mm σ v1 v2 v3) (fun s _ => gb_TC s ∧ True) := by
  intro mm
  induction mm with
  | zero =>
    intro σ v1 v2 v3 hT i3 hm
    exact absurd hm (Nat.not_lt_zero _)
  | succ mm ih =>
    intro σ v1 v2 v3 hT i3 hm
    rw [cs_Flocks_goBy_10]
    refine gc_if (fun c => ?_) (fun c => ?_)
    · refine gc_kk (gc_q4 hT) (gc_kk (gc_q5 hT) (gc_ltT (gc_sq4 hT (gc_q5 hT)) (fun s2 e2 hT2 => gc_ltT (gc_sq5 hT2 (gc_q4 hT)) (fun s3 e3 hT3 => gc_some ⟨hT3, trivial⟩))))
    · have is : gb_iv 0 256 (σ.1 130 4) := gc_rd (c := 11) hT rfl (by decide)
      have hc := gb_dnle c
      have h1 := i3.1
      have h2 := is.2
      have i3' : gb_iv 0 255 v3 := ⟨h1, by omega⟩
      have hS : gb_TS σ := ⟨hT, by omega⟩
      have st : ∀ x : Int32, x = v3 + 1 → gb_iv 0 256 x := fun x e => by
        rw [e]
        exact gb_iw (gb_iadd (lo := 1) (hi := 256) i3' (gb_ic (a := 1) (by decide)) (by decide)) (by decide)
      refine gc_ck i3' (by decide) (gc_lt (fun x ex => gc_if (fun _ => gc_if (fun _ => ?_) (fun _ => gc_lt (fun u eu => ih _ _ _ _ hT (st u eu) (gb_mup eu i3' (by decide) hm)))) (fun _ => gc_lt (fun u eu => ih _ _ _ _ hT (st u eu) (gb_mup eu i3' (by decide) hm)))))
      exact gc_cd (ct_Flocks_addGoing hn hS i3') (fun s2 _ h2 => gc_lt (fun u eu => ih _ _ _ _ h2.1.1 (st u eu) (gb_mup eu i3' (by decide) hm)))
theorem ct_Flocks_goBy {n : Nat} (hn : gb_N ≤ n) {σ : gb_S} {p1 p2 : Int32} (hT : gb_TC σ) : gb_tc (cs_Flocks_goBy n σ p1 p2) (fun s _ => gb_TC s ∧ True) := by
  unfold cs_Flocks_goBy
  refine gc_kk (gc_q5 hT) (gc_cdT (ct_java_util_Arrays_fillJ_J hn hT (gc_q5 hT)) (fun s2 _ hT2 _ => ?_))
  have i0 : gb_iv 0 256 (0 : Int32) := gb_iw (gb_ic (a := 0) (by decide)) (by decide)
  exact ct_Flocks_goBy_10 hn n s2 p1 p2 0 hT2 i0 (gb_fuu hn i0 (by decide))
set_option maxHeartbeats 4000000 in
theorem ct_shb_n {n : Nat} (hn : gb_N ≤ n) : ∀ (mm : Nat) (σ : gb_S) (v3 v4 : Int32), gb_TC σ → (σ.1 120 4).toInt ≤ v4.toInt → gb_iv 0 5 v4 → (5 - v4.toInt).toNat < mm → gb_tc (cs_Sharing_begin_B_n_18 n mm σ v3 v4) (fun s _ => gb_TC s ∧ True) := by
  intro mm
  induction mm with
  | zero =>
    intro σ v3 v4 hT ho i4 hm
    exact absurd hm (Nat.not_lt_zero _)
  | succ mm ih =>
    intro σ v3 v4 hT ho i4 hm
    rw [cs_Sharing_begin_B_n_18]
    refine gc_kk (gc_q2 hT) (gc_cdP (ct_Border_paths_B hn hT (gc_q2 hT)) (fun r er hr => gc_if (fun c => ct_shrest_n hn hT) (fun c => ?_)))
    have i4' : gb_iv 0 4 v4 := gb_rU (s := 1) (gb_dnle c) i4 hr (by decide)
    have st : ∀ x : Int32, x = v4 + 1 → gb_iv 0 5 x ∧ x.toInt = v4.toInt + 1 := fun x e => by
      refine ⟨?_, ?_⟩
      · rw [e]
        exact gb_iw (gb_iadd (lo := 1) (hi := 5) i4' (gb_ic (a := 1) (by decide)) (by decide)) (by decide)
      · rw [e]
        exact gb_i1 i4' (by decide)
    refine gc_ck i4' (by decide) (gc_ltT (gc_su0 hT rfl) (fun s2 e2 hT2 => ?_))
    have e4 : s2.1 120 4 = σ.1 120 4 := by
      rw [e2]
      rfl
    refine gc_if (fun _ => gc_lt (fun x ex => ih _ _ _ hT2 (by rw [e4]; have := (st x ex).2; omega) (st x ex).1 (gb_mup ex i4' (by decide) hm))) (fun _ => ?_)
    have io : gb_iv 0 4 (s2.1 120 4) := by
      have h1 : gb_iv 0 5 (s2.1 120 4) := gc_rd (c := 8) hT2 rfl (by decide)
      have h2 := i4'.2
      exact ⟨h1.1, by rw [e4]; omega⟩
    refine gc_ck io (by decide) (gc_ltT (gc_su (c := 9) (lo := 0) (hi := 4) hT2 rfl i4' ⟨Int.le_refl _, Int.le_refl _⟩) (fun s3 e3 hT3 => ?_))
    have e5 : s3.1 120 4 = s2.1 120 4 := by
      rw [e3]
      rfl
    have iq := gb_iadd (lo := 1) (hi := 5) io (gb_ic (x := 1) (a := 1) (by decide)) (by decide)
    have eq := gb_i1 io (by decide)
    refine gc_ltT (gc_su (c := 8) (lo := 1) (hi := 5) hT3 rfl (by rw [e5]; exact iq) (by decide)) (fun s4 e6 hT4 => gc_lt (fun x ex => ?_))
    have e7 : s4.1 120 4 = s2.1 120 4 + 1 := by
      rw [e6, ← e5]
      rfl
    refine ih _ _ _ hT4 ?_ (st x ex).1 (gb_mup ex i4' (by decide) hm)
    have h3 := (st x ex).2
    rw [e7, eq, e4]
    omega
theorem ct_Sharing_begin_B_n {n : Nat} (hn : gb_N ≤ n) {σ : gb_S} {p1 : Nat} {p3 : Int32} (hT : gb_TC σ) (h1 : gb_kB p1 = true) : gb_tc (cs_Sharing_begin_B_n n σ p1 p3) (fun s _ => gb_TC s ∧ True) := by
  unfold cs_Sharing_begin_B_n
  have i0 : gb_iv 0 5 (0 : Int32) := gb_iw (gb_ic (a := 0) (by decide)) (by decide)
  refine gc_kk h1 (gc_ltT (gc_sq2 hT h1) (fun s2 e2 hT2 => gc_ltT (gc_sq3 hT2 (Or.inl rfl)) (fun s3 e3 hT3 => gc_ltT (gc_su (c := 8) (lo := 0) (hi := 0) hT3 rfl (gb_ic (a := 0) (by decide)) (by decide)) (fun s4 e4 hT4 => ?_))))
  exact ct_shb_n hn n s4 p3 0 hT4 (by rw [e4]; show (0 : Int32).toInt ≤ (0 : Int32).toInt; decide) i0 (gb_fuu hn i0 (by decide))
set_option maxHeartbeats 4000000 in
theorem ct_shb_L {n : Nat} (hn : gb_N ≤ n) : ∀ (mm : Nat) (σ : gb_S) (v3 v4 : Int32), gb_TC σ → (σ.1 120 4).toInt ≤ v4.toInt → gb_iv 0 5 v4 → (5 - v4.toInt).toNat < mm → gb_tc (cs_Sharing_begin_B_L_18 n mm σ v3 v4) (fun s _ => gb_TC s ∧ True) := by
  intro mm
  induction mm with
  | zero =>
    intro σ v3 v4 hT ho i4 hm
    exact absurd hm (Nat.not_lt_zero _)
  | succ mm ih =>
    intro σ v3 v4 hT ho i4 hm
    rw [cs_Sharing_begin_B_L_18]
    refine gc_kk (gc_q2 hT) (gc_cdP (ct_Border_paths_B hn hT (gc_q2 hT)) (fun r er hr => gc_if (fun c => ct_shrest_L hn hT) (fun c => ?_)))
    have i4' : gb_iv 0 4 v4 := gb_rU (s := 1) (gb_dnle c) i4 hr (by decide)
    have st : ∀ x : Int32, x = v4 + 1 → gb_iv 0 5 x ∧ x.toInt = v4.toInt + 1 := fun x e => by
      refine ⟨?_, ?_⟩
      · rw [e]
        exact gb_iw (gb_iadd (lo := 1) (hi := 5) i4' (gb_ic (a := 1) (by decide)) (by decide)) (by decide)
      · rw [e]
        exact gb_i1 i4' (by decide)
    refine gc_ck i4' (by decide) (gc_ltT (gc_su0 hT rfl) (fun s2 e2 hT2 => ?_))
    have e4 : s2.1 120 4 = σ.1 120 4 := by
      rw [e2]
      rfl
    refine gc_if (fun _ => gc_lt (fun x ex => ih _ _ _ hT2 (by rw [e4]; have := (st x ex).2; omega) (st x ex).1 (gb_mup ex i4' (by decide) hm))) (fun _ => ?_)
    have io : gb_iv 0 4 (s2.1 120 4) := by
      have h1 : gb_iv 0 5 (s2.1 120 4) := gc_rd (c := 8) hT2 rfl (by decide)
      have h2 := i4'.2
      exact ⟨h1.1, by rw [e4]; omega⟩
    refine gc_ck io (by decide) (gc_ltT (gc_su (c := 9) (lo := 0) (hi := 4) hT2 rfl i4' ⟨Int.le_refl _, Int.le_refl _⟩) (fun s3 e3 hT3 => ?_))
    have e5 : s3.1 120 4 = s2.1 120 4 := by
      rw [e3]
      rfl
    have iq := gb_iadd (lo := 1) (hi := 5) io (gb_ic (x := 1) (a := 1) (by decide)) (by decide)
    have eq := gb_i1 io (by decide)
    refine gc_ltT (gc_su (c := 8) (lo := 1) (hi := 5) hT3 rfl (by rw [e5]; exact iq) (by decide)) (fun s4 e6 hT4 => gc_lt (fun x ex => ?_))
    have e7 : s4.1 120 4 = s2.1 120 4 + 1 := by
      rw [e6, ← e5]
      rfl
    refine ih _ _ _ hT4 ?_ (st x ex).1 (gb_mup ex i4' (by decide) hm)
    have h3 := (st x ex).2
    rw [e7, eq, e4]
    omega
theorem ct_Sharing_begin_B_L {n : Nat} (hn : gb_N ≤ n) {σ : gb_S} {p1 p2 : Nat} {p3 : Int32} (hT : gb_TC σ) (h1 : gb_kB p1 = true) (h2 : gb_kL p2 = true) : gb_tc (cs_Sharing_begin_B_L n σ p1 p2 p3) (fun s _ => gb_TC s ∧ True) := by
  unfold cs_Sharing_begin_B_L
  have i0 : gb_iv 0 5 (0 : Int32) := gb_iw (gb_ic (a := 0) (by decide)) (by decide)
  refine gc_kk h1 (gc_kk h2 (gc_ltT (gc_sq2 hT h1) (fun s2 e2 hT2 => gc_ltT (gc_sq3 hT2 (Or.inr h2)) (fun s3 e3 hT3 => gc_ltT (gc_su (c := 8) (lo := 0) (hi := 0) hT3 rfl (gb_ic (a := 0) (by decide)) (by decide)) (fun s4 e4 hT4 => ?_)))))
  exact ct_shb_L hn n s4 p3 0 hT4 (by rw [e4]; show (0 : Int32).toInt ≤ (0 : Int32).toInt; decide) i0 (gb_fuu hn i0 (by decide))
/-! deeds that can be -/
def gc_cv (F : Nat → Int32) (k j : Int32) : Int32 := F (Int32.toNatClampNeg (((1 : Int32) + (k * ((3 : Int32) + 1))) + j))
def gc_Dc (F : Nat → Int32) (k : Int32) : Prop :=
  ((gc_cv F k 0 = 0 ∨ gc_cv F k 0 = 1 ∨ gc_cv F k 0 = 2) → gb_iv 0 7 (gc_cv F k 1) ∧ gb_iv 0 4 (gc_cv F k 2)) ∧
  (gc_cv F k 0 = 3 → gb_iv 0 7 (gc_cv F k 1) ∧ gb_iv 0 7 (gc_cv F k 2) ∧ gb_iv 0 4 (gc_cv F k 3)) ∧
  (gc_cv F k 0 = 4 → gb_iv 0 7 (gc_cv F k 1)) ∧ (gc_cv F k 0 = 8 → gb_iv 0 4 (gc_cv F k 1))
theorem gc_Dc0 {F : Nat → Int32} {k : Int32} (h : gc_cv F k 0 = 0 ∨ gc_cv F k 0 = 1 ∨ gc_cv F k 0 = 2) (ha : gb_iv 0 7 (gc_cv F k 1)) (hb : gb_iv 0 4 (gc_cv F k 2)) : gc_Dc F k := by
  refine ⟨fun _ => ⟨ha, hb⟩, fun q => ?_, fun q => ?_, fun q => ?_⟩ <;> (rw [q] at h; exact absurd h (by decide))
theorem gc_Dc3 {F : Nat → Int32} {k : Int32} (h : gc_cv F k 0 = 3) (ha : gb_iv 0 7 (gc_cv F k 1)) (hb : gb_iv 0 7 (gc_cv F k 2)) (hc : gb_iv 0 4 (gc_cv F k 3)) : gc_Dc F k := by
  refine ⟨fun q => ?_, fun _ => ⟨ha, hb, hc⟩, fun q => ?_, fun q => ?_⟩ <;> (rw [h] at q; exact absurd q (by decide))
theorem gc_Dc4 {F : Nat → Int32} {k : Int32} (h : gc_cv F k 0 = 4) (ha : gb_iv 0 7 (gc_cv F k 1)) : gc_Dc F k := by
  refine ⟨fun q => ?_, fun q => ?_, fun _ => ha, fun q => ?_⟩ <;> (rw [h] at q; exact absurd q (by decide))
theorem gc_Dc5 {F : Nat → Int32} {k : Int32} (c0 : ¬ gc_cv F k 0 = 0) (c1 : ¬ gc_cv F k 0 = 1) (c2 : ¬ gc_cv F k 0 = 2) (c3 : ¬ gc_cv F k 0 = 3) (c4 : ¬ gc_cv F k 0 = 4) (c8 : ¬ gc_cv F k 0 = 8) : gc_Dc F k :=
  ⟨fun q => (q.elim c0 (fun q => q.elim c1 c2)).elim, fun q => absurd q c3, fun q => absurd q c4, fun q => absurd q c8⟩
theorem gc_Dc8 {F : Nat → Int32} {k : Int32} (h : gc_cv F k 0 = 8) (ha : gb_iv 0 4 (gc_cv F k 1)) : gc_Dc F k := by
  refine ⟨fun q => ?_, fun q => ?_, fun q => ?_, fun _ => ha⟩ <;> (rw [h] at q; exact absurd q (by decide))
theorem ct_cellEN {n : Nat} {σ : gb_S} {kn : Nat} {k j : Int32} (hkn : gb_kN kn = true) (i1 : gb_iv 0 23 k) (i2 : gb_iv 0 3 j) : gb_tc (cs_Lines_cell_N n σ kn k j) (fun s r => s = σ ∧ r = gc_cv (σ.1 (kn + 1)) k j) := by
  unfold cs_Lines_cell_N
  refine gc_kk hkn (gc_ck (gb_iadd (lo := 1) (hi := 96) (gb_iadd (lo := 1) (hi := 93) (gb_ic (a := 1) (by decide)) (gb_imul (lo := 0) (hi := 92) i1 (gb_ic (x := (3 : Int32) + 1) (a := 4) (by decide)) (by decide)) (by decide)) i2 (by decide)) (by decide) ?_)
  exact gc_lt (fun x e => gc_some ⟨rfl, e⟩)
theorem ct_kindEN {n : Nat} {σ : gb_S} {kn : Nat} {k : Int32} (hkn : gb_kN kn = true) (i1 : gb_iv 0 23 k) : gb_tc (cs_Lines_kind_N n σ kn k) (fun s r => s = σ ∧ r = gc_cv (σ.1 (kn + 1)) k 0) := by
  unfold cs_Lines_kind_N
  refine gc_kk hkn (gc_cdP (ct_cellEN hkn i1 (gb_iw (gb_ic (a := 0) (by decide)) (by decide))) (fun r _ hr => gc_some ⟨rfl, hr⟩))
set_option maxHeartbeats 4000000 in
theorem ct_canBeN {n : Nat} (hn : gb_N ≤ n) {σ : gb_S} {kn : Nat} {k : Int32} (hT : gb_TC σ) (hkn : gb_kN kn = true) (ik : gb_iv 0 23 k) : gb_tc (cs_Play_canBe_N n σ kn k) (fun s r => s = σ ∧ (¬ r = 0 → gc_Dc (σ.1 (kn + 1)) k)) := by
  have hq := gc_q1 hT
  have no : ∀ {P : Prop}, ¬ (0 : Int32) = 0 → P := fun h => absurd rfl h
  unfold cs_Play_canBe_N
  refine gc_kk hkn (gc_cdP (ct_cellEN hkn ik (gb_iw (gb_ic (a := 1) (by decide)) (by decide))) (fun a _ ea => ?_))
  refine gc_cdP (ct_cellEN hkn ik (gb_iw (gb_ic (a := 2) (by decide)) (by decide))) (fun b _ eb => ?_)
  refine gc_cdP (ct_kindEN hkn ik) (fun d _ ed => ?_)
  refine gc_if (fun c0 => ?_) (fun c0 => ?_)
  · refine gc_cdP (ct_Play_stands hn hT) (fun r1 _ h1 => gc_if (fun _ => gc_some ⟨rfl, no⟩) (fun c1 => gc_kk hq ?_))
    refine gc_cdP (ct_Border_hasPath_B hn hT hq) (fun r2 _ h2 => gc_if (fun _ => gc_some ⟨rfl, no⟩) (fun c2 => gc_some ⟨rfl, fun _ => ?_⟩))
    exact gc_Dc0 (Or.inl (ed ▸ c0)) (ea ▸ h1.2 c1) (eb ▸ h2.2 c2)
  refine gc_if (fun c1 => ?_) (fun c1 => ?_)
  · refine gc_cdP (ct_Play_stands hn hT) (fun r1 _ h1 => gc_if (fun _ => gc_some ⟨rfl, no⟩) (fun c2 => gc_kk hq ?_))
    refine gc_cdP (ct_Border_hasPath_B hn hT hq) (fun r2 _ h2 => gc_if (fun _ => gc_some ⟨rfl, no⟩) (fun c3 => gc_some ⟨rfl, fun _ => ?_⟩))
    exact gc_Dc0 (Or.inr (Or.inl (ed ▸ c1))) (ea ▸ h1.2 c2) (eb ▸ h2.2 c3)
  refine gc_if (fun c2 => ?_) (fun c2 => ?_)
  · refine gc_cdP (ct_Play_stands hn hT) (fun r1 _ h1 => gc_if (fun _ => gc_some ⟨rfl, no⟩) (fun c3 => gc_kk hq ?_))
    refine gc_cdP (ct_Border_hasPath_B hn hT hq) (fun r2 _ h2 => gc_if (fun _ => gc_some ⟨rfl, no⟩) (fun c4 => gc_some ⟨rfl, fun _ => ?_⟩))
    exact gc_Dc0 (Or.inr (Or.inr (ed ▸ c2))) (ea ▸ h1.2 c3) (eb ▸ h2.2 c4)
  refine gc_if (fun c3 => ?_) (fun c3 => ?_)
  · refine gc_cdP (ct_Play_stands hn hT) (fun r1 _ h1 => gc_if (fun _ => gc_some ⟨rfl, no⟩) (fun c4 => ?_))
    refine gc_cdP (ct_Play_stands hn hT) (fun r2 _ h2 => gc_if (fun _ => gc_some ⟨rfl, no⟩) (fun c5 => gc_kk hq ?_))
    refine gc_cdP (ct_cellEN hkn ik (gb_iw (gb_ic (a := 3) (by decide)) (by decide))) (fun e _ ee => ?_)
    refine gc_cdP (ct_Border_hasPath_B hn hT hq) (fun r3 _ h3 => gc_if (fun _ => gc_some ⟨rfl, no⟩) (fun c6 => gc_some ⟨rfl, fun _ => ?_⟩))
    exact gc_Dc3 (ed ▸ c3) (ea ▸ h1.2 c4) (eb ▸ h2.2 c5) (ee ▸ h3.2 c6)
  refine gc_if (fun c4 => ?_) (fun c4 => ?_)
  · refine gc_cdP (ct_Play_stands hn hT) (fun r1 _ h1 => gc_if (fun _ => ?_) (fun c5 => gc_some ⟨rfl, fun _ => gc_Dc4 (ed ▸ c4) (ea ▸ h1.2 c5)⟩))
    exact gc_cdP (ct_Play_stands hn hT) (fun r2 _ h2 => gc_if (fun _ => gc_some ⟨rfl, no⟩) (fun c5 => gc_some ⟨rfl, fun _ => gc_Dc4 (ed ▸ c4) (ea ▸ h2.2 c5)⟩))
  refine gc_if (fun c5 => gc_some ⟨rfl, fun _ => gc_Dc5 (ed ▸ c0) (ed ▸ c1) (ed ▸ c2) (ed ▸ c3) (ed ▸ c4) (by rw [← ed, c5]; decide)⟩) (fun c5 => ?_)
  refine gc_if (fun c6 => gc_some ⟨rfl, fun _ => gc_Dc5 (ed ▸ c0) (ed ▸ c1) (ed ▸ c2) (ed ▸ c3) (ed ▸ c4) (by rw [← ed, c6]; decide)⟩) (fun c6 => ?_)
  refine gc_if (fun c7 => gc_some ⟨rfl, fun _ => gc_Dc5 (ed ▸ c0) (ed ▸ c1) (ed ▸ c2) (ed ▸ c3) (ed ▸ c4) (by rw [← ed, c7]; decide)⟩) (fun c7 => ?_)
  refine gc_if (fun c8 => ?_) (fun c8 => gc_some ⟨rfl, fun _ => gc_Dc5 (ed ▸ c0) (ed ▸ c1) (ed ▸ c2) (ed ▸ c3) (ed ▸ c4) (ed ▸ c8)⟩)
  refine gc_kk hq (gc_cdP (ct_Border_hasPath_B hn hT hq) (fun r1 _ h1 => gc_if (fun _ => gc_some ⟨rfl, no⟩) (fun c9 => ?_)))
  refine gc_cdP (ct_Play_latestGoer hn hT (h1.2 c9)) (fun r2 _ h2 => gc_if (fun _ => gc_some ⟨rfl, no⟩) (fun c10 => gc_some ⟨rfl, fun _ => ?_⟩))
  exact gc_Dc8 (ed ▸ c8) (ea ▸ h1.2 c9)
set_option maxHeartbeats 4000000 in
theorem ct_doDeedN {n : Nat} (hn : gb_N ≤ n) {σ : gb_S} {kn : Nat} {k m : Int32} (hT : gb_TC σ) (hkn : gb_kN kn = true) (ik : gb_iv 0 23 k) (hd : gc_Dc (σ.1 (kn + 1)) k) : gb_tc (cs_Play_doDeed_N n σ kn k m) (fun s _ => gb_TC s ∧ True) := by
  obtain ⟨d0, d3, d4, d8⟩ := hd
  unfold cs_Play_doDeed_N
  refine gc_kk hkn (gc_cdP (ct_cellEN hkn ik (gb_iw (gb_ic (a := 1) (by decide)) (by decide))) (fun a _ ea => ?_))
  refine gc_cdP (ct_cellEN hkn ik (gb_iw (gb_ic (a := 2) (by decide)) (by decide))) (fun b _ eb => ?_)
  refine gc_cdP (ct_kindEN hkn ik) (fun d _ ed => ?_)
  rw [← ea, ← eb, ← ed] at d0
  rw [← ea, ← eb, ← ed] at d3
  rw [← ea, ← ed] at d4
  rw [← ea, ← ed] at d8
  have ok : ∀ {s : gb_S}, gb_TC s → gb_tc (some (s, ()) : gb_CR Unit) (fun s _ => gb_TC s ∧ True) := fun h => gc_some ⟨h, trivial⟩
  refine gc_if (fun c0 => ?_) (fun c0 => ?_)
  · have z := d0 (Or.inl c0)
    exact gc_if (fun _ => gc_cdT (ct_Play_go_n hn hT z.1 z.2) (fun s2 _ hT2 _ => ok hT2)) (fun _ => gc_cdT (ct_Play_go_c116 hn hT z.1 z.2) (fun s2 _ hT2 _ => ok hT2))
  refine gc_if (fun c1 => ?_) (fun c1 => ?_)
  · have z := d0 (Or.inr (Or.inl c1))
    exact gc_cdT (ct_Play_go_c117 hn hT z.1 z.2) (fun s2 _ hT2 _ => ok hT2)
  refine gc_if (fun c2 => ?_) (fun c2 => ?_)
  · have z := d0 (Or.inr (Or.inr c2))
    exact gc_cdT (ct_Play_go_c117 hn hT z.1 z.2) (fun s2 _ hT2 _ => ok hT2)
  refine gc_if (fun c3 => ?_) (fun c3 => ?_)
  · obtain ⟨z1, z2, z3⟩ := d3 c3
    refine gc_cdP (ct_cellEN hkn ik (gb_iw (gb_ic (a := 3) (by decide)) (by decide))) (fun e _ ee => ?_)
    rw [← ee] at z3
    refine gc_cdT (ct_Play_go_c116 hn hT z1 z3) (fun s2 _ hT2 _ => ?_)
    refine gc_ck z2 (by decide) (gc_ltT (gc_su0 hT2 rfl) (fun s3 e3 hT3 => ?_))
    refine gc_cdP (ct_cellEN hkn ik (gb_iw (gb_ic (a := 3) (by decide)) (by decide))) (fun e2 _ ee2 => ?_)
    exact gc_ck z2 (by decide) (gc_ltT (gc_su0 hT3 rfl) (fun s4 e4 hT4 => ok hT4))
  refine gc_if (fun c4 => ?_) (fun c4 => ?_)
  · have z := d4 c4
    exact gc_ck z (by decide) (gc_ltT (gc_su0 hT rfl) (fun s3 e3 hT3 => gc_ltT (gc_su (c := 10) (lo := -2147483648) (hi := 2147483647) hT3 rfl (gb_it _) (by decide)) (fun s4 e4 hT4 => ok hT4)))
  refine gc_if (fun c5 => gc_cdT (ct_Play_rainDown hn hT) (fun s2 _ hT2 _ => ok hT2)) (fun c5 => ?_)
  refine gc_if (fun c6 => gc_ltT (gc_su (c := 10) (lo := -2147483648) (hi := 2147483647) hT rfl (gb_it _) (by decide)) (fun s4 e4 hT4 => ok hT4)) (fun c6 => ?_)
  refine gc_if (fun c7 => gc_ltT (gc_su (c := 10) (lo := -2147483648) (hi := 2147483647) hT rfl (gb_it _) (by decide)) (fun s4 e4 hT4 => ok hT4)) (fun c7 => ?_)
  refine gc_if (fun c8 => ?_) (fun _ => ok hT)
  refine gc_cdP (ct_Play_latestGoer hn hT (d8 c8)) (fun r _ hr => ?_)
  exact gc_cdT (ct_Play_eat hn hT) (fun s2 _ hT2 _ => ok hT2)
set_option maxHeartbeats 4000000 in
theorem ct_run18N {n : Nat} (hn : gb_N ≤ n) {kn : Nat} (hkn : gb_kN kn = true) : ∀ (mm : Nat) (σ : gb_S) (v4 v5 v6 : Int32), gb_TC σ → gb_iv (-2147483648) 24 v5 → gb_iv 0 24 v6 → (24 - v6.toInt).toNat < mm → gb_tc (cs_Play_run_B_N_18 n mm σ kn v4 v5 v6) (fun s _ => gb_TC s ∧ True) := by
  intro mm
  induction mm with
  | zero =>
    intro σ v4 v5 v6 hT i5 i6 hm
    exact absurd hm (Nat.not_lt_zero _)
  | succ mm ih =>
    intro σ v4 v5 v6 hT i5 i6 hm
    rw [cs_Play_run_B_N_18]
    refine gc_kk hkn (gc_if (fun _ => gc_some ⟨hT, trivial⟩) (fun c => ?_))
    have i6' : gb_iv 0 23 v6 := gb_rU (s := 1) (gb_dnle c) i6 i5 (by decide)
    have inc := gb_iadd (lo := 1) (hi := 24) i6' (gb_ic (x := 1) (a := 1) (by decide)) (by decide)
    refine gc_cdP (ct_canBeN hn hT hkn i6') (fun r _ hr => gc_if (fun _ => gc_some ⟨hT, trivial⟩) (fun c2 => ?_))
    have go : ∀ (s2 : gb_S), gb_TC s2 → gb_tc (gb_lt (gb_su s2 109 (upd (s2.1 109) 11 (v6 + 1))) (fun s_24 => gb_lt (v6 + 1) (fun x_25 => cs_Play_run_B_N_18 n mm s_24 kn v4 v5 x_25))) (fun s _ => gb_TC s ∧ True) := fun s2 hT2 => by
      refine gc_ltT (gc_su (c := 10) (lo := 1) (hi := 24) hT2 rfl inc (by decide)) (fun s3 e3 hT3 => gc_lt (fun x ex => ?_))
      exact ih s3 v4 v5 x hT3 i5 (by rw [ex]; exact gb_iw inc (by decide)) (gb_mup ex i6' (by decide) hm)
    exact gc_if (fun _ => gc_cdT (ct_doDeedN hn hT hkn i6' (hr c2)) (fun s2 _ hT2 _ => go s2 hT2)) (fun _ => gc_cdT (ct_doDeedN hn hT hkn i6' (hr c2)) (fun s2 _ hT2 _ => go s2 hT2))
theorem ct_Play_run_B_N {n : Nat} (hn : gb_N ≤ n) {σ : gb_S} {p1 : Nat} {kn : Nat} {p3 p4 : Int32} (hT : gb_TC σ) (h1 : gb_kB p1 = true) (hkn : gb_kN kn = true) : gb_tc (cs_Play_run_B_N n σ p1 kn p3 p4) (fun s _ => gb_TC s ∧ True) := by
  unfold cs_Play_run_B_N
  have i0 : gb_iv 0 24 (0 : Int32) := gb_iw (gb_ic (a := 0) (by decide)) (by decide)
  refine gc_kk h1 (gc_kk hkn (gc_cdT (ct_Play_begin_B hn hT h1) (fun s2 _ hT2 _ => ?_)))
  refine gc_cdP (ct_Lines_size_N hn hT2 hkn) (fun r _ hr => ?_)
  refine gc_lti (gb_imin (lo := -2147483648) (hi := 24) (gb_it p3) hr (by decide)) (fun x ex ix => ?_)
  exact ct_run18N hn hkn n s2 p4 x 0 hT2 ix i0 (gb_fuu hn i0 (by decide))
theorem ct_cellEC {n : Nat} {σ : gb_S} {k j : Int32} (i1 : gb_iv 0 23 k) (i2 : gb_iv 0 3 j) : gb_tc (cs_Lines_cell n σ k j) (fun s r => s = σ ∧ r = gc_cv (σ.1 105) k j) := by
  unfold cs_Lines_cell
  refine gc_ck (gb_iadd (lo := 1) (hi := 96) (gb_iadd (lo := 1) (hi := 93) (gb_ic (a := 1) (by decide)) (gb_imul (lo := 0) (hi := 92) i1 (gb_ic (x := (3 : Int32) + 1) (a := 4) (by decide)) (by decide)) (by decide)) i2 (by decide)) (by decide) ?_
  exact gc_lt (fun x e => gc_some ⟨rfl, e⟩)
theorem ct_kindEC {n : Nat} {σ : gb_S} {k : Int32} (i1 : gb_iv 0 23 k) : gb_tc (cs_Lines_kind n σ k) (fun s r => s = σ ∧ r = gc_cv (σ.1 105) k 0) := by
  unfold cs_Lines_kind
  refine gc_cdP (ct_cellEC i1 (gb_iw (gb_ic (a := 0) (by decide)) (by decide))) (fun r _ hr => gc_some ⟨rfl, hr⟩)
set_option maxHeartbeats 4000000 in
theorem ct_canBeC {n : Nat} (hn : gb_N ≤ n) {σ : gb_S} {k : Int32} (hT : gb_TC σ) (ik : gb_iv 0 23 k) : gb_tc (cs_Play_canBe_c104 n σ k) (fun s r => s = σ ∧ (¬ r = 0 → gc_Dc (σ.1 105) k)) := by
  have hq := gc_q1 hT
  have no : ∀ {P : Prop}, ¬ (0 : Int32) = 0 → P := fun h => absurd rfl h
  unfold cs_Play_canBe_c104
  refine gc_cdP (ct_cellEC ik (gb_iw (gb_ic (a := 1) (by decide)) (by decide))) (fun a _ ea => ?_)
  refine gc_cdP (ct_cellEC ik (gb_iw (gb_ic (a := 2) (by decide)) (by decide))) (fun b _ eb => ?_)
  refine gc_cdP (ct_kindEC ik) (fun d _ ed => ?_)
  refine gc_if (fun c0 => ?_) (fun c0 => ?_)
  · refine gc_cdP (ct_Play_stands hn hT) (fun r1 _ h1 => gc_if (fun _ => gc_some ⟨rfl, no⟩) (fun c1 => gc_kk hq ?_))
    refine gc_cdP (ct_Border_hasPath_B hn hT hq) (fun r2 _ h2 => gc_if (fun _ => gc_some ⟨rfl, no⟩) (fun c2 => gc_some ⟨rfl, fun _ => ?_⟩))
    exact gc_Dc0 (Or.inl (ed ▸ c0)) (ea ▸ h1.2 c1) (eb ▸ h2.2 c2)
  refine gc_if (fun c1 => ?_) (fun c1 => ?_)
  · refine gc_cdP (ct_Play_stands hn hT) (fun r1 _ h1 => gc_if (fun _ => gc_some ⟨rfl, no⟩) (fun c2 => gc_kk hq ?_))
    refine gc_cdP (ct_Border_hasPath_B hn hT hq) (fun r2 _ h2 => gc_if (fun _ => gc_some ⟨rfl, no⟩) (fun c3 => gc_some ⟨rfl, fun _ => ?_⟩))
    exact gc_Dc0 (Or.inr (Or.inl (ed ▸ c1))) (ea ▸ h1.2 c2) (eb ▸ h2.2 c3)
  refine gc_if (fun c2 => ?_) (fun c2 => ?_)
  · refine gc_cdP (ct_Play_stands hn hT) (fun r1 _ h1 => gc_if (fun _ => gc_some ⟨rfl, no⟩) (fun c3 => gc_kk hq ?_))
    refine gc_cdP (ct_Border_hasPath_B hn hT hq) (fun r2 _ h2 => gc_if (fun _ => gc_some ⟨rfl, no⟩) (fun c4 => gc_some ⟨rfl, fun _ => ?_⟩))
    exact gc_Dc0 (Or.inr (Or.inr (ed ▸ c2))) (ea ▸ h1.2 c3) (eb ▸ h2.2 c4)
  refine gc_if (fun c3 => ?_) (fun c3 => ?_)
  · refine gc_cdP (ct_Play_stands hn hT) (fun r1 _ h1 => gc_if (fun _ => gc_some ⟨rfl, no⟩) (fun c4 => ?_))
    refine gc_cdP (ct_Play_stands hn hT) (fun r2 _ h2 => gc_if (fun _ => gc_some ⟨rfl, no⟩) (fun c5 => gc_kk hq ?_))
    refine gc_cdP (ct_cellEC ik (gb_iw (gb_ic (a := 3) (by decide)) (by decide))) (fun e _ ee => ?_)
    refine gc_cdP (ct_Border_hasPath_B hn hT hq) (fun r3 _ h3 => gc_if (fun _ => gc_some ⟨rfl, no⟩) (fun c6 => gc_some ⟨rfl, fun _ => ?_⟩))
    exact gc_Dc3 (ed ▸ c3) (ea ▸ h1.2 c4) (eb ▸ h2.2 c5) (ee ▸ h3.2 c6)
  refine gc_if (fun c4 => ?_) (fun c4 => ?_)
  · refine gc_cdP (ct_Play_stands hn hT) (fun r1 _ h1 => gc_if (fun _ => ?_) (fun c5 => gc_some ⟨rfl, fun _ => gc_Dc4 (ed ▸ c4) (ea ▸ h1.2 c5)⟩))
    exact gc_cdP (ct_Play_stands hn hT) (fun r2 _ h2 => gc_if (fun _ => gc_some ⟨rfl, no⟩) (fun c5 => gc_some ⟨rfl, fun _ => gc_Dc4 (ed ▸ c4) (ea ▸ h2.2 c5)⟩))
  refine gc_if (fun c5 => gc_some ⟨rfl, fun _ => gc_Dc5 (ed ▸ c0) (ed ▸ c1) (ed ▸ c2) (ed ▸ c3) (ed ▸ c4) (by rw [← ed, c5]; decide)⟩) (fun c5 => ?_)
  refine gc_if (fun c6 => gc_some ⟨rfl, fun _ => gc_Dc5 (ed ▸ c0) (ed ▸ c1) (ed ▸ c2) (ed ▸ c3) (ed ▸ c4) (by rw [← ed, c6]; decide)⟩) (fun c6 => ?_)
  refine gc_if (fun c7 => gc_some ⟨rfl, fun _ => gc_Dc5 (ed ▸ c0) (ed ▸ c1) (ed ▸ c2) (ed ▸ c3) (ed ▸ c4) (by rw [← ed, c7]; decide)⟩) (fun c7 => ?_)
  refine gc_if (fun c8 => ?_) (fun c8 => gc_some ⟨rfl, fun _ => gc_Dc5 (ed ▸ c0) (ed ▸ c1) (ed ▸ c2) (ed ▸ c3) (ed ▸ c4) (ed ▸ c8)⟩)
  refine gc_kk hq (gc_cdP (ct_Border_hasPath_B hn hT hq) (fun r1 _ h1 => gc_if (fun _ => gc_some ⟨rfl, no⟩) (fun c9 => ?_)))
  refine gc_cdP (ct_Play_latestGoer hn hT (h1.2 c9)) (fun r2 _ h2 => gc_if (fun _ => gc_some ⟨rfl, no⟩) (fun c10 => gc_some ⟨rfl, fun _ => ?_⟩))
  exact gc_Dc8 (ed ▸ c8) (ea ▸ h1.2 c9)
set_option maxHeartbeats 4000000 in
theorem ct_doDeedC {n : Nat} (hn : gb_N ≤ n) {σ : gb_S} {k m : Int32} (hT : gb_TC σ) (ik : gb_iv 0 23 k) (hd : gc_Dc (σ.1 105) k) : gb_tc (cs_Play_doDeed_c104 n σ k m) (fun s _ => gb_TC s ∧ True) := by
  obtain ⟨d0, d3, d4, d8⟩ := hd
  unfold cs_Play_doDeed_c104
  refine gc_cdP (ct_cellEC ik (gb_iw (gb_ic (a := 1) (by decide)) (by decide))) (fun a _ ea => ?_)
  refine gc_cdP (ct_cellEC ik (gb_iw (gb_ic (a := 2) (by decide)) (by decide))) (fun b _ eb => ?_)
  refine gc_cdP (ct_kindEC ik) (fun d _ ed => ?_)
  rw [← ea, ← eb, ← ed] at d0
  rw [← ea, ← eb, ← ed] at d3
  rw [← ea, ← ed] at d4
  rw [← ea, ← ed] at d8
  have ok : ∀ {s : gb_S}, gb_TC s → gb_tc (some (s, ()) : gb_CR Unit) (fun s _ => gb_TC s ∧ True) := fun h => gc_some ⟨h, trivial⟩
  refine gc_if (fun c0 => ?_) (fun c0 => ?_)
  · have z := d0 (Or.inl c0)
    exact gc_if (fun _ => gc_cdT (ct_Play_go_n hn hT z.1 z.2) (fun s2 _ hT2 _ => ok hT2)) (fun _ => gc_cdT (ct_Play_go_c116 hn hT z.1 z.2) (fun s2 _ hT2 _ => ok hT2))
  refine gc_if (fun c1 => ?_) (fun c1 => ?_)
  · have z := d0 (Or.inr (Or.inl c1))
    exact gc_cdT (ct_Play_go_c117 hn hT z.1 z.2) (fun s2 _ hT2 _ => ok hT2)
  refine gc_if (fun c2 => ?_) (fun c2 => ?_)
  · have z := d0 (Or.inr (Or.inr c2))
    exact gc_cdT (ct_Play_go_c117 hn hT z.1 z.2) (fun s2 _ hT2 _ => ok hT2)
  refine gc_if (fun c3 => ?_) (fun c3 => ?_)
  · obtain ⟨z1, z2, z3⟩ := d3 c3
    refine gc_cdP (ct_cellEC ik (gb_iw (gb_ic (a := 3) (by decide)) (by decide))) (fun e _ ee => ?_)
    rw [← ee] at z3
    refine gc_cdT (ct_Play_go_c116 hn hT z1 z3) (fun s2 _ hT2 _ => ?_)
    refine gc_ck z2 (by decide) (gc_ltT (gc_su0 hT2 rfl) (fun s3 e3 hT3 => ?_))
    refine gc_cdP (ct_cellEC ik (gb_iw (gb_ic (a := 3) (by decide)) (by decide))) (fun e2 _ ee2 => ?_)
    exact gc_ck z2 (by decide) (gc_ltT (gc_su0 hT3 rfl) (fun s4 e4 hT4 => ok hT4))
  refine gc_if (fun c4 => ?_) (fun c4 => ?_)
  · have z := d4 c4
    exact gc_ck z (by decide) (gc_ltT (gc_su0 hT rfl) (fun s3 e3 hT3 => gc_ltT (gc_su (c := 10) (lo := -2147483648) (hi := 2147483647) hT3 rfl (gb_it _) (by decide)) (fun s4 e4 hT4 => ok hT4)))
  refine gc_if (fun c5 => gc_cdT (ct_Play_rainDown hn hT) (fun s2 _ hT2 _ => ok hT2)) (fun c5 => ?_)
  refine gc_if (fun c6 => gc_ltT (gc_su (c := 10) (lo := -2147483648) (hi := 2147483647) hT rfl (gb_it _) (by decide)) (fun s4 e4 hT4 => ok hT4)) (fun c6 => ?_)
  refine gc_if (fun c7 => gc_ltT (gc_su (c := 10) (lo := -2147483648) (hi := 2147483647) hT rfl (gb_it _) (by decide)) (fun s4 e4 hT4 => ok hT4)) (fun c7 => ?_)
  refine gc_if (fun c8 => ?_) (fun _ => ok hT)
  refine gc_cdP (ct_Play_latestGoer hn hT (d8 c8)) (fun r _ hr => ?_)
  exact gc_cdT (ct_Play_eat hn hT) (fun s2 _ hT2 _ => ok hT2)
set_option maxHeartbeats 4000000 in
theorem ct_run18C {n : Nat} (hn : gb_N ≤ n) : ∀ (mm : Nat) (σ : gb_S) (v4 v5 v6 : Int32), gb_TC σ → gb_iv (-2147483648) 24 v5 → gb_iv 0 24 v6 → (24 - v6.toInt).toNat < mm → gb_tc (cs_Play_run_B_c104_18 n mm σ v4 v5 v6) (fun s _ => gb_TC s ∧ True) := by
  intro mm
  induction mm with
  | zero =>
    intro σ v4 v5 v6 hT i5 i6 hm
    exact absurd hm (Nat.not_lt_zero _)
  | succ mm ih =>
    intro σ v4 v5 v6 hT i5 i6 hm
    rw [cs_Play_run_B_c104_18]
    refine gc_if (fun _ => gc_some ⟨hT, trivial⟩) (fun c => ?_)
    have i6' : gb_iv 0 23 v6 := gb_rU (s := 1) (gb_dnle c) i6 i5 (by decide)
    have inc := gb_iadd (lo := 1) (hi := 24) i6' (gb_ic (x := 1) (a := 1) (by decide)) (by decide)
    refine gc_cdP (ct_canBeC hn hT i6') (fun r _ hr => gc_if (fun _ => gc_some ⟨hT, trivial⟩) (fun c2 => ?_))
    have go : ∀ (s2 : gb_S), gb_TC s2 → gb_tc (gb_lt (gb_su s2 109 (upd (s2.1 109) 11 (v6 + 1))) (fun s_24 => gb_lt (v6 + 1) (fun x_25 => cs_Play_run_B_c104_18 n mm s_24 v4 v5 x_25))) (fun s _ => gb_TC s ∧ True) := fun s2 hT2 => by
      refine gc_ltT (gc_su (c := 10) (lo := 1) (hi := 24) hT2 rfl inc (by decide)) (fun s3 e3 hT3 => gc_lt (fun x ex => ?_))
      exact ih s3 v4 v5 x hT3 i5 (by rw [ex]; exact gb_iw inc (by decide)) (gb_mup ex i6' (by decide) hm)
    exact gc_if (fun _ => gc_cdT (ct_doDeedC hn hT i6' (hr c2)) (fun s2 _ hT2 _ => go s2 hT2)) (fun _ => gc_cdT (ct_doDeedC hn hT i6' (hr c2)) (fun s2 _ hT2 _ => go s2 hT2))
theorem ct_Play_run_B_c104 {n : Nat} (hn : gb_N ≤ n) {σ : gb_S} {p1 : Nat} {p3 p4 : Int32} (hT : gb_TC σ) (h1 : gb_kB p1 = true) : gb_tc (cs_Play_run_B_c104 n σ p1 p3 p4) (fun s _ => gb_TC s ∧ True) := by
  unfold cs_Play_run_B_c104
  have i0 : gb_iv 0 24 (0 : Int32) := gb_iw (gb_ic (a := 0) (by decide)) (by decide)
  refine gc_kk h1 (gc_cdT (ct_Play_begin_B hn hT h1) (fun s2 _ hT2 _ => ?_))
  refine gc_cdP (ct_Lines_size hn hT2) (fun r _ hr => ?_)
  refine gc_lti (gb_imin (lo := -2147483648) (hi := 24) (gb_it p3) hr (by decide)) (fun x ex ix => ?_)
  exact ct_run18C hn n s2 p4 x 0 hT2 ix i0 (gb_fuu hn i0 (by decide))
/-! THE CLASS: the rest (written by wip/tot) -/
set_option maxHeartbeats 4000000 in
theorem ct_Face_feed {n : Nat} (hn : gb_N ≤ n) {σ : gb_S} {p1 : Int32} {p2 : Int32} {p3 : Int32} {p4 : Int32} {p5 : Int32} (hT : gb_TC σ) : gb_tc (cs_Face_feed n σ p1 p2 p3 p4 p5) (fun s r => gb_TC s ∧ gb_iv (-1) 600 r) := by
  unfold cs_Face_feed
  refine gc_if (fun c_28704 => ?_) (fun c_28704 => ?_)
  · have j_28705 : gb_iv 0 580 (σ.1 1 6) := (gb_rU (lo := 0) (hi := 580) (gb_dle c_28704) (gc_rd (c := 7) (lo := 0) (hi := 600) hT (rfl : gc_cat 1 = 7) (by decide)) (gb_ic (a := 580) (by decide)) (by decide))
    refine gc_cdT (ct_Told_addBytes hn hT) (fun s_2 u_28706 hTs_2 _ => ?_)
    refine gc_cdT (ct_Told_addBytes hn hTs_2) (fun s_6 u_28707 hTs_6 _ => ?_)
    refine gc_cdT (ct_Told_addBytes hn hTs_6) (fun s_10 u_28708 hTs_10 _ => ?_)
    refine gc_cdT (ct_Told_addBytes hn hTs_10) (fun s_14 u_28709 hTs_14 _ => ?_)
    refine gc_cdT (ct_Told_addBytes hn hTs_14) (fun s_18 u_28710 hTs_18 _ => ?_)
    exact gc_some ⟨hTs_18, (gb_iw (lo := (-1)) (hi := 600) (gc_rd (c := 7) (lo := 0) (hi := 600) hTs_18 (rfl : gc_cat 1 = 7) (by decide)) (by decide))⟩
  · have j_28711 : gb_iv 581 600 (σ.1 1 6) := (gb_rL (lo := 581) (hi := 600) (gb_dnle c_28704) (gc_rd (c := 7) (lo := 0) (hi := 600) hT (rfl : gc_cat 1 = 7) (by decide)) (gb_ic (a := 580) (by decide)) (by decide))
    exact gc_some ⟨hT, (gb_iw (lo := (-1)) (hi := 600) (gb_ic (a := (-1)) (by decide)) (by decide))⟩
set_option maxHeartbeats 4000000 in
theorem ct_Face_split {n : Nat} (hn : gb_N ≤ n) {σ : gb_S} {p1 : Int32} {p2 : Int32} {p3 : Int32} {p4 : Int32} (hT : gb_TC σ) : gb_tc (cs_Face_split n σ p1 p2 p3 p4) (fun s r => gb_TC s ∧ gb_iv (-2147483648) 2147483647 r) := by
  unfold cs_Face_split
  refine gc_cdP (ct_Face_borderAt hn hT) (fun r_2 qr_2 h_28729 => ?_)
  refine gc_if (fun c_28730 => ?_) (fun c_28730 => ?_)
  · exact gc_some ⟨hT, (gb_iw (lo := (-2147483648)) (hi := 2147483647) (gb_ic (a := (-1)) (by decide)) (by decide))⟩
  · refine gc_kk (Or.resolve_left h_28729 c_28730) ?_
    refine gc_if (fun c_28731 => ?_) (fun c_28731 => ?_)
    · exact gc_some ⟨hT, (gb_iw (lo := (-2147483648)) (hi := 2147483647) (gb_ic (a := (-1)) (by decide)) (by decide))⟩
    · refine gc_cdP (ct_Border_hasPath_B hn hT (Or.resolve_left h_28729 c_28730)) (fun r_9 qr_9 h_28732 => ?_)
      refine gc_if (fun c_28733 => ?_) (fun c_28733 => ?_)
      · have j_28734 : gb_iv 0 0 r_9 := (gb_rU (lo := 0) (hi := 0) (gb_deq c_28733) h_28732.1 (gb_ic (a := 0) (by decide)) (by decide))
        exact gc_some ⟨hT, (gb_iw (lo := (-2147483648)) (hi := 2147483647) (gb_ic (a := (-1)) (by decide)) (by decide))⟩
      · have j_28735 : gb_iv 1 1 r_9 := (gb_rN (lo := 1) (hi := 1) (v := 0) c_28733 h_28732.1 (by decide) (by decide))
        have j_28736 : gb_iv 0 4 p2 := (h_28732.2 c_28733)
        refine gc_cdP (ct_Border_hasPath_B hn hT (Or.resolve_left h_28729 c_28730)) (fun r_14 qr_14 h_28737 => ?_)
        refine gc_if (fun c_28738 => ?_) (fun c_28738 => ?_)
        · have j_28739 : gb_iv 0 0 r_14 := (gb_rU (lo := 0) (hi := 0) (gb_deq c_28738) h_28737.1 (gb_ic (a := 0) (by decide)) (by decide))
          exact gc_some ⟨hT, (gb_iw (lo := (-2147483648)) (hi := 2147483647) (gb_ic (a := (-1)) (by decide)) (by decide))⟩
        · have j_28740 : gb_iv 1 1 r_14 := (gb_rN (lo := 1) (hi := 1) (v := 0) c_28738 h_28737.1 (by decide) (by decide))
          have j_28741 : gb_iv 0 4 p3 := (h_28737.2 c_28738)
          refine gc_cdT (ct_Flocks_evenest_B hn hT (Or.resolve_left h_28729 c_28730) j_28736 j_28741) (fun s_18 r_19 hTs_18 h_28742 => ?_)
          refine gc_if (fun c_28743 => ?_) (fun c_28743 => ?_)
          · have j_28744 : gb_iv (-2147483648) 0 p4 := (gb_rU (lo := (-2147483648)) (hi := 0) (gb_deq c_28743) (gb_it _) (gb_ic (a := 0) (by decide)) (by decide))
            have j_28745 : gb_iv 0 0 p4 := (gb_rL (lo := 0) (hi := 0) (gb_deq2 c_28743) j_28744 (gb_ic (a := 0) (by decide)) (by decide))
            exact gc_some ⟨hTs_18, (gb_it _)⟩
          · exact gc_some ⟨hTs_18, (gb_it _)⟩
set_option maxHeartbeats 4000000 in
theorem ct_Flocks_thriftiest_B_71 {n : Nat} (hn : gb_N ≤ n) {Q : gb_S → Int32 → Prop} {k28 : gb_S → Nat → Int32 → gb_CR Int32} {M28 : Nat} (hk28 : ∀ (σ : gb_S) (v1 : Nat) (v2 : Int32), gb_TC σ → gb_kB v1 = true → gb_iv 1 256 v2 → (256 - v2.toInt).toNat < M28 → gb_tc (k28 σ v1 v2) Q) (hret : ∀ (σ : gb_S) (r : Int32), gb_TC σ → gb_iv (-1) 255 r → Q σ r) : ∀ (σ : gb_S) (v1 : Nat) (v2 : Int32) (v3 : Int32) (t0 : Int64) (t1 : Int32) (t2 : Nat), gb_TC σ → gb_kB v1 = true → gb_kJ t2 = true → gb_iv 1 255 v2 → gb_iv 0 7 v3 → gb_iv 1 255 t1 → (256 - v2.toInt).toNat < M28 + 1 → gb_tc (cs_Flocks_thriftiest_B_71 n k28 σ v1 v2 v3 t0 t1 t2) Q := by
  intro σ v1 v2 v3 t0 t1 t2 hT hv1 ht2 iv2 iv3 it1 hm28
  unfold cs_Flocks_thriftiest_B_71
  refine gc_kk hv1 ?_
  refine gc_kk ht2 ?_
  refine gc_ck it1 (by decide) ?_
  refine gc_ltT (gc_sg hT) (fun s_32 es_32 hTs_32 => ?_)
  refine gc_kk (gc_q4 hTs_32) ?_
  refine gc_ck iv2 (by decide) ?_
  refine gc_lt (fun x_35 ex_35 => ?_)
  refine gc_if (fun c_30802 => ?_) (fun c_30802 => ?_)
  · have j_30803 : gb_iv (-2147483648) 0 (lg_cmp x_35 (1 : Int64)) := (gb_rU (lo := (-2147483648)) (hi := 0) (gb_deq c_30802) (gb_it _) (gb_ic (a := 0) (by decide)) (by decide))
    have j_30804 : gb_iv 0 0 (lg_cmp x_35 (1 : Int64)) := (gb_rL (lo := 0) (hi := 0) (gb_deq2 c_30802) j_30803 (gb_ic (a := 0) (by decide)) (by decide))
    refine gc_cdP (ct_Border_paths_B hn hTs_32 hv1) (fun r_39 qr_39 h_30805 => ?_)
    refine gc_if (fun c_30806 => ?_) (fun c_30806 => ?_)
    · have j_30807 : gb_iv 0 4 v3 := (gb_rU (lo := 0) (hi := 4) (gb_deq c_30806) iv3 (gb_isub (lo := (-1)) (hi := 4) h_30805 (gb_ic (a := 1) (by decide)) (by decide)) (by decide))
      have j_30808 : gb_iv 0 4 (r_39 - 1) := (gb_rL (lo := 0) (hi := 4) (gb_deq c_30806) (gb_isub (lo := (-1)) (hi := 4) h_30805 (gb_ic (a := 1) (by decide)) (by decide)) j_30807 (by decide))
      have j_30809 : gb_iv 1 5 r_39 := (gb_vsub (lo := 1) (hi := 5) (v := 1) j_30808 (by decide) (by decide))
      exact gc_some (hret _ _ hTs_32 (gb_iw (lo := (-1)) (hi := 255) iv2 (by decide)))
    · refine gc_lti (lo := 2) (hi := 256) (gb_iadd (lo := 2) (hi := 256) iv2 (gb_ic (a := 1) (by decide)) (by decide)) (fun x_43 ex_43 ix_43 => ?_)
      exact hk28 _ _ _ hTs_32 hv1 (gb_iw (lo := 1) (hi := 256) ix_43 (by decide)) (gb_mup ex_43 iv2 (by decide) hm28)
  · refine gc_lti (lo := 2) (hi := 256) (gb_iadd (lo := 2) (hi := 256) iv2 (gb_ic (a := 1) (by decide)) (by decide)) (fun x_37 ex_37 ix_37 => ?_)
    exact hk28 _ _ _ hTs_32 hv1 (gb_iw (lo := 1) (hi := 256) ix_37 (by decide)) (gb_mup ex_37 iv2 (by decide) hm28)
set_option maxHeartbeats 4000000 in
theorem ct_Flocks_thriftiest_B_70 {n : Nat} (hn : gb_N ≤ n) {Q : gb_S → Int32 → Prop} {k28 : gb_S → Nat → Int32 → gb_CR Int32} {M28 : Nat} (hk28 : ∀ (σ : gb_S) (v1 : Nat) (v2 : Int32), gb_TC σ → gb_kB v1 = true → gb_iv 1 256 v2 → (256 - v2.toInt).toNat < M28 → gb_tc (k28 σ v1 v2) Q) (hret : ∀ (σ : gb_S) (r : Int32), gb_TC σ → gb_iv (-1) 255 r → Q σ r) : ∀ (σ : gb_S) (v1 : Nat) (v2 : Int32) (v3 : Int32) (t0 : Int32) (t1 : Nat), gb_TC σ → gb_kB v1 = true → gb_kJ t1 = true → gb_iv 1 255 v2 → gb_iv 0 7 v3 → gb_iv 1 255 t0 → (256 - v2.toInt).toNat < M28 + 1 → gb_tc (cs_Flocks_thriftiest_B_70 n k28 σ v1 v2 v3 t0 t1) Q := by
  intro σ v1 v2 v3 t0 t1 hT hv1 ht1 iv2 iv3 it0 hm28
  unfold cs_Flocks_thriftiest_B_70
  refine gc_kk hv1 ?_
  refine gc_kk ht1 ?_
  exact ct_Flocks_thriftiest_B_71 hn hk28 hret _ _ _ _ _ _ _ hT hv1 ht1 iv2 iv3 it0 hm28
set_option maxHeartbeats 4000000 in
theorem ct_Flocks_thriftiest_B_71_i1 {n : Nat} (hn : gb_N ≤ n) {Q : gb_S → Int32 → Prop} {k28 : gb_S → Nat → Int32 → gb_CR Int32} {M28 : Nat} (hk28 : ∀ (σ : gb_S) (v1 : Nat) (v2 : Int32), gb_TC σ → gb_kB v1 = true → gb_iv 1 256 v2 → (256 - v2.toInt).toNat < M28 → gb_tc (k28 σ v1 v2) Q) (hret : ∀ (σ : gb_S) (r : Int32), gb_TC σ → gb_iv (-1) 255 r → Q σ r) : ∀ (σ : gb_S) (v1 : Nat) (v2 : Int32) (v3 : Int32) (t0 : Int64) (t1 : Int32) (t2 : Nat), gb_TC σ → gb_kB v1 = true → gb_kJ t2 = true → gb_iv 1 255 v2 → gb_iv 0 4 v3 → gb_iv 1 255 t1 → (256 - v2.toInt).toNat < M28 + 1 → gb_tc (cs_Flocks_thriftiest_B_71 n k28 σ v1 v2 v3 t0 t1 t2) Q := by
  intro σ v1 v2 v3 t0 t1 t2 hT hv1 ht2 iv2 iv3 it1 hm28
  unfold cs_Flocks_thriftiest_B_71
  refine gc_kk hv1 ?_
  refine gc_kk ht2 ?_
  refine gc_ck it1 (by decide) ?_
  refine gc_ltT (gc_sg hT) (fun s_32 es_32 hTs_32 => ?_)
  refine gc_kk (gc_q4 hTs_32) ?_
  refine gc_ck iv2 (by decide) ?_
  refine gc_lt (fun x_35 ex_35 => ?_)
  refine gc_if (fun c_30815 => ?_) (fun c_30815 => ?_)
  · have j_30816 : gb_iv (-2147483648) 0 (lg_cmp x_35 (1 : Int64)) := (gb_rU (lo := (-2147483648)) (hi := 0) (gb_deq c_30815) (gb_it _) (gb_ic (a := 0) (by decide)) (by decide))
    have j_30817 : gb_iv 0 0 (lg_cmp x_35 (1 : Int64)) := (gb_rL (lo := 0) (hi := 0) (gb_deq2 c_30815) j_30816 (gb_ic (a := 0) (by decide)) (by decide))
    refine gc_cdP (ct_Border_paths_B hn hTs_32 hv1) (fun r_39 qr_39 h_30818 => ?_)
    refine gc_if (fun c_30819 => ?_) (fun c_30819 => ?_)
    · have j_30820 : gb_iv 0 4 (r_39 - 1) := (gb_rL (lo := 0) (hi := 4) (gb_deq c_30819) (gb_isub (lo := (-1)) (hi := 4) h_30818 (gb_ic (a := 1) (by decide)) (by decide)) iv3 (by decide))
      have j_30821 : gb_iv 1 5 r_39 := (gb_vsub (lo := 1) (hi := 5) (v := 1) j_30820 (by decide) (by decide))
      exact gc_some (hret _ _ hTs_32 (gb_iw (lo := (-1)) (hi := 255) iv2 (by decide)))
    · refine gc_lti (lo := 2) (hi := 256) (gb_iadd (lo := 2) (hi := 256) iv2 (gb_ic (a := 1) (by decide)) (by decide)) (fun x_43 ex_43 ix_43 => ?_)
      exact hk28 _ _ _ hTs_32 hv1 (gb_iw (lo := 1) (hi := 256) ix_43 (by decide)) (gb_mup ex_43 iv2 (by decide) hm28)
  · refine gc_lti (lo := 2) (hi := 256) (gb_iadd (lo := 2) (hi := 256) iv2 (gb_ic (a := 1) (by decide)) (by decide)) (fun x_37 ex_37 ix_37 => ?_)
    exact hk28 _ _ _ hTs_32 hv1 (gb_iw (lo := 1) (hi := 256) ix_37 (by decide)) (gb_mup ex_37 iv2 (by decide) hm28)
set_option maxHeartbeats 4000000 in
theorem ct_Flocks_thriftiest_B_70_i1 {n : Nat} (hn : gb_N ≤ n) {Q : gb_S → Int32 → Prop} {k28 : gb_S → Nat → Int32 → gb_CR Int32} {M28 : Nat} (hk28 : ∀ (σ : gb_S) (v1 : Nat) (v2 : Int32), gb_TC σ → gb_kB v1 = true → gb_iv 1 256 v2 → (256 - v2.toInt).toNat < M28 → gb_tc (k28 σ v1 v2) Q) (hret : ∀ (σ : gb_S) (r : Int32), gb_TC σ → gb_iv (-1) 255 r → Q σ r) : ∀ (σ : gb_S) (v1 : Nat) (v2 : Int32) (v3 : Int32) (t0 : Int32) (t1 : Nat), gb_TC σ → gb_kB v1 = true → gb_kJ t1 = true → gb_iv 1 255 v2 → gb_iv 0 4 v3 → gb_iv 1 255 t0 → (256 - v2.toInt).toNat < M28 + 1 → gb_tc (cs_Flocks_thriftiest_B_70 n k28 σ v1 v2 v3 t0 t1) Q := by
  intro σ v1 v2 v3 t0 t1 hT hv1 ht1 iv2 iv3 it0 hm28
  unfold cs_Flocks_thriftiest_B_70
  refine gc_kk hv1 ?_
  refine gc_kk ht1 ?_
  exact ct_Flocks_thriftiest_B_71_i1 hn hk28 hret _ _ _ _ _ _ _ hT hv1 ht1 iv2 iv3 it0 hm28
set_option maxHeartbeats 4000000 in
theorem ct_Flocks_thriftiest_B_28 {n : Nat} (hn : gb_N ≤ n) {Q : gb_S → Int32 → Prop} (hret : ∀ (σ : gb_S) (r : Int32), gb_TC σ → gb_iv (-1) 255 r → Q σ r) : ∀ (mm : Nat) (σ : gb_S) (v1 : Nat) (v2 : Int32), gb_TC σ → gb_kB v1 = true → gb_iv 1 256 v2 → (256 - v2.toInt).toNat < mm → gb_tc (cs_Flocks_thriftiest_B_28 n mm σ v1 v2) Q := by
  intro mm
  induction mm with
  | zero =>
    intro σ v1 v2 hT hv1 iv2 hm
    exact absurd hm (Nat.not_lt_zero _)
  | succ mm ih =>
    intro σ v1 v2 hT hv1 iv2 hm
    rw [cs_Flocks_thriftiest_B_28]
    refine gc_kk hv1 ?_
    refine gc_if (fun c_30796 => ?_) (fun c_30796 => ?_)
    · exact gc_some (hret _ _ hT (gb_iw (lo := (-1)) (hi := 255) (gb_ic (a := (-1)) (by decide)) (by decide)))
    · have j_30797 : gb_iv 1 255 v2 := (gb_rU (lo := 1) (hi := 255) (gb_dnle c_30796) iv2 (gc_rd (c := 11) (lo := 0) (hi := 256) hT (rfl : gc_cat 130 = 11) (by decide)) (by decide))
      have j_30798 : gb_iv 2 256 (σ.1 130 4) := (gb_rL (lo := 2) (hi := 256) (gb_dnle c_30796) (gc_rd (c := 11) (lo := 0) (hi := 256) hT (rfl : gc_cat 130 = 11) (by decide)) j_30797 (by decide))
      refine gc_cdP (ct_bitCount1 hn hT j_30797) (fun r_17 qr_17 h_30799 => ?_)
      refine gc_lti (lo := 0) (hi := 7) (gb_isub (lo := 0) (hi := 7) h_30799 (gb_ic (a := 1) (by decide)) (by decide)) (fun x_20 ex_20 ix_20 => ?_)
      refine gc_kk (gc_q4 hT) ?_
      refine gc_cdP (ct_Border_paths_B hn hT hv1) (fun r_23 qr_23 h_30800 => ?_)
      refine gc_if (fun c_30801 => ?_) (fun c_30801 => ?_)
      · exact ct_Flocks_thriftiest_B_70 hn ih hret _ _ _ _ _ _ hT hv1 (gc_q4 hT) j_30797 ix_20 j_30797 hm
      · have j_30810 : gb_iv 0 4 x_20 := (gb_rU (lo := 0) (hi := 4) (gb_dnle c_30801) ix_20 h_30800 (by decide))
        have j_30811 : gb_iv 1 5 r_23 := (gb_rL (lo := 1) (hi := 5) (gb_dnle c_30801) h_30800 j_30810 (by decide))
        refine gc_cdP (ct_Flocks_paysAll_B hn hT hv1 (gb_iw (lo := 0) (hi := 255) j_30797 (by decide)) j_30810) (fun r_45 qr_45 h_30812 => ?_)
        refine gc_if (fun c_30813 => ?_) (fun c_30813 => ?_)
        · have j_30814 : gb_iv 0 0 r_45 := (gb_rU (lo := 0) (hi := 0) (gb_deq c_30813) h_30812 (gb_ic (a := 0) (by decide)) (by decide))
          exact ct_Flocks_thriftiest_B_70_i1 hn ih hret _ _ _ _ _ _ hT hv1 (gc_q4 hT) j_30797 j_30810 j_30797 hm
        · have j_30822 : gb_iv 1 1 r_45 := (gb_rN (lo := 1) (hi := 1) (v := 0) c_30813 h_30812 (by decide) (by decide))
          exact ct_Flocks_thriftiest_B_71_i1 hn ih hret _ _ _ _ _ _ _ hT hv1 (gc_q4 hT) j_30797 j_30810 j_30797 hm
set_option maxHeartbeats 4000000 in
theorem ct_Flocks_thriftiest_B {n : Nat} (hn : gb_N ≤ n) {σ : gb_S} {p1 : Nat} (hT : gb_TC σ) (hp1 : gb_kB p1 = true) : gb_tc (cs_Flocks_thriftiest_B n σ p1) (fun s r => gb_TC s ∧ gb_iv (-1) 255 r) := by
  unfold cs_Flocks_thriftiest_B
  refine gc_kk hp1 ?_
  refine gc_cdP (ct_Border_geese_B hn hT hp1) (fun r_3 qr_3 h_29771 => ?_)
  refine gc_ltT (gc_su (c := 11) (lo := 0) (hi := 256) hT (rfl : gc_cat 130 = 11) (gb_iw (lo := 0) (hi := 256) (gb_ishl (lo := 1) (hi := 256) h_29771 (by decide)) (by decide)) (by decide)) (fun s_6 es_6 hTs_6 => ?_)
  refine gc_kk (gc_q4 hTs_6) ?_
  refine gc_ltT (gc_sg hTs_6) (fun s_8 es_8 hTs_8 => ?_)
  refine gc_cdP (ct_Border_paths_B hn hTs_8 hp1) (fun r_10 qr_10 h_29772 => ?_)
  refine gc_if (fun c_29773 => ?_) (fun c_29773 => ?_)
  · have j_29774 : gb_iv 0 0 r_10 := (gb_rU (lo := 0) (hi := 0) (gb_deq c_29773) h_29772 (gb_ic (a := 0) (by decide)) (by decide))
    exact gc_some ⟨hTs_8, (gb_iw (lo := (-1)) (hi := 255) (gb_ic (a := 0) (by decide)) (by decide))⟩
  · have j_29775 : gb_iv 1 5 r_10 := (gb_rN (lo := 1) (hi := 5) (v := 0) c_29773 h_29772 (by decide) (by decide))
    exact ct_Flocks_thriftiest_B_28 hn (fun _ _ hT h => ⟨hT, h⟩) n _ _ _ hTs_8 hp1 (gb_iw (lo := 1) (hi := 256) (gb_ic (a := 1) (by decide)) (by decide)) (gb_fuu hn (gb_iw (lo := 1) (hi := 256) (gb_ic (a := 1) (by decide)) (by decide)) (by decide))
set_option maxHeartbeats 4000000 in
theorem ct_Face_thrift {n : Nat} (hn : gb_N ≤ n) {σ : gb_S} {p1 : Int32} (hT : gb_TC σ) : gb_tc (cs_Face_thrift n σ p1) (fun s r => gb_TC s ∧ gb_iv (-1) 255 r) := by
  unfold cs_Face_thrift
  refine gc_cdP (ct_Face_borderAt hn hT) (fun r_2 qr_2 h_30826 => ?_)
  refine gc_if (fun c_30827 => ?_) (fun c_30827 => ?_)
  · exact gc_some ⟨hT, (gb_iw (lo := (-1)) (hi := 255) (gb_ic (a := (-1)) (by decide)) (by decide))⟩
  · refine gc_kk (Or.resolve_left h_30826 c_30827) ?_
    refine gc_cdT (ct_Flocks_thriftiest_B hn hT (Or.resolve_left h_30826 c_30827)) (fun s_7 r_8 hTs_7 h_30828 => ?_)
    exact gc_some ⟨hTs_7, h_30828⟩
set_option maxHeartbeats 4000000 in
theorem ct_Sharing_solve_B_n_74 {n : Nat} (hn : gb_N ≤ n) {Q : gb_S → Unit → Prop} {k48 : gb_S → Int32 → Int32 → gb_CR Unit} {M48 : Nat} (hk48 : ∀ (σ : gb_S) (v4 : Int32) (v5 : Int32), gb_TC σ → gb_iv (-2147483648) 2147483647 v4 → gb_iv 0 2147483647 v5 → (2147483647 - v5.toInt).toNat < M48 → gb_tc (k48 σ v4 v5) Q) (hret : ∀ (σ : gb_S) (r : Unit), gb_TC σ → True → Q σ r) : ∀ (σ : gb_S) (v4 : Int32) (v5 : Int32) (t0 : Int32), gb_TC σ → gb_iv 1 2147483647 v4 → gb_iv 0 2147483646 v5 → gb_iv (-2147483648) 2147483647 t0 → (2147483647 - v5.toInt).toNat < M48 + 1 → gb_tc (cs_Sharing_solve_B_n_74 n k48 σ v4 v5 t0) Q := by
  intro σ v4 v5 t0 hT iv4 iv5 it0 hm48
  unfold cs_Sharing_solve_B_n_74
  refine gc_if (fun c_56886 => ?_) (fun c_56886 => ?_)
  · have j_56887 : gb_iv 0 0 v5 := (gb_rU (lo := 0) (hi := 0) (gb_deq c_56886) iv5 (gb_ic (a := 0) (by decide)) (by decide))
    refine gc_ltT (gc_su (c := 8) (lo := (-2147483648)) (hi := 2147483647) hT (rfl : gc_cat 120 = 8) (gb_it _) (by decide)) (fun s_20 es_20 hTs_20 => ?_)
    refine gc_cdT (ct_Sharing_keepRow hn hTs_20) (fun s_21 u_56888 hTs_21 _ => ?_)
    refine gc_cdT (ct_Sharing_advance hn hTs_21) (fun s_25 u_56889 hTs_25 _ => ?_)
    refine gc_lti (lo := 1) (hi := 1) (gb_iadd (lo := 1) (hi := 1) j_56887 (gb_ic (a := 1) (by decide)) (by decide)) (fun x_29 ex_29 ix_29 => ?_)
    exact hk48 _ _ _ hTs_25 (gb_iw (lo := (-2147483648)) (hi := 2147483647) iv4 (by decide)) (gb_iw (lo := 0) (hi := 2147483647) ix_29 (by decide)) (gb_mup ex_29 j_56887 (by decide) hm48)
  · have j_56890 : gb_iv 1 2147483646 v5 := (gb_rN (lo := 1) (hi := 2147483646) (v := 0) c_56886 iv5 (by decide) (by decide))
    refine gc_if (fun c_56891 => ?_) (fun c_56891 => ?_)
    · refine gc_cdT (ct_Sharing_advance hn hT) (fun s_31 u_56892 hTs_31 _ => ?_)
      refine gc_lti (lo := 2) (hi := 2147483647) (gb_iadd (lo := 2) (hi := 2147483647) j_56890 (gb_ic (a := 1) (by decide)) (by decide)) (fun x_35 ex_35 ix_35 => ?_)
      exact hk48 _ _ _ hTs_31 (gb_iw (lo := (-2147483648)) (hi := 2147483647) iv4 (by decide)) (gb_iw (lo := 0) (hi := 2147483647) ix_35 (by decide)) (gb_mup ex_35 j_56890 (by decide) hm48)
    · have j_56893 : gb_iv (-2147483648) 2147483646 (σ.1 120 10) := (gb_rU (lo := (-2147483648)) (hi := 2147483646) (gb_dnle c_56891) (gb_it _) (gb_it _) (by decide))
      have j_56894 : gb_iv (-2147483647) 2147483647 t0 := (gb_rL (lo := (-2147483647)) (hi := 2147483647) (gb_dnle c_56891) (gb_it _) j_56893 (by decide))
      refine gc_ltT (gc_su (c := 8) (lo := (-2147483648)) (hi := 2147483647) hT (rfl : gc_cat 120 = 8) (gb_iw (lo := (-2147483648)) (hi := 2147483647) j_56894 (by decide)) (by decide)) (fun s_36 es_36 hTs_36 => ?_)
      refine gc_cdT (ct_Sharing_keepRow hn hTs_36) (fun s_37 u_56895 hTs_37 _ => ?_)
      refine gc_cdT (ct_Sharing_advance hn hTs_37) (fun s_41 u_56896 hTs_41 _ => ?_)
      refine gc_lti (lo := 2) (hi := 2147483647) (gb_iadd (lo := 2) (hi := 2147483647) j_56890 (gb_ic (a := 1) (by decide)) (by decide)) (fun x_45 ex_45 ix_45 => ?_)
      exact hk48 _ _ _ hTs_41 (gb_iw (lo := (-2147483648)) (hi := 2147483647) iv4 (by decide)) (gb_iw (lo := 0) (hi := 2147483647) ix_45 (by decide)) (gb_mup ex_45 j_56890 (by decide) hm48)
set_option maxHeartbeats 4000000 in
theorem ct_Sharing_solve_B_n_48 {n : Nat} (hn : gb_N ≤ n) {Q : gb_S → Unit → Prop} (hret : ∀ (σ : gb_S) (r : Unit), gb_TC σ → True → Q σ r) : ∀ (mm : Nat) (σ : gb_S) (v4 : Int32) (v5 : Int32), gb_TC σ → gb_iv (-2147483648) 2147483647 v4 → gb_iv 0 2147483647 v5 → (2147483647 - v5.toInt).toNat < mm → gb_tc (cs_Sharing_solve_B_n_48 n mm σ v4 v5) Q := by
  intro mm
  induction mm with
  | zero =>
    intro σ v4 v5 hT iv4 iv5 hm
    exact absurd hm (Nat.not_lt_zero _)
  | succ mm ih =>
    intro σ v4 v5 hT iv4 iv5 hm
    rw [cs_Sharing_solve_B_n_48]
    refine gc_if (fun c_56881 => ?_) (fun c_56881 => ?_)
    · exact gc_some (hret _ _ hT trivial)
    · have j_56882 : gb_iv 0 2147483646 v5 := (gb_rU (lo := 0) (hi := 2147483646) (gb_dnle c_56881) iv5 (gb_it _) (by decide))
      have j_56883 : gb_iv 1 2147483647 v4 := (gb_rL (lo := 1) (hi := 2147483647) (gb_dnle c_56881) (gb_it _) j_56882 (by decide))
      refine gc_if (fun c_56884 => ?_) (fun c_56884 => ?_)
      · refine gc_cdP (ct_Sharing_spread hn hT) (fun r_16 qr_16 h_56885 => ?_)
        exact ct_Sharing_solve_B_n_74 hn ih hret _ _ _ _ hT j_56883 j_56882 (gb_it _) hm
      · refine gc_kk (gc_q3 hT c_56884) ?_
        refine gc_cdP (ct_Sharing_together hn hT) (fun r_48 qr_48 h_56897 => ?_)
        exact ct_Sharing_solve_B_n_74 hn ih hret _ _ _ _ hT j_56883 j_56882 (gb_it _) hm
set_option maxHeartbeats 4000000 in
theorem ct_Sharing_solve_B_n_18 {n : Nat} (hn : gb_N ≤ n) {Q : gb_S → Unit → Prop} (hret : ∀ (σ : gb_S) (r : Unit), gb_TC σ → True → Q σ r) : ∀ (mm : Nat) (σ : gb_S) (v4 : Int32) (v5 : Int32), gb_TC σ → gb_iv (-2147483648) 2147483647 v4 → gb_iv 0 8 v5 → (8 - v5.toInt).toNat < mm → gb_tc (cs_Sharing_solve_B_n_18 n mm σ v4 v5) Q := by
  intro mm
  induction mm with
  | zero =>
    intro σ v4 v5 hT iv4 iv5 hm
    exact absurd hm (Nat.not_lt_zero _)
  | succ mm ih =>
    intro σ v4 v5 hT iv4 iv5 hm
    rw [cs_Sharing_solve_B_n_18]
    refine gc_kk (gc_q2 hT) ?_
    refine gc_cdP (ct_Border_geese_B hn hT (gc_q2 hT)) (fun r_9 qr_9 h_55915 => ?_)
    refine gc_if (fun c_55916 => ?_) (fun c_55916 => ?_)
    · exact ct_Sharing_solve_B_n_48 hn hret n _ _ _ hT (gb_it _) (gb_iw (lo := 0) (hi := 2147483647) (gb_ic (a := 0) (by decide)) (by decide)) (gb_fuu hn (gb_iw (lo := 0) (hi := 2147483647) (gb_ic (a := 0) (by decide)) (by decide)) (by decide))
    · have j_56898 : gb_iv 0 7 v5 := (gb_rU (lo := 0) (hi := 7) (gb_dnle c_55916) iv5 h_55915 (by decide))
      have j_56899 : gb_iv 1 8 r_9 := (gb_rL (lo := 1) (hi := 8) (gb_dnle c_55916) h_55915 j_56898 (by decide))
      refine gc_lti (lo := (-2147483648)) (hi := 2147483647) (gb_it _) (fun x_51 ex_51 ix_51 => ?_)
      refine gc_lti (lo := 1) (hi := 8) (gb_iadd (lo := 1) (hi := 8) j_56898 (gb_ic (a := 1) (by decide)) (by decide)) (fun x_52 ex_52 ix_52 => ?_)
      exact ih _ _ _ hT (gb_it _) (gb_iw (lo := 0) (hi := 8) ix_52 (by decide)) (gb_mup ex_52 j_56898 (by decide) hm)
set_option maxHeartbeats 4000000 in
theorem ct_Sharing_solve_B_n {n : Nat} (hn : gb_N ≤ n) {σ : gb_S} {p1 : Nat} {p3 : Int32} (hT : gb_TC σ) (hp1 : gb_kB p1 = true) : gb_tc (cs_Sharing_solve_B_n n σ p1 p3) (fun s _ => gb_TC s ∧ True) := by
  unfold cs_Sharing_solve_B_n
  refine gc_kk hp1 ?_
  refine gc_cdT (ct_Sharing_begin_B_n hn hT hp1) (fun s_2 u_43372 hTs_2 _ => ?_)
  refine gc_ltT (gc_su (c := 8) (lo := (-2147483648)) (hi := 2147483647) hTs_2 (rfl : gc_cat 120 = 8) (gb_iw (lo := (-2147483648)) (hi := 2147483647) (gb_ic (a := 0) (by decide)) (by decide)) (by decide)) (fun s_6 es_6 hTs_6 => ?_)
  exact ct_Sharing_solve_B_n_18 hn (fun _ _ hT h => ⟨hT, h⟩) n _ _ _ hTs_6 (gb_iw (lo := (-2147483648)) (hi := 2147483647) (gb_ic (a := 1) (by decide)) (by decide)) (gb_iw (lo := 0) (hi := 8) (gb_ic (a := 0) (by decide)) (by decide)) (gb_fuu hn (gb_iw (lo := 0) (hi := 8) (gb_ic (a := 0) (by decide)) (by decide)) (by decide))
set_option maxHeartbeats 4000000 in
theorem ct_Sharing_solve_B_L_74 {n : Nat} (hn : gb_N ≤ n) {Q : gb_S → Unit → Prop} {k48 : gb_S → Int32 → Int32 → gb_CR Unit} {M48 : Nat} (hk48 : ∀ (σ : gb_S) (v4 : Int32) (v5 : Int32), gb_TC σ → gb_iv (-2147483648) 2147483647 v4 → gb_iv 0 2147483647 v5 → (2147483647 - v5.toInt).toNat < M48 → gb_tc (k48 σ v4 v5) Q) (hret : ∀ (σ : gb_S) (r : Unit), gb_TC σ → True → Q σ r) : ∀ (σ : gb_S) (v4 : Int32) (v5 : Int32) (t0 : Int32), gb_TC σ → gb_iv 1 2147483647 v4 → gb_iv 0 2147483646 v5 → gb_iv (-2147483648) 2147483647 t0 → (2147483647 - v5.toInt).toNat < M48 + 1 → gb_tc (cs_Sharing_solve_B_L_74 n k48 σ v4 v5 t0) Q := by
  intro σ v4 v5 t0 hT iv4 iv5 it0 hm48
  unfold cs_Sharing_solve_B_L_74
  refine gc_if (fun c_82957 => ?_) (fun c_82957 => ?_)
  · have j_82958 : gb_iv 0 0 v5 := (gb_rU (lo := 0) (hi := 0) (gb_deq c_82957) iv5 (gb_ic (a := 0) (by decide)) (by decide))
    refine gc_ltT (gc_su (c := 8) (lo := (-2147483648)) (hi := 2147483647) hT (rfl : gc_cat 120 = 8) (gb_it _) (by decide)) (fun s_21 es_21 hTs_21 => ?_)
    refine gc_cdT (ct_Sharing_keepRow hn hTs_21) (fun s_22 u_82959 hTs_22 _ => ?_)
    refine gc_cdT (ct_Sharing_advance hn hTs_22) (fun s_26 u_82960 hTs_26 _ => ?_)
    refine gc_lti (lo := 1) (hi := 1) (gb_iadd (lo := 1) (hi := 1) j_82958 (gb_ic (a := 1) (by decide)) (by decide)) (fun x_30 ex_30 ix_30 => ?_)
    exact hk48 _ _ _ hTs_26 (gb_iw (lo := (-2147483648)) (hi := 2147483647) iv4 (by decide)) (gb_iw (lo := 0) (hi := 2147483647) ix_30 (by decide)) (gb_mup ex_30 j_82958 (by decide) hm48)
  · have j_82961 : gb_iv 1 2147483646 v5 := (gb_rN (lo := 1) (hi := 2147483646) (v := 0) c_82957 iv5 (by decide) (by decide))
    refine gc_if (fun c_82962 => ?_) (fun c_82962 => ?_)
    · refine gc_cdT (ct_Sharing_advance hn hT) (fun s_32 u_82963 hTs_32 _ => ?_)
      refine gc_lti (lo := 2) (hi := 2147483647) (gb_iadd (lo := 2) (hi := 2147483647) j_82961 (gb_ic (a := 1) (by decide)) (by decide)) (fun x_36 ex_36 ix_36 => ?_)
      exact hk48 _ _ _ hTs_32 (gb_iw (lo := (-2147483648)) (hi := 2147483647) iv4 (by decide)) (gb_iw (lo := 0) (hi := 2147483647) ix_36 (by decide)) (gb_mup ex_36 j_82961 (by decide) hm48)
    · have j_82964 : gb_iv (-2147483648) 2147483646 (σ.1 120 10) := (gb_rU (lo := (-2147483648)) (hi := 2147483646) (gb_dnle c_82962) (gb_it _) (gb_it _) (by decide))
      have j_82965 : gb_iv (-2147483647) 2147483647 t0 := (gb_rL (lo := (-2147483647)) (hi := 2147483647) (gb_dnle c_82962) (gb_it _) j_82964 (by decide))
      refine gc_ltT (gc_su (c := 8) (lo := (-2147483648)) (hi := 2147483647) hT (rfl : gc_cat 120 = 8) (gb_iw (lo := (-2147483648)) (hi := 2147483647) j_82965 (by decide)) (by decide)) (fun s_37 es_37 hTs_37 => ?_)
      refine gc_cdT (ct_Sharing_keepRow hn hTs_37) (fun s_38 u_82966 hTs_38 _ => ?_)
      refine gc_cdT (ct_Sharing_advance hn hTs_38) (fun s_42 u_82967 hTs_42 _ => ?_)
      refine gc_lti (lo := 2) (hi := 2147483647) (gb_iadd (lo := 2) (hi := 2147483647) j_82961 (gb_ic (a := 1) (by decide)) (by decide)) (fun x_46 ex_46 ix_46 => ?_)
      exact hk48 _ _ _ hTs_42 (gb_iw (lo := (-2147483648)) (hi := 2147483647) iv4 (by decide)) (gb_iw (lo := 0) (hi := 2147483647) ix_46 (by decide)) (gb_mup ex_46 j_82961 (by decide) hm48)
set_option maxHeartbeats 4000000 in
theorem ct_Sharing_solve_B_L_48 {n : Nat} (hn : gb_N ≤ n) {Q : gb_S → Unit → Prop} (hret : ∀ (σ : gb_S) (r : Unit), gb_TC σ → True → Q σ r) : ∀ (mm : Nat) (σ : gb_S) (v4 : Int32) (v5 : Int32), gb_TC σ → gb_iv (-2147483648) 2147483647 v4 → gb_iv 0 2147483647 v5 → (2147483647 - v5.toInt).toNat < mm → gb_tc (cs_Sharing_solve_B_L_48 n mm σ v4 v5) Q := by
  intro mm
  induction mm with
  | zero =>
    intro σ v4 v5 hT iv4 iv5 hm
    exact absurd hm (Nat.not_lt_zero _)
  | succ mm ih =>
    intro σ v4 v5 hT iv4 iv5 hm
    rw [cs_Sharing_solve_B_L_48]
    refine gc_if (fun c_82952 => ?_) (fun c_82952 => ?_)
    · exact gc_some (hret _ _ hT trivial)
    · have j_82953 : gb_iv 0 2147483646 v5 := (gb_rU (lo := 0) (hi := 2147483646) (gb_dnle c_82952) iv5 (gb_it _) (by decide))
      have j_82954 : gb_iv 1 2147483647 v4 := (gb_rL (lo := 1) (hi := 2147483647) (gb_dnle c_82952) (gb_it _) j_82953 (by decide))
      refine gc_if (fun c_82955 => ?_) (fun c_82955 => ?_)
      · refine gc_cdP (ct_Sharing_spread hn hT) (fun r_17 qr_17 h_82956 => ?_)
        exact ct_Sharing_solve_B_L_74 hn ih hret _ _ _ _ hT j_82954 j_82953 (gb_it _) hm
      · refine gc_kk (gc_q3 hT c_82955) ?_
        refine gc_cdP (ct_Sharing_together hn hT) (fun r_49 qr_49 h_82968 => ?_)
        exact ct_Sharing_solve_B_L_74 hn ih hret _ _ _ _ hT j_82954 j_82953 (gb_it _) hm
set_option maxHeartbeats 4000000 in
theorem ct_Sharing_solve_B_L_18 {n : Nat} (hn : gb_N ≤ n) {Q : gb_S → Unit → Prop} (hret : ∀ (σ : gb_S) (r : Unit), gb_TC σ → True → Q σ r) : ∀ (mm : Nat) (σ : gb_S) (v4 : Int32) (v5 : Int32), gb_TC σ → gb_iv (-2147483648) 2147483647 v4 → gb_iv 0 8 v5 → (8 - v5.toInt).toNat < mm → gb_tc (cs_Sharing_solve_B_L_18 n mm σ v4 v5) Q := by
  intro mm
  induction mm with
  | zero =>
    intro σ v4 v5 hT iv4 iv5 hm
    exact absurd hm (Nat.not_lt_zero _)
  | succ mm ih =>
    intro σ v4 v5 hT iv4 iv5 hm
    rw [cs_Sharing_solve_B_L_18]
    refine gc_kk (gc_q2 hT) ?_
    refine gc_cdP (ct_Border_geese_B hn hT (gc_q2 hT)) (fun r_10 qr_10 h_81986 => ?_)
    refine gc_if (fun c_81987 => ?_) (fun c_81987 => ?_)
    · exact ct_Sharing_solve_B_L_48 hn hret n _ _ _ hT (gb_it _) (gb_iw (lo := 0) (hi := 2147483647) (gb_ic (a := 0) (by decide)) (by decide)) (gb_fuu hn (gb_iw (lo := 0) (hi := 2147483647) (gb_ic (a := 0) (by decide)) (by decide)) (by decide))
    · have j_82969 : gb_iv 0 7 v5 := (gb_rU (lo := 0) (hi := 7) (gb_dnle c_81987) iv5 h_81986 (by decide))
      have j_82970 : gb_iv 1 8 r_10 := (gb_rL (lo := 1) (hi := 8) (gb_dnle c_81987) h_81986 j_82969 (by decide))
      refine gc_lti (lo := (-2147483648)) (hi := 2147483647) (gb_it _) (fun x_52 ex_52 ix_52 => ?_)
      refine gc_lti (lo := 1) (hi := 8) (gb_iadd (lo := 1) (hi := 8) j_82969 (gb_ic (a := 1) (by decide)) (by decide)) (fun x_53 ex_53 ix_53 => ?_)
      exact ih _ _ _ hT (gb_it _) (gb_iw (lo := 0) (hi := 8) ix_53 (by decide)) (gb_mup ex_53 j_82969 (by decide) hm)
set_option maxHeartbeats 4000000 in
theorem ct_Sharing_solve_B_L {n : Nat} (hn : gb_N ≤ n) {σ : gb_S} {p1 : Nat} {p2 : Nat} {p3 : Int32} (hT : gb_TC σ) (hp1 : gb_kB p1 = true) (hp2 : gb_kL p2 = true) : gb_tc (cs_Sharing_solve_B_L n σ p1 p2 p3) (fun s _ => gb_TC s ∧ True) := by
  unfold cs_Sharing_solve_B_L
  refine gc_kk hp1 ?_
  refine gc_kk hp2 ?_
  refine gc_cdT (ct_Sharing_begin_B_L hn hT hp1 hp2) (fun s_3 u_69443 hTs_3 _ => ?_)
  refine gc_ltT (gc_su (c := 8) (lo := (-2147483648)) (hi := 2147483647) hTs_3 (rfl : gc_cat 120 = 8) (gb_iw (lo := (-2147483648)) (hi := 2147483647) (gb_ic (a := 0) (by decide)) (by decide)) (by decide)) (fun s_7 es_7 hTs_7 => ?_)
  exact ct_Sharing_solve_B_L_18 hn (fun _ _ hT h => ⟨hT, h⟩) n _ _ _ hTs_7 (gb_iw (lo := (-2147483648)) (hi := 2147483647) (gb_ic (a := 1) (by decide)) (by decide)) (gb_iw (lo := 0) (hi := 8) (gb_ic (a := 0) (by decide)) (by decide)) (gb_fuu hn (gb_iw (lo := 0) (hi := 8) (gb_ic (a := 0) (by decide)) (by decide)) (by decide))
set_option maxHeartbeats 4000000 in
theorem ct_Face_even_82 {n : Nat} (hn : gb_N ≤ n) {Q : gb_S → Int32 → Prop} (hret : ∀ (σ : gb_S) (r : Int32), gb_TC σ → gb_iv (-2147483648) 2147483647 r → Q σ r) : ∀ (σ : gb_S) (v2 : Int32) (v3 : Nat), gb_TC σ → gb_kB v3 = true → gb_iv 0 0 v2 → gb_tc (cs_Face_even_82 n σ v2 v3) Q := by
  intro σ v2 v3 hT hv3 iv2
  unfold cs_Face_even_82
  refine gc_kk hv3 ?_
  refine gc_cdT (ct_Sharing_solve_B_n hn hT hv3) (fun s_16 u_83015 hTs_16 _ => ?_)
  refine gc_if (fun c_83016 => ?_) (fun c_83016 => ?_)
  · refine gc_cdP (ct_Sharing_difference hn hTs_16) (fun r_24 qr_24 h_83017 => ?_)
    exact gc_some (hret _ _ hTs_16 (gb_it _))
  · exact (gb_em (gb_rN (lo := 1) (hi := (-1)) (v := 0) c_83016 iv2 (by decide) (by decide)) (by decide)).elim
set_option maxHeartbeats 4000000 in
theorem ct_Face_even_82_i1 {n : Nat} (hn : gb_N ≤ n) {Q : gb_S → Int32 → Prop} (hret : ∀ (σ : gb_S) (r : Int32), gb_TC σ → gb_iv (-2147483648) 2147483647 r → Q σ r) : ∀ (σ : gb_S) (v2 : Int32) (v3 : Nat), gb_TC σ → gb_kB v3 = true → gb_iv 10 17 v2 → gb_tc (cs_Face_even_82 n σ v2 v3) Q := by
  intro σ v2 v3 hT hv3 iv2
  unfold cs_Face_even_82
  refine gc_kk hv3 ?_
  refine gc_cdT (ct_Sharing_solve_B_n hn hT hv3) (fun s_16 u_83025 hTs_16 _ => ?_)
  refine gc_if (fun c_83026 => ?_) (fun c_83026 => ?_)
  · exact (gb_em (gb_rU (lo := 10) (hi := 0) (gb_deq c_83026) iv2 (gb_ic (a := 0) (by decide)) (by decide)) (by decide)).elim
  · refine gc_ck (gb_isub (lo := 0) (hi := 7) iv2 (gb_ic (a := 10) (by decide)) (by decide)) (by decide) ?_
    refine gc_lti (lo := (-2147483648)) (hi := 2147483647) (gb_it _) (fun x_22 ex_22 ix_22 => ?_)
    exact gc_some (hret _ _ hTs_16 (gb_it _))
set_option maxHeartbeats 4000000 in
theorem ct_Face_even_59 {n : Nat} (hn : gb_N ≤ n) {Q : gb_S → Int32 → Prop} (hret : ∀ (σ : gb_S) (r : Int32), gb_TC σ → gb_iv (-2147483648) 2147483647 r → Q σ r) : ∀ (σ : gb_S) (v2 : Int32) (v3 : Nat), gb_TC σ → gb_kB v3 = true → gb_iv (-2147483648) 19 v2 → gb_tc (cs_Face_even_59 n σ v2 v3) Q := by
  intro σ v2 v3 hT hv3 iv2
  unfold cs_Face_even_59
  refine gc_kk hv3 ?_
  refine gc_if (fun c_83012 => ?_) (fun c_83012 => ?_)
  · have j_83013 : gb_iv (-2147483648) 0 v2 := (gb_rU (lo := (-2147483648)) (hi := 0) (gb_deq c_83012) iv2 (gb_ic (a := 0) (by decide)) (by decide))
    have j_83014 : gb_iv 0 0 v2 := (gb_rL (lo := 0) (hi := 0) (gb_deq2 c_83012) j_83013 (gb_ic (a := 0) (by decide)) (by decide))
    exact ct_Face_even_82 hn hret _ _ _ hT hv3 j_83014
  · refine gc_if (fun c_83018 => ?_) (fun c_83018 => ?_)
    · have j_83019 : gb_iv (-2147483648) 9 v2 := (gb_rU (lo := (-2147483648)) (hi := 9) (gb_dlt c_83018) iv2 (gb_ic (a := 10) (by decide)) (by decide))
      exact gc_some (hret _ _ hT (gb_iw (lo := (-2147483648)) (hi := 2147483647) (gb_ic (a := (-1)) (by decide)) (by decide)))
    · have j_83020 : gb_iv 10 19 v2 := (gb_rL (lo := 10) (hi := 19) (gb_dnlt c_83018) iv2 (gb_ic (a := 10) (by decide)) (by decide))
      refine gc_cdP (ct_Border_geese_B hn hT hv3) (fun r_29 qr_29 h_83021 => ?_)
      refine gc_if (fun c_83022 => ?_) (fun c_83022 => ?_)
      · have j_83023 : gb_iv 10 17 v2 := (gb_rU (lo := 10) (hi := 17) (gb_dlt c_83022) j_83020 (gb_iadd (lo := 10) (hi := 18) (gb_ic (a := 10) (by decide)) h_83021 (by decide)) (by decide))
        have j_83024 : gb_iv 11 18 (10 + r_29) := (gb_rL (lo := 11) (hi := 18) (gb_dlt c_83022) (gb_iadd (lo := 10) (hi := 18) (gb_ic (a := 10) (by decide)) h_83021 (by decide)) j_83023 (by decide))
        exact ct_Face_even_82_i1 hn hret _ _ _ hT hv3 j_83023
      · exact gc_some (hret _ _ hT (gb_iw (lo := (-2147483648)) (hi := 2147483647) (gb_ic (a := (-1)) (by decide)) (by decide)))
set_option maxHeartbeats 4000000 in
theorem ct_Face_even_59_i1 {n : Nat} (hn : gb_N ≤ n) {Q : gb_S → Int32 → Prop} (hret : ∀ (σ : gb_S) (r : Int32), gb_TC σ → gb_iv (-2147483648) 2147483647 r → Q σ r) : ∀ (σ : gb_S) (v2 : Int32) (v3 : Nat), gb_TC σ → gb_kB v3 = true → gb_iv 20 2147483647 v2 → gb_tc (cs_Face_even_59 n σ v2 v3) Q := by
  intro σ v2 v3 hT hv3 iv2
  unfold cs_Face_even_59
  refine gc_kk hv3 ?_
  refine gc_if (fun c_83030 => ?_) (fun c_83030 => ?_)
  · exact (gb_em (gb_rU (lo := 20) (hi := 0) (gb_deq c_83030) iv2 (gb_ic (a := 0) (by decide)) (by decide)) (by decide)).elim
  · refine gc_if (fun c_83031 => ?_) (fun c_83031 => ?_)
    · exact (gb_em (gb_rU (lo := 20) (hi := 9) (gb_dlt c_83031) iv2 (gb_ic (a := 10) (by decide)) (by decide)) (by decide)).elim
    · refine gc_cdP (ct_Border_geese_B hn hT hv3) (fun r_29 qr_29 h_83032 => ?_)
      refine gc_if (fun c_83033 => ?_) (fun c_83033 => ?_)
      · exact (gb_em (gb_rU (lo := 20) (hi := 17) (gb_dlt c_83033) iv2 (gb_iadd (lo := 10) (hi := 18) (gb_ic (a := 10) (by decide)) h_83032 (by decide)) (by decide)) (by decide)).elim
      · exact gc_some (hret _ _ hT (gb_iw (lo := (-2147483648)) (hi := 2147483647) (gb_ic (a := (-1)) (by decide)) (by decide)))
set_option maxHeartbeats 4000000 in
theorem ct_Face_even {n : Nat} (hn : gb_N ≤ n) {σ : gb_S} {p1 : Int32} {p2 : Int32} (hT : gb_TC σ) : gb_tc (cs_Face_even n σ p1 p2) (fun s r => gb_TC s ∧ gb_iv (-2147483648) 2147483647 r) := by
  unfold cs_Face_even
  refine gc_cdP (ct_Face_borderAt hn hT) (fun r_2 qr_2 h_83004 => ?_)
  refine gc_if (fun c_83005 => ?_) (fun c_83005 => ?_)
  · exact gc_some ⟨hT, (gb_iw (lo := (-2147483648)) (hi := 2147483647) (gb_ic (a := (-1)) (by decide)) (by decide))⟩
  · refine gc_kk (Or.resolve_left h_83004 c_83005) ?_
    refine gc_cdP (ct_Sharing_canShare_B hn hT (Or.resolve_left h_83004 c_83005)) (fun r_8 qr_8 h_83006 => ?_)
    refine gc_if (fun c_83007 => ?_) (fun c_83007 => ?_)
    · have j_83008 : gb_iv 0 0 r_8 := (gb_rU (lo := 0) (hi := 0) (gb_deq c_83007) h_83006 (gb_ic (a := 0) (by decide)) (by decide))
      exact gc_some ⟨hT, (gb_iw (lo := (-2147483648)) (hi := 2147483647) (gb_ic (a := (-1)) (by decide)) (by decide))⟩
    · have j_83009 : gb_iv 1 1 r_8 := (gb_rN (lo := 1) (hi := 1) (v := 0) c_83007 h_83006 (by decide) (by decide))
      refine gc_if (fun c_83010 => ?_) (fun c_83010 => ?_)
      · have j_83011 : gb_iv (-2147483648) 19 p2 := (gb_rU (lo := (-2147483648)) (hi := 19) (gb_dlt c_83010) (gb_it _) (gb_ic (a := 20) (by decide)) (by decide))
        exact ct_Face_even_59 hn (fun _ _ hT h => ⟨hT, h⟩) _ _ _ hT (Or.resolve_left h_83004 c_83005) j_83011
      · have j_83027 : gb_iv 20 2147483647 p2 := (gb_rL (lo := 20) (hi := 2147483647) (gb_dnlt c_83010) (gb_it _) (gb_ic (a := 20) (by decide)) (by decide))
        refine gc_cdP (ct_Border_paths_B hn hT (Or.resolve_left h_83004 c_83005)) (fun r_34 qr_34 h_83028 => ?_)
        refine gc_if (fun c_83029 => ?_) (fun c_83029 => ?_)
        · exact ct_Face_even_59_i1 hn (fun _ _ hT h => ⟨hT, h⟩) _ _ _ hT (Or.resolve_left h_83004 c_83005) j_83027
        · have j_83034 : gb_iv 20 24 p2 := (gb_rU (lo := 20) (hi := 24) (gb_dnle c_83029) j_83027 (gb_iadd (lo := 20) (hi := 25) (gb_ic (a := 20) (by decide)) h_83028 (by decide)) (by decide))
          have j_83035 : gb_iv 21 25 (20 + r_34) := (gb_rL (lo := 21) (hi := 25) (gb_dnle c_83029) (gb_iadd (lo := 20) (hi := 25) (gb_ic (a := 20) (by decide)) h_83028 (by decide)) j_83034 (by decide))
          refine gc_cdT (ct_Sharing_solve_B_n hn hT (Or.resolve_left h_83004 c_83005)) (fun s_38 u_83036 hTs_38 _ => ?_)
          refine gc_ck (gb_isub (lo := 0) (hi := 4) j_83034 (gb_ic (a := 20) (by decide)) (by decide)) (by decide) ?_
          refine gc_lti (lo := (-2147483648)) (hi := 2147483647) (gb_it _) (fun x_43 ex_43 ix_43 => ?_)
          exact gc_some ⟨hTs_38, (gb_it _)⟩
set_option maxHeartbeats 4000000 in
theorem ct_Face_richest_58 {n : Nat} (hn : gb_N ≤ n) {Q : gb_S → Int32 → Prop} (hret : ∀ (σ : gb_S) (r : Int32), gb_TC σ → gb_iv (-2147483648) 2147483647 r → Q σ r) : ∀ (σ : gb_S) (v3 : Int32) (v4 : Nat) (v5 : Nat), gb_TC σ → gb_kB v4 = true → gb_kL v5 = true → gb_iv 0 0 v3 → gb_tc (cs_Face_richest_58 n σ v3 v4 v5) Q := by
  intro σ v3 v4 v5 hT hv4 hv5 iv3
  unfold cs_Face_richest_58
  refine gc_kk hv4 ?_
  refine gc_kk hv5 ?_
  refine gc_cdT (ct_Sharing_solve_B_L hn hT hv4 hv5) (fun s_27 u_83074 hTs_27 _ => ?_)
  refine gc_if (fun c_83075 => ?_) (fun c_83075 => ?_)
  · exact gc_some (hret _ _ hTs_27 (gb_it _))
  · exact (gb_em (gb_rN (lo := 1) (hi := (-1)) (v := 0) c_83075 iv3 (by decide) (by decide)) (by decide)).elim
set_option maxHeartbeats 4000000 in
theorem ct_Face_richest_58_i1 {n : Nat} (hn : gb_N ≤ n) {Q : gb_S → Int32 → Prop} (hret : ∀ (σ : gb_S) (r : Int32), gb_TC σ → gb_iv (-2147483648) 2147483647 r → Q σ r) : ∀ (σ : gb_S) (v3 : Int32) (v4 : Nat) (v5 : Nat), gb_TC σ → gb_kB v4 = true → gb_kL v5 = true → gb_iv 10 17 v3 → gb_tc (cs_Face_richest_58 n σ v3 v4 v5) Q := by
  intro σ v3 v4 v5 hT hv4 hv5 iv3
  unfold cs_Face_richest_58
  refine gc_kk hv4 ?_
  refine gc_kk hv5 ?_
  refine gc_cdT (ct_Sharing_solve_B_L hn hT hv4 hv5) (fun s_27 u_83083 hTs_27 _ => ?_)
  refine gc_if (fun c_83084 => ?_) (fun c_83084 => ?_)
  · exact (gb_em (gb_rU (lo := 10) (hi := 0) (gb_deq c_83084) iv3 (gb_ic (a := 0) (by decide)) (by decide)) (by decide)).elim
  · refine gc_ck (gb_isub (lo := 0) (hi := 7) iv3 (gb_ic (a := 10) (by decide)) (by decide)) (by decide) ?_
    refine gc_lti (lo := (-2147483648)) (hi := 2147483647) (gb_it _) (fun x_33 ex_33 ix_33 => ?_)
    exact gc_some (hret _ _ hTs_27 (gb_it _))
set_option maxHeartbeats 4000000 in
theorem ct_Face_richest {n : Nat} (hn : gb_N ≤ n) {σ : gb_S} {p1 : Int32} {p2 : Int32} {p3 : Int32} (hT : gb_TC σ) : gb_tc (cs_Face_richest n σ p1 p2 p3) (fun s r => gb_TC s ∧ gb_iv (-2147483648) 2147483647 r) := by
  unfold cs_Face_richest
  refine gc_cdP (ct_Face_borderAt hn hT) (fun r_2 qr_2 h_83061 => ?_)
  refine gc_if (fun c_83062 => ?_) (fun c_83062 => ?_)
  · refine gc_cdP (ct_Face_lawAt hn hT) (fun r_7 qr_7 h_83063 => ?_)
    refine gc_if (fun c_83064 => ?_) (fun c_83064 => ?_)
    · exact gc_some ⟨hT, (gb_iw (lo := (-2147483648)) (hi := 2147483647) (gb_ic (a := (-1)) (by decide)) (by decide))⟩
    · refine gc_kk (Or.resolve_left h_83063 c_83064) ?_
      exact gc_some ⟨hT, (gb_iw (lo := (-2147483648)) (hi := 2147483647) (gb_ic (a := (-1)) (by decide)) (by decide))⟩
  · refine gc_kk (Or.resolve_left h_83061 c_83062) ?_
    refine gc_cdP (ct_Face_lawAt hn hT) (fun r_14 qr_14 h_83065 => ?_)
    refine gc_if (fun c_83066 => ?_) (fun c_83066 => ?_)
    · exact gc_some ⟨hT, (gb_iw (lo := (-2147483648)) (hi := 2147483647) (gb_ic (a := (-1)) (by decide)) (by decide))⟩
    · refine gc_kk (Or.resolve_left h_83065 c_83066) ?_
      refine gc_cdP (ct_Sharing_canShare_B hn hT (Or.resolve_left h_83061 c_83062)) (fun r_20 qr_20 h_83067 => ?_)
      refine gc_if (fun c_83068 => ?_) (fun c_83068 => ?_)
      · have j_83069 : gb_iv 0 0 r_20 := (gb_rU (lo := 0) (hi := 0) (gb_deq c_83068) h_83067 (gb_ic (a := 0) (by decide)) (by decide))
        exact gc_some ⟨hT, (gb_iw (lo := (-2147483648)) (hi := 2147483647) (gb_ic (a := (-1)) (by decide)) (by decide))⟩
      · have j_83070 : gb_iv 1 1 r_20 := (gb_rN (lo := 1) (hi := 1) (v := 0) c_83068 h_83067 (by decide) (by decide))
        refine gc_if (fun c_83071 => ?_) (fun c_83071 => ?_)
        · have j_83072 : gb_iv (-2147483648) 0 p3 := (gb_rU (lo := (-2147483648)) (hi := 0) (gb_deq c_83071) (gb_it _) (gb_ic (a := 0) (by decide)) (by decide))
          have j_83073 : gb_iv 0 0 p3 := (gb_rL (lo := 0) (hi := 0) (gb_deq2 c_83071) j_83072 (gb_ic (a := 0) (by decide)) (by decide))
          exact ct_Face_richest_58 hn (fun _ _ hT h => ⟨hT, h⟩) _ _ _ _ hT (Or.resolve_left h_83061 c_83062) (Or.resolve_left h_83065 c_83066) j_83073
        · refine gc_if (fun c_83076 => ?_) (fun c_83076 => ?_)
          · have j_83077 : gb_iv (-2147483648) 9 p3 := (gb_rU (lo := (-2147483648)) (hi := 9) (gb_dlt c_83076) (gb_it _) (gb_ic (a := 10) (by decide)) (by decide))
            exact gc_some ⟨hT, (gb_iw (lo := (-2147483648)) (hi := 2147483647) (gb_ic (a := (-1)) (by decide)) (by decide))⟩
          · have j_83078 : gb_iv 10 2147483647 p3 := (gb_rL (lo := 10) (hi := 2147483647) (gb_dnlt c_83076) (gb_it _) (gb_ic (a := 10) (by decide)) (by decide))
            refine gc_cdP (ct_Border_geese_B hn hT (Or.resolve_left h_83061 c_83062)) (fun r_36 qr_36 h_83079 => ?_)
            refine gc_if (fun c_83080 => ?_) (fun c_83080 => ?_)
            · have j_83081 : gb_iv 10 17 p3 := (gb_rU (lo := 10) (hi := 17) (gb_dlt c_83080) j_83078 (gb_iadd (lo := 10) (hi := 18) (gb_ic (a := 10) (by decide)) h_83079 (by decide)) (by decide))
              have j_83082 : gb_iv 11 18 (10 + r_36) := (gb_rL (lo := 11) (hi := 18) (gb_dlt c_83080) (gb_iadd (lo := 10) (hi := 18) (gb_ic (a := 10) (by decide)) h_83079 (by decide)) j_83081 (by decide))
              exact ct_Face_richest_58_i1 hn (fun _ _ hT h => ⟨hT, h⟩) _ _ _ _ hT (Or.resolve_left h_83061 c_83062) (Or.resolve_left h_83065 c_83066) j_83081
            · exact gc_some ⟨hT, (gb_iw (lo := (-2147483648)) (hi := 2147483647) (gb_ic (a := (-1)) (by decide)) (by decide))⟩
set_option maxHeartbeats 4000000 in
theorem ct_Face_close_36 {n : Nat} (hn : gb_N ≤ n) {Q : gb_S → Int32 → Prop} (hret : ∀ (σ : gb_S) (r : Int32), gb_TC σ → gb_iv (-2147483648) 2147483647 r → Q σ r) : ∀ (mm : Nat) (σ : gb_S) (v2 : Int32) (v3 : Nat) (v4 : Int32) (v5 : Int32) (v6 : Int32), gb_TC σ → gb_kB v3 = true → gb_iv (-2147483648) 2147483647 v2 → gb_iv (-2147483648) 2147483647 v4 → gb_iv (-1) 4 v5 → gb_iv 0 5 v6 → (5 - v6.toInt).toNat < mm → gb_tc (cs_Face_close_36 n mm σ v2 v3 v4 v5 v6) Q := by
  intro mm
  induction mm with
  | zero =>
    intro σ v2 v3 v4 v5 v6 hT hv3 iv2 iv4 iv5 iv6 hm
    exact absurd hm (Nat.not_lt_zero _)
  | succ mm ih =>
    intro σ v2 v3 v4 v5 v6 hT hv3 iv2 iv4 iv5 iv6 hm
    rw [cs_Face_close_36]
    refine gc_kk hv3 ?_
    refine gc_cdP (ct_Border_paths_B hn hT hv3) (fun r_19 qr_19 h_83508 => ?_)
    refine gc_if (fun c_83509 => ?_) (fun c_83509 => ?_)
    · refine gc_if (fun c_83510 => ?_) (fun c_83510 => ?_)
      · have j_83511 : gb_iv (-2147483648) 0 v2 := (gb_rU (lo := (-2147483648)) (hi := 0) (gb_deq c_83510) (gb_it _) (gb_ic (a := 0) (by decide)) (by decide))
        have j_83512 : gb_iv 0 0 v2 := (gb_rL (lo := 0) (hi := 0) (gb_deq2 c_83510) j_83511 (gb_ic (a := 0) (by decide)) (by decide))
        exact gc_some (hret _ _ hT (gb_iw (lo := (-2147483648)) (hi := 2147483647) iv5 (by decide)))
      · exact gc_some (hret _ _ hT (gb_it _))
    · have j_83513 : gb_iv 0 4 v6 := (gb_rU (lo := 0) (hi := 4) (gb_dnle c_83509) iv6 h_83508 (by decide))
      have j_83514 : gb_iv 1 5 r_19 := (gb_rL (lo := 1) (hi := 5) (gb_dnle c_83509) h_83508 j_83513 (by decide))
      refine gc_cdT (ct_Sharing_solve_B_n hn hT hv3) (fun s_24 u_83515 hTs_24 _ => ?_)
      refine gc_if (fun c_83516 => ?_) (fun c_83516 => ?_)
      · have j_83517 : gb_iv (-1) (-1) v5 := (gb_rU (lo := (-1)) (hi := (-1)) (gb_deq c_83516) iv5 (gb_ic (a := (-1)) (by decide)) (by decide))
        refine gc_cdP (ct_Sharing_difference hn hTs_24) (fun r_30 qr_30 h_83518 => ?_)
        refine gc_lti (lo := 1) (hi := 5) (gb_iadd (lo := 1) (hi := 5) j_83513 (gb_ic (a := 1) (by decide)) (by decide)) (fun x_33 ex_33 ix_33 => ?_)
        exact ih _ _ _ _ _ _ hTs_24 hv3 (gb_it _) (gb_it _) (gb_iw (lo := (-1)) (hi := 4) j_83513 (by decide)) (gb_iw (lo := 0) (hi := 5) ix_33 (by decide)) (gb_mup ex_33 j_83513 (by decide) hm)
      · have j_83519 : gb_iv 0 4 v5 := (gb_rN (lo := 0) (hi := 4) (v := (-1)) c_83516 iv5 (by decide) (by decide))
        refine gc_cdP (ct_Sharing_difference hn hTs_24) (fun r_35 qr_35 h_83520 => ?_)
        refine gc_if (fun c_83521 => ?_) (fun c_83521 => ?_)
        · refine gc_lti (lo := 1) (hi := 5) (gb_iadd (lo := 1) (hi := 5) j_83513 (gb_ic (a := 1) (by decide)) (by decide)) (fun x_39 ex_39 ix_39 => ?_)
          exact ih _ _ _ _ _ _ hTs_24 hv3 (gb_it _) (gb_it _) (gb_iw (lo := (-1)) (hi := 4) j_83519 (by decide)) (gb_iw (lo := 0) (hi := 5) ix_39 (by decide)) (gb_mup ex_39 j_83513 (by decide) hm)
        · have j_83522 : gb_iv (-2147483648) 2147483646 r_35 := (gb_rU (lo := (-2147483648)) (hi := 2147483646) (gb_dnle c_83521) (gb_it _) (gb_it _) (by decide))
          have j_83523 : gb_iv (-2147483647) 2147483647 v4 := (gb_rL (lo := (-2147483647)) (hi := 2147483647) (gb_dnle c_83521) (gb_it _) j_83522 (by decide))
          refine gc_cdE qr_35 ?_
          refine gc_lti (lo := 1) (hi := 5) (gb_iadd (lo := 1) (hi := 5) j_83513 (gb_ic (a := 1) (by decide)) (by decide)) (fun x_44 ex_44 ix_44 => ?_)
          exact ih _ _ _ _ _ _ hTs_24 hv3 (gb_it _) (gb_iw (lo := (-2147483648)) (hi := 2147483647) j_83522 (by decide)) (gb_iw (lo := (-1)) (hi := 4) j_83513 (by decide)) (gb_iw (lo := 0) (hi := 5) ix_44 (by decide)) (gb_mup ex_44 j_83513 (by decide) hm)
set_option maxHeartbeats 4000000 in
theorem ct_Face_close {n : Nat} (hn : gb_N ≤ n) {σ : gb_S} {p1 : Int32} {p2 : Int32} (hT : gb_TC σ) : gb_tc (cs_Face_close n σ p1 p2) (fun s r => gb_TC s ∧ gb_iv (-2147483648) 2147483647 r) := by
  unfold cs_Face_close
  refine gc_cdP (ct_Face_borderAt hn hT) (fun r_2 qr_2 h_83297 => ?_)
  refine gc_if (fun c_83298 => ?_) (fun c_83298 => ?_)
  · exact gc_some ⟨hT, (gb_iw (lo := (-2147483648)) (hi := 2147483647) (gb_ic (a := (-1)) (by decide)) (by decide))⟩
  · refine gc_kk (Or.resolve_left h_83297 c_83298) ?_
    refine gc_cdP (ct_Sharing_canShare_B hn hT (Or.resolve_left h_83297 c_83298)) (fun r_8 qr_8 h_83299 => ?_)
    refine gc_if (fun c_83300 => ?_) (fun c_83300 => ?_)
    · have j_83301 : gb_iv 0 0 r_8 := (gb_rU (lo := 0) (hi := 0) (gb_deq c_83300) h_83299 (gb_ic (a := 0) (by decide)) (by decide))
      exact gc_some ⟨hT, (gb_iw (lo := (-2147483648)) (hi := 2147483647) (gb_ic (a := (-1)) (by decide)) (by decide))⟩
    · have j_83302 : gb_iv 1 1 r_8 := (gb_rN (lo := 1) (hi := 1) (v := 0) c_83300 h_83299 (by decide) (by decide))
      refine gc_cdP (ct_Border_paths_B hn hT (Or.resolve_left h_83297 c_83298)) (fun r_13 qr_13 h_83303 => ?_)
      refine gc_if (fun c_83304 => ?_) (fun c_83304 => ?_)
      · have j_83305 : gb_iv 2 5 r_13 := (gb_rL (lo := 2) (hi := 5) (gb_dle c_83304) h_83303 (gb_ic (a := 2) (by decide)) (by decide))
        exact ct_Face_close_36 hn (fun _ _ hT h => ⟨hT, h⟩) n _ _ _ _ _ _ hT (Or.resolve_left h_83297 c_83298) (gb_it _) (gb_iw (lo := (-2147483648)) (hi := 2147483647) (gb_ic (a := 0) (by decide)) (by decide)) (gb_iw (lo := (-1)) (hi := 4) (gb_ic (a := (-1)) (by decide)) (by decide)) (gb_iw (lo := 0) (hi := 5) (gb_ic (a := 0) (by decide)) (by decide)) (gb_fuu hn (gb_iw (lo := 0) (hi := 5) (gb_ic (a := 0) (by decide)) (by decide)) (by decide))
      · have j_83524 : gb_iv 0 1 r_13 := (gb_rU (lo := 0) (hi := 1) (gb_dnle c_83304) h_83303 (gb_ic (a := 2) (by decide)) (by decide))
        exact gc_some ⟨hT, (gb_iw (lo := (-2147483648)) (hi := 2147483647) (gb_ic (a := (-1)) (by decide)) (by decide))⟩
set_option maxHeartbeats 4000000 in
theorem ct_Flocks_findWays_B_D_28 {n : Nat} (hn : gb_N ≤ n) {Q : gb_S → Unit → Prop} (hret : ∀ (σ : gb_S) (r : Unit), gb_TC σ → True → Q σ r) : ∀ (mm : Nat) (σ : gb_S) (v1 : Nat) (v2 : Nat) (v3 : Int32) (v4 : Int32) (v5 : Int32), gb_TC σ → gb_kB v1 = true → gb_kD v2 = true → gb_iv (-2147483648) 2147483647 v3 → gb_iv (-2147483648) 2147483647 v4 → gb_iv 0 5 v5 → (5 - v5.toInt).toNat < mm → gb_tc (cs_Flocks_findWays_B_D_28 n mm σ v1 v2 v3 v4 v5) Q := by
  intro mm
  induction mm with
  | zero =>
    intro σ v1 v2 v3 v4 v5 hT hv1 hv2 iv3 iv4 iv5 hm
    exact absurd hm (Nat.not_lt_zero _)
  | succ mm ih =>
    intro σ v1 v2 v3 v4 v5 hT hv1 hv2 iv3 iv4 iv5 hm
    rw [cs_Flocks_findWays_B_D_28]
    refine gc_kk hv1 ?_
    refine gc_kk hv2 ?_
    refine gc_cdP (ct_Lines_size_D hn hT hv2) (fun r_18 qr_18 h_84309 => ?_)
    refine gc_if (fun c_84310 => ?_) (fun c_84310 => ?_)
    · exact gc_some (hret _ _ hT trivial)
    · have j_84311 : gb_iv 0 4 v5 := (gb_rU (lo := 0) (hi := 4) (gb_dnle c_84310) iv5 h_84309 (by decide))
      have j_84312 : gb_iv 1 5 r_18 := (gb_rL (lo := 1) (hi := 5) (gb_dnle c_84310) h_84309 j_84311 (by decide))
      refine gc_cdP (ct_Dawn_pathSeen_D hn hT hv2 j_84311) (fun r_23 qr_23 h_84313 => ?_)
      refine gc_cdP (ct_Border_hasPath_B hn hT hv1) (fun r_27 qr_27 h_84314 => ?_)
      refine gc_if (fun c_84315 => ?_) (fun c_84315 => ?_)
      · have j_84316 : gb_iv 0 0 r_27 := (gb_rU (lo := 0) (hi := 0) (gb_deq c_84315) h_84314.1 (gb_ic (a := 0) (by decide)) (by decide))
        refine gc_cdP (ct_Dawn_marksSeen_D hn hT hv2 j_84311) (fun r_32 qr_32 h_84317 => ?_)
        refine gc_if (fun c_84318 => ?_) (fun c_84318 => ?_)
        · have j_84319 : gb_iv (-2147483648) 0 r_32 := (gb_rU (lo := (-2147483648)) (hi := 0) (gb_deq c_84318) (gb_it _) (gb_ic (a := 0) (by decide)) (by decide))
          have j_84320 : gb_iv 0 0 r_32 := (gb_rL (lo := 0) (hi := 0) (gb_deq2 c_84318) j_84319 (gb_ic (a := 0) (by decide)) (by decide))
          refine gc_if (fun c_84321 => ?_) (fun c_84321 => ?_)
          · have j_84322 : gb_iv 0 2147483647 v4 := (gb_rL (lo := 0) (hi := 2147483647) (gb_deq c_84321) (gb_it _) j_84311 (by decide))
            have j_84323 : gb_iv 0 4 v4 := (gb_rU (lo := 0) (hi := 4) (gb_deq2 c_84321) j_84322 j_84311 (by decide))
            refine gc_kk (gc_q4 hT) ?_
            refine gc_cdT (ct_java_util_Arrays_fillJ_J hn hT (gc_q4 hT)) (fun s_45 u_84324 hTs_45 _ => ?_)
            refine gc_lti (lo := 1) (hi := 5) (gb_iadd (lo := 1) (hi := 5) j_84311 (gb_ic (a := 1) (by decide)) (by decide)) (fun x_49 ex_49 ix_49 => ?_)
            exact ih _ _ _ _ _ _ hTs_45 hv1 hv2 (gb_it _) (gb_iw (lo := (-2147483648)) (hi := 2147483647) j_84323 (by decide)) (gb_iw (lo := 0) (hi := 5) ix_49 (by decide)) (gb_mup ex_49 j_84311 (by decide) hm)
          · refine gc_lti (lo := 1) (hi := 5) (gb_iadd (lo := 1) (hi := 5) j_84311 (gb_ic (a := 1) (by decide)) (by decide)) (fun x_43 ex_43 ix_43 => ?_)
            exact ih _ _ _ _ _ _ hT hv1 hv2 (gb_it _) (gb_it _) (gb_iw (lo := 0) (hi := 5) ix_43 (by decide)) (gb_mup ex_43 j_84311 (by decide) hm)
        · refine gc_kk (gc_q4 hT) ?_
          refine gc_cdT (ct_java_util_Arrays_fillJ_J hn hT (gc_q4 hT)) (fun s_37 u_84325 hTs_37 _ => ?_)
          refine gc_lti (lo := 1) (hi := 5) (gb_iadd (lo := 1) (hi := 5) j_84311 (gb_ic (a := 1) (by decide)) (by decide)) (fun x_41 ex_41 ix_41 => ?_)
          exact ih _ _ _ _ _ _ hTs_37 hv1 hv2 (gb_it _) (gb_it _) (gb_iw (lo := 0) (hi := 5) ix_41 (by decide)) (gb_mup ex_41 j_84311 (by decide) hm)
      · have j_84326 : gb_iv 1 1 r_27 := (gb_rN (lo := 1) (hi := 1) (v := 0) c_84315 h_84314.1 (by decide) (by decide))
        have j_84327 : gb_iv 0 4 r_23 := (h_84314.2 c_84315)
        refine gc_cdT (ct_Flocks_sumUp_B_c131 hn hT hv1 j_84327) (fun s_50 u_84328 hTs_50 _ => ?_)
        refine gc_cdP (ct_Dawn_marksSeen_D hn hTs_50 hv2 j_84311) (fun r_55 qr_55 h_84329 => ?_)
        refine gc_if (fun c_84330 => ?_) (fun c_84330 => ?_)
        · have j_84331 : gb_iv (-2147483648) (-1) v3 := (gb_rU (lo := (-2147483648)) (hi := (-1)) (gb_deq c_84330) (gb_it _) (gb_ic (a := (-1)) (by decide)) (by decide))
          have j_84332 : gb_iv (-1) (-1) v3 := (gb_rL (lo := (-1)) (hi := (-1)) (gb_deq2 c_84330) j_84331 (gb_ic (a := (-1)) (by decide)) (by decide))
          refine gc_cdT (ct_Flocks_goBy hn hTs_50) (fun s_59 u_84333 hTs_59 _ => ?_)
          refine gc_lti (lo := 1) (hi := 5) (gb_iadd (lo := 1) (hi := 5) j_84311 (gb_ic (a := 1) (by decide)) (by decide)) (fun x_63 ex_63 ix_63 => ?_)
          exact ih _ _ _ _ _ _ hTs_59 hv1 hv2 (gb_iw (lo := (-2147483648)) (hi := 2147483647) j_84332 (by decide)) (gb_it _) (gb_iw (lo := 0) (hi := 5) ix_63 (by decide)) (gb_mup ex_63 j_84311 (by decide) hm)
        · refine gc_if (fun c_84334 => ?_) (fun c_84334 => ?_)
          · have j_84335 : gb_iv 0 2147483647 v4 := (gb_rL (lo := 0) (hi := 2147483647) (gb_deq c_84334) (gb_it _) j_84311 (by decide))
            have j_84336 : gb_iv 0 4 v4 := (gb_rU (lo := 0) (hi := 4) (gb_deq2 c_84334) j_84335 j_84311 (by decide))
            refine gc_cdT (ct_Flocks_goBy hn hTs_50) (fun s_70 u_84337 hTs_70 _ => ?_)
            refine gc_lti (lo := 1) (hi := 5) (gb_iadd (lo := 1) (hi := 5) j_84311 (gb_ic (a := 1) (by decide)) (by decide)) (fun x_74 ex_74 ix_74 => ?_)
            exact ih _ _ _ _ _ _ hTs_70 hv1 hv2 (gb_it _) (gb_iw (lo := (-2147483648)) (hi := 2147483647) j_84336 (by decide)) (gb_iw (lo := 0) (hi := 5) ix_74 (by decide)) (gb_mup ex_74 j_84311 (by decide) hm)
          · refine gc_cdT (ct_Flocks_goBy hn hTs_50) (fun s_65 u_84338 hTs_65 _ => ?_)
            refine gc_lti (lo := 1) (hi := 5) (gb_iadd (lo := 1) (hi := 5) j_84311 (gb_ic (a := 1) (by decide)) (by decide)) (fun x_69 ex_69 ix_69 => ?_)
            exact ih _ _ _ _ _ _ hTs_65 hv1 hv2 (gb_it _) (gb_it _) (gb_iw (lo := 0) (hi := 5) ix_69 (by decide)) (gb_mup ex_69 j_84311 (by decide) hm)
set_option maxHeartbeats 4000000 in
theorem ct_Flocks_findWays_B_D {n : Nat} (hn : gb_N ≤ n) {σ : gb_S} {p1 : Nat} {p2 : Nat} {p3 : Int32} {p4 : Int32} (hT : gb_TC σ) (hp1 : gb_kB p1 = true) (hp2 : gb_kD p2 = true) : gb_tc (cs_Flocks_findWays_B_D n σ p1 p2 p3 p4) (fun s _ => gb_TC s ∧ True) := by
  unfold cs_Flocks_findWays_B_D
  refine gc_kk hp1 ?_
  refine gc_kk hp2 ?_
  refine gc_cdP (ct_Border_geese_B hn hT hp1) (fun r_4 qr_4 h_83917 => ?_)
  refine gc_ltT (gc_su (c := 11) (lo := 0) (hi := 256) hT (rfl : gc_cat 130 = 11) (gb_iw (lo := 0) (hi := 256) (gb_ishl (lo := 1) (hi := 256) h_83917 (by decide)) (by decide)) (by decide)) (fun s_7 es_7 hTs_7 => ?_)
  refine gc_kk (gc_q4 hTs_7) ?_
  refine gc_cdT (ct_java_util_Arrays_fillJ_J hn hTs_7 (gc_q4 hTs_7)) (fun s_9 u_83918 hTs_9 _ => ?_)
  refine gc_kk (gc_q4 hTs_9) ?_
  refine gc_ltT (gc_sg hTs_9) (fun s_14 es_14 hTs_14 => ?_)
  exact ct_Flocks_findWays_B_D_28 hn (fun _ _ hT h => ⟨hT, h⟩) n _ _ _ _ _ _ hTs_14 hp1 hp2 (gb_it _) (gb_it _) (gb_iw (lo := 0) (hi := 5) (gb_ic (a := 0) (by decide)) (by decide)) (gb_fuu hn (gb_iw (lo := 0) (hi := 5) (gb_ic (a := 0) (by decide)) (by decide)) (by decide))
set_option maxHeartbeats 4000000 in
theorem ct_Face_fits {n : Nat} (hn : gb_N ≤ n) {σ : gb_S} {p1 : Int32} {p2 : Int32} (hT : gb_TC σ) : gb_tc (cs_Face_fits n σ p1 p2) (fun s _ => gb_TC s ∧ True) := by
  unfold cs_Face_fits
  refine gc_cdP (ct_Face_borderAt hn hT) (fun r_2 qr_2 h_84346 => ?_)
  refine gc_if (fun c_84347 => ?_) (fun c_84347 => ?_)
  · refine gc_cdP (ct_Face_dawnAt hn hT) (fun r_7 qr_7 h_84348 => ?_)
    refine gc_if (fun c_84349 => ?_) (fun c_84349 => ?_)
    · exact gc_some ⟨hT, trivial⟩
    · refine gc_kk (Or.resolve_left h_84348 c_84349) ?_
      exact gc_some ⟨hT, trivial⟩
  · refine gc_kk (Or.resolve_left h_84346 c_84347) ?_
    refine gc_cdP (ct_Face_dawnAt hn hT) (fun r_14 qr_14 h_84350 => ?_)
    refine gc_if (fun c_84351 => ?_) (fun c_84351 => ?_)
    · exact gc_some ⟨hT, trivial⟩
    · refine gc_kk (Or.resolve_left h_84350 c_84351) ?_
      refine gc_cdT (ct_Flocks_findWays_B_D hn hT (Or.resolve_left h_84346 c_84347) (Or.resolve_left h_84350 c_84351)) (fun s_19 u_84352 hTs_19 _ => ?_)
      refine gc_cdP (ct_Flocks_allWays hn hTs_19) (fun r_24 qr_24 _ => ?_)
      exact gc_some ⟨hTs_19, trivial⟩
set_option maxHeartbeats 4000000 in
theorem ct_Flocks_pathsInAnyWay_B_D_6 {n : Nat} (hn : gb_N ≤ n) {Q : gb_S → Int32 → Prop} (hret : ∀ (σ : gb_S) (r : Int32), gb_TC σ → gb_iv (-2147483648) 2147483647 r → Q σ r) : ∀ (mm : Nat) (σ : gb_S) (v1 : Nat) (v2 : Nat) (v3 : Int32) (v4 : Int32) (v5 : Int32), gb_TC σ → gb_kB v1 = true → gb_kD v2 = true → gb_iv (-2147483648) 2147483647 v3 → gb_iv (-2147483648) 2147483647 v4 → gb_iv 0 5 v5 → (5 - v5.toInt).toNat < mm → gb_tc (cs_Flocks_pathsInAnyWay_B_D_6 n mm σ v1 v2 v3 v4 v5) Q := by
  intro mm
  induction mm with
  | zero =>
    intro σ v1 v2 v3 v4 v5 hT hv1 hv2 iv3 iv4 iv5 hm
    exact absurd hm (Nat.not_lt_zero _)
  | succ mm ih =>
    intro σ v1 v2 v3 v4 v5 hT hv1 hv2 iv3 iv4 iv5 hm
    rw [cs_Flocks_pathsInAnyWay_B_D_6]
    refine gc_kk hv1 ?_
    refine gc_kk hv2 ?_
    refine gc_cdP (ct_Lines_size_D hn hT hv2) (fun r_6 qr_6 h_84587 => ?_)
    refine gc_if (fun c_84588 => ?_) (fun c_84588 => ?_)
    · exact gc_some (hret _ _ hT (gb_it _))
    · have j_84589 : gb_iv 0 4 v5 := (gb_rU (lo := 0) (hi := 4) (gb_dnle c_84588) iv5 h_84587 (by decide))
      have j_84590 : gb_iv 1 5 r_6 := (gb_rL (lo := 1) (hi := 5) (gb_dnle c_84588) h_84587 j_84589 (by decide))
      refine gc_cdT (ct_Flocks_findWays_B_D hn hT hv1 hv2) (fun s_10 u_84591 hTs_10 _ => ?_)
      refine gc_cdP (ct_Flocks_allWays hn hTs_10) (fun r_15 qr_15 _ => ?_)
      refine gc_if (fun c_84592 => ?_) (fun c_84592 => ?_)
      · have j_84593 : gb_iv (-2147483648) 0 (lg_cmp r_15 (0 : Int64)) := (gb_rU (lo := (-2147483648)) (hi := 0) (gb_dle c_84592) (gb_it _) (gb_ic (a := 0) (by decide)) (by decide))
        refine gc_lti (lo := 1) (hi := 5) (gb_iadd (lo := 1) (hi := 5) j_84589 (gb_ic (a := 1) (by decide)) (by decide)) (fun x_19 ex_19 ix_19 => ?_)
        exact ih _ _ _ _ _ _ hTs_10 hv1 hv2 (gb_it _) (gb_it _) (gb_iw (lo := 0) (hi := 5) ix_19 (by decide)) (gb_mup ex_19 j_84589 (by decide) hm)
      · have j_84594 : gb_iv 1 2147483647 (lg_cmp r_15 (0 : Int64)) := (gb_rL (lo := 1) (hi := 2147483647) (gb_dnle c_84592) (gb_it _) (gb_ic (a := 0) (by decide)) (by decide))
        refine gc_cdP (ct_Dawn_pathSeen_D hn hTs_10 hv2 j_84589) (fun r_21 qr_21 h_84595 => ?_)
        refine gc_lti (lo := (-2147483648)) (hi := 2147483647) (gb_it _) (fun x_24 ex_24 ix_24 => ?_)
        refine gc_lti (lo := 1) (hi := 5) (gb_iadd (lo := 1) (hi := 5) j_84589 (gb_ic (a := 1) (by decide)) (by decide)) (fun x_25 ex_25 ix_25 => ?_)
        exact ih _ _ _ _ _ _ hTs_10 hv1 hv2 (gb_it _) (gb_it _) (gb_iw (lo := 0) (hi := 5) ix_25 (by decide)) (gb_mup ex_25 j_84589 (by decide) hm)
set_option maxHeartbeats 4000000 in
theorem ct_Flocks_pathsInAnyWay_B_D {n : Nat} (hn : gb_N ≤ n) {σ : gb_S} {p1 : Nat} {p2 : Nat} {p3 : Int32} (hT : gb_TC σ) (hp1 : gb_kB p1 = true) (hp2 : gb_kD p2 = true) : gb_tc (cs_Flocks_pathsInAnyWay_B_D n σ p1 p2 p3) (fun s r => gb_TC s ∧ gb_iv (-2147483648) 2147483647 r) := by
  unfold cs_Flocks_pathsInAnyWay_B_D
  refine gc_kk hp1 ?_
  refine gc_kk hp2 ?_
  exact ct_Flocks_pathsInAnyWay_B_D_6 hn (fun _ _ hT h => ⟨hT, h⟩) n _ _ _ _ _ _ hT hp1 hp2 (gb_it _) (gb_iw (lo := (-2147483648)) (hi := 2147483647) (gb_ic (a := 0) (by decide)) (by decide)) (gb_iw (lo := 0) (hi := 5) (gb_ic (a := 0) (by decide)) (by decide)) (gb_fuu hn (gb_iw (lo := 0) (hi := 5) (gb_ic (a := 0) (by decide)) (by decide)) (by decide))
set_option maxHeartbeats 4000000 in
theorem ct_Face_told_82 {n : Nat} (hn : gb_N ≤ n) {Q : gb_S → Int32 → Prop} (hret : ∀ (σ : gb_S) (r : Int32), gb_TC σ → gb_iv (-2147483648) 2147483647 r → Q σ r) : ∀ (σ : gb_S) (v3 : Int32) (v4 : Nat) (v5 : Nat), gb_TC σ → gb_kB v4 = true → gb_kD v5 = true → gb_iv 0 2 v3 → gb_tc (cs_Face_told_82 n σ v3 v4 v5) Q := by
  intro σ v3 v4 v5 hT hv4 hv5 iv3
  unfold cs_Face_told_82
  refine gc_kk hv4 ?_
  refine gc_kk hv5 ?_
  refine gc_cdT (ct_Flocks_findWays_B_D hn hT hv4 hv5) (fun s_28 u_84666 hTs_28 _ => ?_)
  refine gc_cdP (ct_Flocks_allWays hn hTs_28) (fun r_33 qr_33 _ => ?_)
  refine gc_if (fun c_84667 => ?_) (fun c_84667 => ?_)
  · have j_84668 : gb_iv (-2147483648) 0 (lg_cmp r_33 (0 : Int64)) := (gb_rU (lo := (-2147483648)) (hi := 0) (gb_deq c_84667) (gb_it _) (gb_ic (a := 0) (by decide)) (by decide))
    have j_84669 : gb_iv 0 0 (lg_cmp r_33 (0 : Int64)) := (gb_rL (lo := 0) (hi := 0) (gb_deq2 c_84667) j_84668 (gb_ic (a := 0) (by decide)) (by decide))
    exact gc_some (hret _ _ hTs_28 (gb_iw (lo := (-2147483648)) (hi := 2147483647) (gb_ic (a := (-2)) (by decide)) (by decide)))
  · refine gc_if (fun c_84670 => ?_) (fun c_84670 => ?_)
    · have j_84671 : gb_iv 0 0 v3 := (gb_rU (lo := 0) (hi := 0) (gb_deq c_84670) iv3 (gb_ic (a := 0) (by decide)) (by decide))
      refine gc_cdP (ct_Flocks_fewestGone hn hTs_28) (fun r_39 qr_39 h_84672 => ?_)
      exact gc_some (hret _ _ hTs_28 (gb_iw (lo := (-2147483648)) (hi := 2147483647) h_84672 (by decide)))
    · have j_84673 : gb_iv 1 2 v3 := (gb_rN (lo := 1) (hi := 2) (v := 0) c_84670 iv3 (by decide) (by decide))
      refine gc_if (fun c_84674 => ?_) (fun c_84674 => ?_)
      · have j_84675 : gb_iv 1 1 v3 := (gb_rU (lo := 1) (hi := 1) (gb_deq c_84674) j_84673 (gb_ic (a := 1) (by decide)) (by decide))
        refine gc_cdP (ct_Flocks_mostGone hn hTs_28) (fun r_44 qr_44 h_84676 => ?_)
        exact gc_some (hret _ _ hTs_28 (gb_iw (lo := (-2147483648)) (hi := 2147483647) h_84676 (by decide)))
      · have j_84677 : gb_iv 2 2 v3 := (gb_rN (lo := 2) (hi := 2) (v := 1) c_84674 j_84673 (by decide) (by decide))
        refine gc_if (fun c_84678 => ?_) (fun c_84678 => ?_)
        · refine gc_cdP (ct_Flocks_sureOnes hn hTs_28) (fun r_49 qr_49 h_84679 => ?_)
          exact gc_some (hret _ _ hTs_28 (gb_iw (lo := (-2147483648)) (hi := 2147483647) h_84679 (by decide)))
        · exact (gb_em (gb_rN (lo := 3) (hi := 1) (v := 2) c_84678 j_84677 (by decide) (by decide)) (by decide)).elim
set_option maxHeartbeats 4000000 in
theorem ct_Face_told_63 {n : Nat} (hn : gb_N ≤ n) {Q : gb_S → Int32 → Prop} (hret : ∀ (σ : gb_S) (r : Int32), gb_TC σ → gb_iv (-2147483648) 2147483647 r → Q σ r) : ∀ (σ : gb_S) (v3 : Int32) (v4 : Nat) (v5 : Nat) (t0 : Int32), gb_TC σ → gb_kB v4 = true → gb_kD v5 = true → gb_iv (-2147483648) 9 v3 → gb_iv 0 0 t0 → gb_tc (cs_Face_told_63 n σ v3 v4 v5 t0) Q := by
  intro σ v3 v4 v5 t0 hT hv4 hv5 iv3 it0
  unfold cs_Face_told_63
  refine gc_kk hv4 ?_
  refine gc_kk hv5 ?_
  refine gc_if (fun c_84660 => ?_) (fun c_84660 => ?_)
  · refine gc_if (fun c_84661 => ?_) (fun c_84661 => ?_)
    · have j_84662 : gb_iv (-2147483648) (-1) v3 := (gb_rU (lo := (-2147483648)) (hi := (-1)) (gb_dlt c_84661) iv3 (gb_ic (a := 0) (by decide)) (by decide))
      exact gc_some (hret _ _ hT (gb_iw (lo := (-2147483648)) (hi := 2147483647) (gb_ic (a := (-2)) (by decide)) (by decide)))
    · have j_84663 : gb_iv 0 9 v3 := (gb_rL (lo := 0) (hi := 9) (gb_dnlt c_84661) iv3 (gb_ic (a := 0) (by decide)) (by decide))
      refine gc_if (fun c_84664 => ?_) (fun c_84664 => ?_)
      · have j_84665 : gb_iv 0 2 v3 := (gb_rU (lo := 0) (hi := 2) (gb_dle c_84664) j_84663 (gb_ic (a := 2) (by decide)) (by decide))
        exact ct_Face_told_82 hn hret _ _ _ _ hT hv4 hv5 j_84665
      · have j_84680 : gb_iv 3 9 v3 := (gb_rL (lo := 3) (hi := 9) (gb_dnle c_84664) j_84663 (gb_ic (a := 2) (by decide)) (by decide))
        exact gc_some (hret _ _ hT (gb_iw (lo := (-2147483648)) (hi := 2147483647) (gb_ic (a := (-2)) (by decide)) (by decide)))
  · exact (gb_em (gb_rN (lo := 1) (hi := (-1)) (v := 0) c_84660 it0 (by decide) (by decide)) (by decide)).elim
set_option maxHeartbeats 4000000 in
theorem ct_Face_told_62 {n : Nat} (hn : gb_N ≤ n) {Q : gb_S → Int32 → Prop} (hret : ∀ (σ : gb_S) (r : Int32), gb_TC σ → gb_iv (-2147483648) 2147483647 r → Q σ r) : ∀ (σ : gb_S) (v3 : Int32) (v4 : Nat) (v5 : Nat), gb_TC σ → gb_kB v4 = true → gb_kD v5 = true → gb_iv (-2147483648) 9 v3 → gb_tc (cs_Face_told_62 n σ v3 v4 v5) Q := by
  intro σ v3 v4 v5 hT hv4 hv5 iv3
  unfold cs_Face_told_62
  refine gc_kk hv4 ?_
  refine gc_kk hv5 ?_
  exact ct_Face_told_63 hn hret _ _ _ _ _ hT hv4 hv5 iv3 (gb_ic (a := 0) (by decide))
set_option maxHeartbeats 4000000 in
theorem ct_Face_told_63_i1 {n : Nat} (hn : gb_N ≤ n) {Q : gb_S → Int32 → Prop} (hret : ∀ (σ : gb_S) (r : Int32), gb_TC σ → gb_iv (-2147483648) 2147483647 r → Q σ r) : ∀ (σ : gb_S) (v3 : Int32) (v4 : Nat) (v5 : Nat) (t0 : Int32), gb_TC σ → gb_kB v4 = true → gb_kD v5 = true → gb_iv 10 2147483647 v3 → gb_iv 0 0 t0 → gb_tc (cs_Face_told_63 n σ v3 v4 v5 t0) Q := by
  intro σ v3 v4 v5 t0 hT hv4 hv5 iv3 it0
  unfold cs_Face_told_63
  refine gc_kk hv4 ?_
  refine gc_kk hv5 ?_
  refine gc_if (fun c_84685 => ?_) (fun c_84685 => ?_)
  · refine gc_if (fun c_84686 => ?_) (fun c_84686 => ?_)
    · exact (gb_em (gb_rU (lo := 10) (hi := (-1)) (gb_dlt c_84686) iv3 (gb_ic (a := 0) (by decide)) (by decide)) (by decide)).elim
    · refine gc_if (fun c_84687 => ?_) (fun c_84687 => ?_)
      · exact (gb_em (gb_rU (lo := 10) (hi := 2) (gb_dle c_84687) iv3 (gb_ic (a := 2) (by decide)) (by decide)) (by decide)).elim
      · exact gc_some (hret _ _ hT (gb_iw (lo := (-2147483648)) (hi := 2147483647) (gb_ic (a := (-2)) (by decide)) (by decide)))
  · exact (gb_em (gb_rN (lo := 1) (hi := (-1)) (v := 0) c_84685 it0 (by decide) (by decide)) (by decide)).elim
set_option maxHeartbeats 4000000 in
theorem ct_Face_told_62_i1 {n : Nat} (hn : gb_N ≤ n) {Q : gb_S → Int32 → Prop} (hret : ∀ (σ : gb_S) (r : Int32), gb_TC σ → gb_iv (-2147483648) 2147483647 r → Q σ r) : ∀ (σ : gb_S) (v3 : Int32) (v4 : Nat) (v5 : Nat), gb_TC σ → gb_kB v4 = true → gb_kD v5 = true → gb_iv 10 2147483647 v3 → gb_tc (cs_Face_told_62 n σ v3 v4 v5) Q := by
  intro σ v3 v4 v5 hT hv4 hv5 iv3
  unfold cs_Face_told_62
  refine gc_kk hv4 ?_
  refine gc_kk hv5 ?_
  exact ct_Face_told_63_i1 hn hret _ _ _ _ _ hT hv4 hv5 iv3 (gb_ic (a := 0) (by decide))
set_option maxHeartbeats 4000000 in
theorem ct_Face_told_82_i1 {n : Nat} (hn : gb_N ≤ n) {Q : gb_S → Int32 → Prop} (hret : ∀ (σ : gb_S) (r : Int32), gb_TC σ → gb_iv (-2147483648) 2147483647 r → Q σ r) : ∀ (σ : gb_S) (v3 : Int32) (v4 : Nat) (v5 : Nat), gb_TC σ → gb_kB v4 = true → gb_kD v5 = true → gb_iv 10 17 v3 → gb_tc (cs_Face_told_82 n σ v3 v4 v5) Q := by
  intro σ v3 v4 v5 hT hv4 hv5 iv3
  unfold cs_Face_told_82
  refine gc_kk hv4 ?_
  refine gc_kk hv5 ?_
  refine gc_cdT (ct_Flocks_findWays_B_D hn hT hv4 hv5) (fun s_28 u_84692 hTs_28 _ => ?_)
  refine gc_cdP (ct_Flocks_allWays hn hTs_28) (fun r_33 qr_33 _ => ?_)
  refine gc_if (fun c_84693 => ?_) (fun c_84693 => ?_)
  · have j_84694 : gb_iv (-2147483648) 0 (lg_cmp r_33 (0 : Int64)) := (gb_rU (lo := (-2147483648)) (hi := 0) (gb_deq c_84693) (gb_it _) (gb_ic (a := 0) (by decide)) (by decide))
    have j_84695 : gb_iv 0 0 (lg_cmp r_33 (0 : Int64)) := (gb_rL (lo := 0) (hi := 0) (gb_deq2 c_84693) j_84694 (gb_ic (a := 0) (by decide)) (by decide))
    exact gc_some (hret _ _ hTs_28 (gb_iw (lo := (-2147483648)) (hi := 2147483647) (gb_ic (a := (-2)) (by decide)) (by decide)))
  · refine gc_if (fun c_84696 => ?_) (fun c_84696 => ?_)
    · exact (gb_em (gb_rU (lo := 10) (hi := 0) (gb_deq c_84696) iv3 (gb_ic (a := 0) (by decide)) (by decide)) (by decide)).elim
    · refine gc_if (fun c_84697 => ?_) (fun c_84697 => ?_)
      · exact (gb_em (gb_rU (lo := 10) (hi := 1) (gb_deq c_84697) iv3 (gb_ic (a := 1) (by decide)) (by decide)) (by decide)).elim
      · refine gc_if (fun c_84698 => ?_) (fun c_84698 => ?_)
        · exact (gb_em (gb_rU (lo := 10) (hi := 2) (gb_deq c_84698) iv3 (gb_ic (a := 2) (by decide)) (by decide)) (by decide)).elim
        · refine gc_cdT (ct_Flocks_pathsInAnyWay_B_D hn hTs_28 hv4 hv5) (fun s_52 r_53 hTs_52 h_84699 => ?_)
          exact gc_some (hret _ _ hTs_52 (gb_it _))
set_option maxHeartbeats 4000000 in
theorem ct_Face_told_63_i2 {n : Nat} (hn : gb_N ≤ n) {Q : gb_S → Int32 → Prop} (hret : ∀ (σ : gb_S) (r : Int32), gb_TC σ → gb_iv (-2147483648) 2147483647 r → Q σ r) : ∀ (σ : gb_S) (v3 : Int32) (v4 : Nat) (v5 : Nat) (t0 : Int32), gb_TC σ → gb_kB v4 = true → gb_kD v5 = true → gb_iv 10 17 v3 → gb_iv 1 1 t0 → gb_tc (cs_Face_told_63 n σ v3 v4 v5 t0) Q := by
  intro σ v3 v4 v5 t0 hT hv4 hv5 iv3 it0
  unfold cs_Face_told_63
  refine gc_kk hv4 ?_
  refine gc_kk hv5 ?_
  refine gc_if (fun c_84691 => ?_) (fun c_84691 => ?_)
  · exact (gb_em (gb_rU (lo := 1) (hi := 0) (gb_deq c_84691) it0 (gb_ic (a := 0) (by decide)) (by decide)) (by decide)).elim
  · exact ct_Face_told_82_i1 hn hret _ _ _ _ hT hv4 hv5 iv3
set_option maxHeartbeats 4000000 in
theorem ct_Face_told {n : Nat} (hn : gb_N ≤ n) {σ : gb_S} {p1 : Int32} {p2 : Int32} {p3 : Int32} (hT : gb_TC σ) : gb_tc (cs_Face_told n σ p1 p2 p3) (fun s r => gb_TC s ∧ gb_iv (-2147483648) 2147483647 r) := by
  unfold cs_Face_told
  refine gc_cdP (ct_Face_borderAt hn hT) (fun r_2 qr_2 h_84648 => ?_)
  refine gc_if (fun c_84649 => ?_) (fun c_84649 => ?_)
  · refine gc_cdP (ct_Face_dawnAt hn hT) (fun r_7 qr_7 h_84650 => ?_)
    refine gc_if (fun c_84651 => ?_) (fun c_84651 => ?_)
    · exact gc_some ⟨hT, (gb_iw (lo := (-2147483648)) (hi := 2147483647) (gb_ic (a := (-2)) (by decide)) (by decide))⟩
    · refine gc_kk (Or.resolve_left h_84650 c_84651) ?_
      exact gc_some ⟨hT, (gb_iw (lo := (-2147483648)) (hi := 2147483647) (gb_ic (a := (-2)) (by decide)) (by decide))⟩
  · refine gc_kk (Or.resolve_left h_84648 c_84649) ?_
    refine gc_cdP (ct_Face_dawnAt hn hT) (fun r_14 qr_14 h_84652 => ?_)
    refine gc_if (fun c_84653 => ?_) (fun c_84653 => ?_)
    · exact gc_some ⟨hT, (gb_iw (lo := (-2147483648)) (hi := 2147483647) (gb_ic (a := (-2)) (by decide)) (by decide))⟩
    · refine gc_kk (Or.resolve_left h_84652 c_84653) ?_
      refine gc_if (fun c_84654 => ?_) (fun c_84654 => ?_)
      · have j_84655 : gb_iv (-2147483648) 3 p3 := (gb_rU (lo := (-2147483648)) (hi := 3) (gb_deq c_84654) (gb_it _) (gb_ic (a := 3) (by decide)) (by decide))
        have j_84656 : gb_iv 3 3 p3 := (gb_rL (lo := 3) (hi := 3) (gb_deq2 c_84654) j_84655 (gb_ic (a := 3) (by decide)) (by decide))
        refine gc_cdP (ct_Face_toeOf_B_D hn hT (Or.resolve_left h_84648 c_84649) (Or.resolve_left h_84652 c_84653)) (fun r_64 qr_64 h_84657 => ?_)
        exact gc_some ⟨hT, (gb_iw (lo := (-2147483648)) (hi := 2147483647) h_84657 (by decide))⟩
      · refine gc_if (fun c_84658 => ?_) (fun c_84658 => ?_)
        · have j_84659 : gb_iv (-2147483648) 9 p3 := (gb_rU (lo := (-2147483648)) (hi := 9) (gb_dlt c_84658) (gb_it _) (gb_ic (a := 10) (by decide)) (by decide))
          exact ct_Face_told_62 hn (fun _ _ hT h => ⟨hT, h⟩) _ _ _ _ hT (Or.resolve_left h_84648 c_84649) (Or.resolve_left h_84652 c_84653) j_84659
        · have j_84681 : gb_iv 10 2147483647 p3 := (gb_rL (lo := 10) (hi := 2147483647) (gb_dnlt c_84658) (gb_it _) (gb_ic (a := 10) (by decide)) (by decide))
          refine gc_cdP (ct_Border_hasGoose_B hn hT (Or.resolve_left h_84648 c_84649)) (fun r_59 qr_59 h_84682 => ?_)
          refine gc_if (fun c_84683 => ?_) (fun c_84683 => ?_)
          · have j_84684 : gb_iv 0 0 r_59 := (gb_rU (lo := 0) (hi := 0) (gb_deq c_84683) h_84682.1 (gb_ic (a := 0) (by decide)) (by decide))
            exact ct_Face_told_62_i1 hn (fun _ _ hT h => ⟨hT, h⟩) _ _ _ _ hT (Or.resolve_left h_84648 c_84649) (Or.resolve_left h_84652 c_84653) j_84681
          · have j_84688 : gb_iv 1 1 r_59 := (gb_rN (lo := 1) (hi := 1) (v := 0) c_84683 h_84682.1 (by decide) (by decide))
            have j_84689 : gb_iv 0 7 (p3 - 10) := (h_84682.2 c_84683)
            have j_84690 : gb_iv 10 17 p3 := (gb_vsub (lo := 10) (hi := 17) (v := 10) j_84689 (by decide) (by decide))
            exact ct_Face_told_63_i2 hn (fun _ _ hT h => ⟨hT, h⟩) _ _ _ _ _ hT (Or.resolve_left h_84648 c_84649) (Or.resolve_left h_84652 c_84653) j_84690 (gb_ic (a := 1) (by decide))
set_option maxHeartbeats 4000000 in
theorem ct_Face_playedOut_B_N {n : Nat} (hn : gb_N ≤ n) {σ : gb_S} {p1 : Nat} {p2 : Nat} (hT : gb_TC σ) (hp1 : gb_kB p1 = true) (hp2 : gb_kN p2 = true) : gb_tc (cs_Face_playedOut_B_N n σ p1 p2) (fun s r => gb_TC s ∧ gb_iv 1 1 r) := by
  unfold cs_Face_playedOut_B_N
  refine gc_kk hp1 ?_
  refine gc_kk hp2 ?_
  refine gc_cdP (ct_Lines_size_N hn hT hp2) (fun r_4 qr_4 h_84702 => ?_)
  refine gc_cdT (ct_Play_run_B_N hn hT hp1 hp2) (fun s_7 u_84703 hTs_7 _ => ?_)
  exact gc_some ⟨hTs_7, (gb_ic (a := 1) (by decide))⟩
set_option maxHeartbeats 4000000 in
theorem ct_Face_stop {n : Nat} (hn : gb_N ≤ n) {σ : gb_S} {p1 : Int32} {p2 : Int32} (hT : gb_TC σ) : gb_tc (cs_Face_stop n σ p1 p2) (fun s r => gb_TC s ∧ gb_iv (-1) 24 r) := by
  unfold cs_Face_stop
  refine gc_cdP (ct_Face_borderAt hn hT) (fun r_2 qr_2 h_84718 => ?_)
  refine gc_if (fun c_84719 => ?_) (fun c_84719 => ?_)
  · refine gc_cdP (ct_Face_nightAt hn hT) (fun r_7 qr_7 h_84720 => ?_)
    refine gc_if (fun c_84721 => ?_) (fun c_84721 => ?_)
    · refine gc_cdP (ct_Face_playedOut_n_n hn hT) (fun r_12 qr_12 h_84722 => ?_)
      refine gc_if (fun c_84723 => ?_) (fun c_84723 => ?_)
      · exact gc_some ⟨hT, (gb_iw (lo := (-1)) (hi := 24) (gb_ic (a := (-1)) (by decide)) (by decide))⟩
      · exact (gb_em (gb_rN (lo := 1) (hi := (-1)) (v := 0) c_84723 h_84722 (by decide) (by decide)) (by decide)).elim
    · refine gc_kk (Or.resolve_left h_84720 c_84721) ?_
      refine gc_cdP (ct_Face_playedOut_n_N hn hT (Or.resolve_left h_84720 c_84721)) (fun r_18 qr_18 h_84724 => ?_)
      refine gc_if (fun c_84725 => ?_) (fun c_84725 => ?_)
      · exact gc_some ⟨hT, (gb_iw (lo := (-1)) (hi := 24) (gb_ic (a := (-1)) (by decide)) (by decide))⟩
      · exact (gb_em (gb_rN (lo := 1) (hi := (-1)) (v := 0) c_84725 h_84724 (by decide) (by decide)) (by decide)).elim
  · refine gc_kk (Or.resolve_left h_84718 c_84719) ?_
    refine gc_cdP (ct_Face_nightAt hn hT) (fun r_24 qr_24 h_84726 => ?_)
    refine gc_if (fun c_84727 => ?_) (fun c_84727 => ?_)
    · refine gc_cdP (ct_Face_playedOut_B_n hn hT (Or.resolve_left h_84718 c_84719)) (fun r_29 qr_29 h_84728 => ?_)
      refine gc_if (fun c_84729 => ?_) (fun c_84729 => ?_)
      · exact gc_some ⟨hT, (gb_iw (lo := (-1)) (hi := 24) (gb_ic (a := (-1)) (by decide)) (by decide))⟩
      · exact (gb_em (gb_rN (lo := 1) (hi := (-1)) (v := 0) c_84729 h_84728 (by decide) (by decide)) (by decide)).elim
    · refine gc_kk (Or.resolve_left h_84726 c_84727) ?_
      refine gc_cdT (ct_Face_playedOut_B_N hn hT (Or.resolve_left h_84718 c_84719) (Or.resolve_left h_84726 c_84727)) (fun s_34 r_35 hTs_34 h_84730 => ?_)
      refine gc_if (fun c_84731 => ?_) (fun c_84731 => ?_)
      · exact (gb_em (gb_rU (lo := 1) (hi := 0) (gb_deq c_84731) h_84730 (gb_ic (a := 0) (by decide)) (by decide)) (by decide)).elim
      · exact gc_some ⟨hTs_34, (gb_iw (lo := (-1)) (hi := 24) (gc_rd (c := 10) (lo := 0) (hi := 24) hTs_34 (rfl : gc_cat 109 = 10) (by decide)) (by decide))⟩
set_option maxHeartbeats 4000000 in
theorem ct_Face_playedTo_B_n {n : Nat} (hn : gb_N ≤ n) {σ : gb_S} {p1 : Nat} {p3 : Int32} (hT : gb_TC σ) (hp1 : gb_kB p1 = true) : gb_tc (cs_Face_playedTo_B_n n σ p1 p3) (fun s r => s = σ ∧ gb_iv 0 0 r) := by
  unfold cs_Face_playedTo_B_n
  refine gc_kk hp1 ?_
  exact gc_some ⟨rfl, (gb_ic (a := 0) (by decide))⟩
set_option maxHeartbeats 4000000 in
theorem ct_Face_playedTo_B_N {n : Nat} (hn : gb_N ≤ n) {σ : gb_S} {p1 : Nat} {p2 : Nat} {p3 : Int32} (hT : gb_TC σ) (hp1 : gb_kB p1 = true) (hp2 : gb_kN p2 = true) : gb_tc (cs_Face_playedTo_B_N n σ p1 p2 p3) (fun s r => gb_TC s ∧ gb_iv 0 1 r) := by
  unfold cs_Face_playedTo_B_N
  refine gc_kk hp1 ?_
  refine gc_kk hp2 ?_
  refine gc_if (fun c_84741 => ?_) (fun c_84741 => ?_)
  · have j_84742 : gb_iv (-2147483648) (-1) p3 := (gb_rU (lo := (-2147483648)) (hi := (-1)) (gb_dlt c_84741) (gb_it _) (gb_ic (a := 0) (by decide)) (by decide))
    exact gc_some ⟨hT, (gb_iw (lo := 0) (hi := 1) (gb_ic (a := 0) (by decide)) (by decide))⟩
  · have j_84743 : gb_iv 0 2147483647 p3 := (gb_rL (lo := 0) (hi := 2147483647) (gb_dnlt c_84741) (gb_it _) (gb_ic (a := 0) (by decide)) (by decide))
    refine gc_cdP (ct_Lines_size_N hn hT hp2) (fun r_5 qr_5 h_84744 => ?_)
    refine gc_if (fun c_84745 => ?_) (fun c_84745 => ?_)
    · have j_84746 : gb_iv 0 24 p3 := (gb_rU (lo := 0) (hi := 24) (gb_dle c_84745) j_84743 h_84744 (by decide))
      refine gc_cdT (ct_Play_run_B_N hn hT hp1 hp2) (fun s_9 u_84747 hTs_9 _ => ?_)
      refine gc_if (fun c_84748 => ?_) (fun c_84748 => ?_)
      · exact gc_some ⟨hTs_9, (gb_iw (lo := 0) (hi := 1) (gb_ic (a := 1) (by decide)) (by decide))⟩
      · exact gc_some ⟨hTs_9, (gb_iw (lo := 0) (hi := 1) (gb_ic (a := 0) (by decide)) (by decide))⟩
    · have j_84749 : gb_iv 1 2147483647 p3 := (gb_rL (lo := 1) (hi := 2147483647) (gb_dnle c_84745) j_84743 h_84744 (by decide))
      exact gc_some ⟨hT, (gb_iw (lo := 0) (hi := 1) (gb_ic (a := 0) (by decide)) (by decide))⟩
set_option maxHeartbeats 4000000 in
theorem ct_Face_goose {n : Nat} (hn : gb_N ≤ n) {σ : gb_S} {p1 : Int32} {p2 : Int32} {p3 : Int32} {p4 : Int32} {p5 : Int32} (hT : gb_TC σ) : gb_tc (cs_Face_goose n σ p1 p2 p3 p4 p5) (fun s r => gb_TC s ∧ gb_iv (-2147483648) 2147483647 r) := by
  unfold cs_Face_goose
  refine gc_cdP (ct_Face_borderAt hn hT) (fun r_2 qr_2 h_84777 => ?_)
  refine gc_if (fun c_84778 => ?_) (fun c_84778 => ?_)
  · exact gc_some ⟨hT, (gb_iw (lo := (-2147483648)) (hi := 2147483647) (gb_ic (a := (-2)) (by decide)) (by decide))⟩
  · refine gc_kk (Or.resolve_left h_84777 c_84778) ?_
    refine gc_cdP (ct_Border_hasGoose_B hn hT (Or.resolve_left h_84777 c_84778)) (fun r_8 qr_8 h_84779 => ?_)
    refine gc_if (fun c_84780 => ?_) (fun c_84780 => ?_)
    · have j_84781 : gb_iv 0 0 r_8 := (gb_rU (lo := 0) (hi := 0) (gb_deq c_84780) h_84779.1 (gb_ic (a := 0) (by decide)) (by decide))
      exact gc_some ⟨hT, (gb_iw (lo := (-2147483648)) (hi := 2147483647) (gb_ic (a := (-2)) (by decide)) (by decide))⟩
    · have j_84782 : gb_iv 1 1 r_8 := (gb_rN (lo := 1) (hi := 1) (v := 0) c_84780 h_84779.1 (by decide) (by decide))
      have j_84783 : gb_iv 0 7 p4 := (h_84779.2 c_84780)
      refine gc_cdP (ct_Face_nightAt hn hT) (fun r_13 qr_13 h_84784 => ?_)
      refine gc_if (fun c_84785 => ?_) (fun c_84785 => ?_)
      · refine gc_cdP (ct_Face_playedTo_B_n hn hT (Or.resolve_left h_84777 c_84778)) (fun r_18 qr_18 h_84786 => ?_)
        refine gc_if (fun c_84787 => ?_) (fun c_84787 => ?_)
        · exact gc_some ⟨hT, (gb_iw (lo := (-2147483648)) (hi := 2147483647) (gb_ic (a := (-2)) (by decide)) (by decide))⟩
        · exact (gb_em (gb_rN (lo := 1) (hi := (-1)) (v := 0) c_84787 h_84786 (by decide) (by decide)) (by decide)).elim
      · refine gc_kk (Or.resolve_left h_84784 c_84785) ?_
        refine gc_cdT (ct_Face_playedTo_B_N hn hT (Or.resolve_left h_84777 c_84778) (Or.resolve_left h_84784 c_84785)) (fun s_35 r_36 hTs_35 h_84788 => ?_)
        refine gc_if (fun c_84789 => ?_) (fun c_84789 => ?_)
        · have j_84790 : gb_iv 0 0 r_36 := (gb_rU (lo := 0) (hi := 0) (gb_deq c_84789) h_84788 (gb_ic (a := 0) (by decide)) (by decide))
          exact gc_some ⟨hTs_35, (gb_iw (lo := (-2147483648)) (hi := 2147483647) (gb_ic (a := (-2)) (by decide)) (by decide))⟩
        · have j_84791 : gb_iv 1 1 r_36 := (gb_rN (lo := 1) (hi := 1) (v := 0) c_84789 h_84788 (by decide) (by decide))
          refine gc_if (fun c_84792 => ?_) (fun c_84792 => ?_)
          · have j_84793 : gb_iv (-2147483648) 0 p5 := (gb_rU (lo := (-2147483648)) (hi := 0) (gb_deq c_84792) (gb_it _) (gb_ic (a := 0) (by decide)) (by decide))
            have j_84794 : gb_iv 0 0 p5 := (gb_rL (lo := 0) (hi := 0) (gb_deq2 c_84792) j_84793 (gb_ic (a := 0) (by decide)) (by decide))
            refine gc_ck j_84783 (by decide) ?_
            refine gc_lti (lo := (-2147483648)) (hi := 2147483647) (gb_it _) (fun x_42 ex_42 ix_42 => ?_)
            exact gc_some ⟨hTs_35, (gb_it _)⟩
          · refine gc_if (fun c_84795 => ?_) (fun c_84795 => ?_)
            · have j_84796 : gb_iv (-2147483648) 1 p5 := (gb_rU (lo := (-2147483648)) (hi := 1) (gb_deq c_84795) (gb_it _) (gb_ic (a := 1) (by decide)) (by decide))
              have j_84797 : gb_iv 1 1 p5 := (gb_rL (lo := 1) (hi := 1) (gb_deq2 c_84795) j_84796 (gb_ic (a := 1) (by decide)) (by decide))
              refine gc_ck j_84783 (by decide) ?_
              refine gc_lti (lo := (-2147483648)) (hi := 2147483647) (gb_it _) (fun x_45 ex_45 ix_45 => ?_)
              exact gc_some ⟨hTs_35, (gb_it _)⟩
            · refine gc_if (fun c_84798 => ?_) (fun c_84798 => ?_)
              · have j_84799 : gb_iv (-2147483648) 2 p5 := (gb_rU (lo := (-2147483648)) (hi := 2) (gb_deq c_84798) (gb_it _) (gb_ic (a := 2) (by decide)) (by decide))
                have j_84800 : gb_iv 2 2 p5 := (gb_rL (lo := 2) (hi := 2) (gb_deq2 c_84798) j_84799 (gb_ic (a := 2) (by decide)) (by decide))
                refine gc_ck j_84783 (by decide) ?_
                refine gc_lti (lo := (-2147483648)) (hi := 2147483647) (gb_it _) (fun x_48 ex_48 ix_48 => ?_)
                exact gc_some ⟨hTs_35, (gb_it _)⟩
              · refine gc_if (fun c_84801 => ?_) (fun c_84801 => ?_)
                · have j_84802 : gb_iv (-2147483648) 3 p5 := (gb_rU (lo := (-2147483648)) (hi := 3) (gb_deq c_84801) (gb_it _) (gb_ic (a := 3) (by decide)) (by decide))
                  have j_84803 : gb_iv 3 3 p5 := (gb_rL (lo := 3) (hi := 3) (gb_deq2 c_84801) j_84802 (gb_ic (a := 3) (by decide)) (by decide))
                  refine gc_ck j_84783 (by decide) ?_
                  refine gc_lti (lo := (-2147483648)) (hi := 2147483647) (gb_it _) (fun x_51 ex_51 ix_51 => ?_)
                  exact gc_some ⟨hTs_35, (gb_it _)⟩
                · exact gc_some ⟨hTs_35, (gb_iw (lo := (-2147483648)) (hi := 2147483647) (gb_ic (a := (-2)) (by decide)) (by decide))⟩
set_option maxHeartbeats 4000000 in
theorem ct_Face_path {n : Nat} (hn : gb_N ≤ n) {σ : gb_S} {p1 : Int32} {p2 : Int32} {p3 : Int32} {p4 : Int32} {p5 : Int32} (hT : gb_TC σ) : gb_tc (cs_Face_path n σ p1 p2 p3 p4 p5) (fun s r => gb_TC s ∧ gb_iv (-2147483648) 2147483647 r) := by
  unfold cs_Face_path
  refine gc_cdP (ct_Face_borderAt hn hT) (fun r_2 qr_2 h_84842 => ?_)
  refine gc_if (fun c_84843 => ?_) (fun c_84843 => ?_)
  · exact gc_some ⟨hT, (gb_iw (lo := (-2147483648)) (hi := 2147483647) (gb_ic (a := (-2)) (by decide)) (by decide))⟩
  · refine gc_kk (Or.resolve_left h_84842 c_84843) ?_
    refine gc_cdP (ct_Border_hasPath_B hn hT (Or.resolve_left h_84842 c_84843)) (fun r_8 qr_8 h_84844 => ?_)
    refine gc_if (fun c_84845 => ?_) (fun c_84845 => ?_)
    · have j_84846 : gb_iv 0 0 r_8 := (gb_rU (lo := 0) (hi := 0) (gb_deq c_84845) h_84844.1 (gb_ic (a := 0) (by decide)) (by decide))
      exact gc_some ⟨hT, (gb_iw (lo := (-2147483648)) (hi := 2147483647) (gb_ic (a := (-2)) (by decide)) (by decide))⟩
    · have j_84847 : gb_iv 1 1 r_8 := (gb_rN (lo := 1) (hi := 1) (v := 0) c_84845 h_84844.1 (by decide) (by decide))
      have j_84848 : gb_iv 0 4 p4 := (h_84844.2 c_84845)
      refine gc_cdP (ct_Face_nightAt hn hT) (fun r_13 qr_13 h_84849 => ?_)
      refine gc_if (fun c_84850 => ?_) (fun c_84850 => ?_)
      · refine gc_cdP (ct_Face_playedTo_B_n hn hT (Or.resolve_left h_84842 c_84843)) (fun r_18 qr_18 h_84851 => ?_)
        refine gc_if (fun c_84852 => ?_) (fun c_84852 => ?_)
        · exact gc_some ⟨hT, (gb_iw (lo := (-2147483648)) (hi := 2147483647) (gb_ic (a := (-2)) (by decide)) (by decide))⟩
        · exact (gb_em (gb_rN (lo := 1) (hi := (-1)) (v := 0) c_84852 h_84851 (by decide) (by decide)) (by decide)).elim
      · refine gc_kk (Or.resolve_left h_84849 c_84850) ?_
        refine gc_cdT (ct_Face_playedTo_B_N hn hT (Or.resolve_left h_84842 c_84843) (Or.resolve_left h_84849 c_84850)) (fun s_55 r_56 hTs_55 h_84853 => ?_)
        refine gc_if (fun c_84854 => ?_) (fun c_84854 => ?_)
        · have j_84855 : gb_iv 0 0 r_56 := (gb_rU (lo := 0) (hi := 0) (gb_deq c_84854) h_84853 (gb_ic (a := 0) (by decide)) (by decide))
          exact gc_some ⟨hTs_55, (gb_iw (lo := (-2147483648)) (hi := 2147483647) (gb_ic (a := (-2)) (by decide)) (by decide))⟩
        · have j_84856 : gb_iv 1 1 r_56 := (gb_rN (lo := 1) (hi := 1) (v := 0) c_84854 h_84853 (by decide) (by decide))
          refine gc_if (fun c_84857 => ?_) (fun c_84857 => ?_)
          · have j_84858 : gb_iv (-2147483648) 0 p5 := (gb_rU (lo := (-2147483648)) (hi := 0) (gb_deq c_84857) (gb_it _) (gb_ic (a := 0) (by decide)) (by decide))
            have j_84859 : gb_iv 0 0 p5 := (gb_rL (lo := 0) (hi := 0) (gb_deq2 c_84857) j_84858 (gb_ic (a := 0) (by decide)) (by decide))
            refine gc_ck j_84848 (by decide) ?_
            refine gc_lti (lo := (-2147483648)) (hi := 2147483647) (gb_it _) (fun x_62 ex_62 ix_62 => ?_)
            exact gc_some ⟨hTs_55, (gb_it _)⟩
          · refine gc_if (fun c_84860 => ?_) (fun c_84860 => ?_)
            · have j_84861 : gb_iv (-2147483648) 1 p5 := (gb_rU (lo := (-2147483648)) (hi := 1) (gb_deq c_84860) (gb_it _) (gb_ic (a := 1) (by decide)) (by decide))
              have j_84862 : gb_iv 1 1 p5 := (gb_rL (lo := 1) (hi := 1) (gb_deq2 c_84860) j_84861 (gb_ic (a := 1) (by decide)) (by decide))
              refine gc_ck j_84848 (by decide) ?_
              refine gc_lti (lo := (-2147483648)) (hi := 2147483647) (gb_it _) (fun x_65 ex_65 ix_65 => ?_)
              exact gc_some ⟨hTs_55, (gb_it _)⟩
            · refine gc_if (fun c_84863 => ?_) (fun c_84863 => ?_)
              · have j_84864 : gb_iv (-2147483648) 2 p5 := (gb_rU (lo := (-2147483648)) (hi := 2) (gb_deq c_84863) (gb_it _) (gb_ic (a := 2) (by decide)) (by decide))
                have j_84865 : gb_iv 2 2 p5 := (gb_rL (lo := 2) (hi := 2) (gb_deq2 c_84863) j_84864 (gb_ic (a := 2) (by decide)) (by decide))
                refine gc_cdP (ct_Play_tally hn hTs_55 j_84848) (fun r_68 qr_68 h_84866 => ?_)
                exact gc_some ⟨hTs_55, (gb_iw (lo := (-2147483648)) (hi := 2147483647) h_84866 (by decide))⟩
              · refine gc_if (fun c_84867 => ?_) (fun c_84867 => ?_)
                · have j_84868 : gb_iv (-2147483648) 3 p5 := (gb_rU (lo := (-2147483648)) (hi := 3) (gb_deq c_84867) (gb_it _) (gb_ic (a := 3) (by decide)) (by decide))
                  have j_84869 : gb_iv 3 3 p5 := (gb_rL (lo := 3) (hi := 3) (gb_deq2 c_84867) j_84868 (gb_ic (a := 3) (by decide)) (by decide))
                  refine gc_cdP (ct_Play_tally hn hTs_55 j_84848) (fun r_73 qr_73 h_84870 => ?_)
                  refine gc_cdP (ct_Border_padded_B hn hTs_55 (Or.resolve_left h_84842 c_84843) j_84848) (fun r_77 qr_77 h_84871 => ?_)
                  exact gc_some ⟨hTs_55, (gb_it _)⟩
                · refine gc_if (fun c_84872 => ?_) (fun c_84872 => ?_)
                  · have j_84873 : gb_iv (-2147483648) 4 p5 := (gb_rU (lo := (-2147483648)) (hi := 4) (gb_deq c_84872) (gb_it _) (gb_ic (a := 4) (by decide)) (by decide))
                    have j_84874 : gb_iv 4 4 p5 := (gb_rL (lo := 4) (hi := 4) (gb_deq2 c_84872) j_84873 (gb_ic (a := 4) (by decide)) (by decide))
                    refine gc_cdP (ct_Play_tally hn hTs_55 j_84848) (fun r_82 qr_82 h_84875 => ?_)
                    refine gc_cdP (ct_Border_payOf_B hn hTs_55 (Or.resolve_left h_84842 c_84843) j_84848) (fun r_86 qr_86 h_84876 => ?_)
                    exact gc_some ⟨hTs_55, (gb_it _)⟩
                  · refine gc_if (fun c_84877 => ?_) (fun c_84877 => ?_)
                    · have j_84878 : gb_iv (-2147483648) 5 p5 := (gb_rU (lo := (-2147483648)) (hi := 5) (gb_deq c_84877) (gb_it _) (gb_ic (a := 5) (by decide)) (by decide))
                      have j_84879 : gb_iv 5 5 p5 := (gb_rL (lo := 5) (hi := 5) (gb_deq2 c_84877) j_84878 (gb_ic (a := 5) (by decide)) (by decide))
                      refine gc_ck j_84848 (by decide) ?_
                      refine gc_lti (lo := (-2147483648)) (hi := 2147483647) (gb_it _) (fun x_91 ex_91 ix_91 => ?_)
                      exact gc_some ⟨hTs_55, (gb_it _)⟩
                    · exact gc_some ⟨hTs_55, (gb_iw (lo := (-2147483648)) (hi := 2147483647) (gb_ic (a := (-2)) (by decide)) (by decide))⟩
set_option maxHeartbeats 4000000 in
theorem ct_Face_state {n : Nat} (hn : gb_N ≤ n) {σ : gb_S} {p1 : Int32} {p2 : Int32} {p3 : Int32} {p4 : Int32} (hT : gb_TC σ) : gb_tc (cs_Face_state n σ p1 p2 p3 p4) (fun s r => gb_TC s ∧ gb_iv (-2147483648) 2147483647 r) := by
  unfold cs_Face_state
  refine gc_cdP (ct_Face_borderAt hn hT) (fun r_2 qr_2 h_84931 => ?_)
  refine gc_if (fun c_84932 => ?_) (fun c_84932 => ?_)
  · exact gc_some ⟨hT, (gb_iw (lo := (-2147483648)) (hi := 2147483647) (gb_ic (a := (-2)) (by decide)) (by decide))⟩
  · refine gc_kk (Or.resolve_left h_84931 c_84932) ?_
    refine gc_cdP (ct_Face_nightAt hn hT) (fun r_8 qr_8 h_84933 => ?_)
    refine gc_if (fun c_84934 => ?_) (fun c_84934 => ?_)
    · refine gc_cdP (ct_Face_playedTo_B_n hn hT (Or.resolve_left h_84931 c_84932)) (fun r_13 qr_13 h_84935 => ?_)
      refine gc_if (fun c_84936 => ?_) (fun c_84936 => ?_)
      · exact gc_some ⟨hT, (gb_iw (lo := (-2147483648)) (hi := 2147483647) (gb_ic (a := (-2)) (by decide)) (by decide))⟩
      · exact (gb_em (gb_rN (lo := 1) (hi := (-1)) (v := 0) c_84936 h_84935 (by decide) (by decide)) (by decide)).elim
    · refine gc_kk (Or.resolve_left h_84933 c_84934) ?_
      refine gc_cdT (ct_Face_playedTo_B_N hn hT (Or.resolve_left h_84931 c_84932) (Or.resolve_left h_84933 c_84934)) (fun s_72 r_73 hTs_72 h_84937 => ?_)
      refine gc_if (fun c_84938 => ?_) (fun c_84938 => ?_)
      · have j_84939 : gb_iv 0 0 r_73 := (gb_rU (lo := 0) (hi := 0) (gb_deq c_84938) h_84937 (gb_ic (a := 0) (by decide)) (by decide))
        exact gc_some ⟨hTs_72, (gb_iw (lo := (-2147483648)) (hi := 2147483647) (gb_ic (a := (-2)) (by decide)) (by decide))⟩
      · have j_84940 : gb_iv 1 1 r_73 := (gb_rN (lo := 1) (hi := 1) (v := 0) c_84938 h_84937 (by decide) (by decide))
        refine gc_if (fun c_84941 => ?_) (fun c_84941 => ?_)
        · have j_84942 : gb_iv (-2147483648) 0 p4 := (gb_rU (lo := (-2147483648)) (hi := 0) (gb_deq c_84941) (gb_it _) (gb_ic (a := 0) (by decide)) (by decide))
          have j_84943 : gb_iv 0 0 p4 := (gb_rL (lo := 0) (hi := 0) (gb_deq2 c_84941) j_84942 (gb_ic (a := 0) (by decide)) (by decide))
          refine gc_cdP (ct_Play_whoIs hn hTs_72) (fun r_79 qr_79 h_84944 => ?_)
          exact gc_some ⟨hTs_72, (gb_iw (lo := (-2147483648)) (hi := 2147483647) h_84944 (by decide))⟩
        · refine gc_if (fun c_84945 => ?_) (fun c_84945 => ?_)
          · have j_84946 : gb_iv (-2147483648) 1 p4 := (gb_rU (lo := (-2147483648)) (hi := 1) (gb_deq c_84945) (gb_it _) (gb_ic (a := 1) (by decide)) (by decide))
            have j_84947 : gb_iv 1 1 p4 := (gb_rL (lo := 1) (hi := 1) (gb_deq2 c_84945) j_84946 (gb_ic (a := 1) (by decide)) (by decide))
            refine gc_cdP (ct_Play_whoIs hn hTs_72) (fun r_84 qr_84 h_84948 => ?_)
            exact gc_some ⟨hTs_72, (gb_iw (lo := (-2147483648)) (hi := 2147483647) h_84948 (by decide))⟩
          · refine gc_if (fun c_84949 => ?_) (fun c_84949 => ?_)
            · have j_84950 : gb_iv (-2147483648) 2 p4 := (gb_rU (lo := (-2147483648)) (hi := 2) (gb_deq c_84949) (gb_it _) (gb_ic (a := 2) (by decide)) (by decide))
              have j_84951 : gb_iv 2 2 p4 := (gb_rL (lo := 2) (hi := 2) (gb_deq2 c_84949) j_84950 (gb_ic (a := 2) (by decide)) (by decide))
              refine gc_cdP (ct_Play_whoIs hn hTs_72) (fun r_89 qr_89 h_84952 => ?_)
              exact gc_some ⟨hTs_72, (gb_iw (lo := (-2147483648)) (hi := 2147483647) h_84952 (by decide))⟩
            · refine gc_if (fun c_84953 => ?_) (fun c_84953 => ?_)
              · have j_84954 : gb_iv (-2147483648) 3 p4 := (gb_rU (lo := (-2147483648)) (hi := 3) (gb_deq c_84953) (gb_it _) (gb_ic (a := 3) (by decide)) (by decide))
                have j_84955 : gb_iv 3 3 p4 := (gb_rL (lo := 3) (hi := 3) (gb_deq2 c_84953) j_84954 (gb_ic (a := 3) (by decide)) (by decide))
                refine gc_cdP (ct_Play_whoIs hn hTs_72) (fun r_94 qr_94 h_84956 => ?_)
                refine gc_cdP (ct_Border_worthOf_B hn hTs_72 (Or.resolve_left h_84931 c_84932)) (fun r_98 qr_98 h_84957 => ?_)
                exact gc_some ⟨hTs_72, (gb_it _)⟩
              · refine gc_if (fun c_84958 => ?_) (fun c_84958 => ?_)
                · have j_84959 : gb_iv (-2147483648) 4 p4 := (gb_rU (lo := (-2147483648)) (hi := 4) (gb_deq c_84958) (gb_it _) (gb_ic (a := 4) (by decide)) (by decide))
                  have j_84960 : gb_iv 4 4 p4 := (gb_rL (lo := 4) (hi := 4) (gb_deq2 c_84958) j_84959 (gb_ic (a := 4) (by decide)) (by decide))
                  refine gc_cdP (ct_Play_whoIs hn hTs_72) (fun r_103 qr_103 h_84961 => ?_)
                  refine gc_cdP (ct_Border_worthOf_B hn hTs_72 (Or.resolve_left h_84931 c_84932)) (fun r_107 qr_107 h_84962 => ?_)
                  exact gc_some ⟨hTs_72, (gb_it _)⟩
                · refine gc_if (fun c_84963 => ?_) (fun c_84963 => ?_)
                  · have j_84964 : gb_iv (-2147483648) 5 p4 := (gb_rU (lo := (-2147483648)) (hi := 5) (gb_deq c_84963) (gb_it _) (gb_ic (a := 5) (by decide)) (by decide))
                    have j_84965 : gb_iv 5 5 p4 := (gb_rL (lo := 5) (hi := 5) (gb_deq2 c_84963) j_84964 (gb_ic (a := 5) (by decide)) (by decide))
                    refine gc_cdP (ct_Play_whoIs hn hTs_72) (fun r_112 qr_112 h_84966 => ?_)
                    refine gc_cdP (ct_Border_worthOf_B hn hTs_72 (Or.resolve_left h_84931 c_84932)) (fun r_116 qr_116 h_84967 => ?_)
                    exact gc_some ⟨hTs_72, (gb_it _)⟩
                  · refine gc_if (fun c_84968 => ?_) (fun c_84968 => ?_)
                    · have j_84969 : gb_iv (-2147483648) 6 p4 := (gb_rU (lo := (-2147483648)) (hi := 6) (gb_deq c_84968) (gb_it _) (gb_ic (a := 6) (by decide)) (by decide))
                      have j_84970 : gb_iv 6 6 p4 := (gb_rL (lo := 6) (hi := 6) (gb_deq2 c_84968) j_84969 (gb_ic (a := 6) (by decide)) (by decide))
                      refine gc_cdP (ct_Play_worn hn hTs_72) (fun r_121 qr_121 h_84971 => ?_)
                      exact gc_some ⟨hTs_72, (gb_iw (lo := (-2147483648)) (hi := 2147483647) h_84971 (by decide))⟩
                    · refine gc_if (fun c_84972 => ?_) (fun c_84972 => ?_)
                      · have j_84973 : gb_iv (-2147483648) 7 p4 := (gb_rU (lo := (-2147483648)) (hi := 7) (gb_deq c_84972) (gb_it _) (gb_ic (a := 7) (by decide)) (by decide))
                        have j_84974 : gb_iv 7 7 p4 := (gb_rL (lo := 7) (hi := 7) (gb_deq2 c_84972) j_84973 (gb_ic (a := 7) (by decide)) (by decide))
                        refine gc_cdP (ct_Play_allPay hn hTs_72) (fun r_126 qr_126 h_84975 => ?_)
                        exact gc_some ⟨hTs_72, (gb_it _)⟩
                      · refine gc_if (fun c_84976 => ?_) (fun c_84976 => ?_)
                        · have j_84977 : gb_iv (-2147483648) 8 p4 := (gb_rU (lo := (-2147483648)) (hi := 8) (gb_deq c_84976) (gb_it _) (gb_ic (a := 8) (by decide)) (by decide))
                          have j_84978 : gb_iv 8 8 p4 := (gb_rL (lo := 8) (hi := 8) (gb_deq2 c_84976) j_84977 (gb_ic (a := 8) (by decide)) (by decide))
                          refine gc_if (fun c_84979 => ?_) (fun c_84979 => ?_)
                          · have j_84980 : gb_iv (-2147483648) 0 (s_72.1 109 10) := (gb_rU (lo := (-2147483648)) (hi := 0) (gb_deq c_84979) (gb_it _) (gb_ic (a := 0) (by decide)) (by decide))
                            have j_84981 : gb_iv 0 0 (s_72.1 109 10) := (gb_rL (lo := 0) (hi := 0) (gb_deq2 c_84979) j_84980 (gb_ic (a := 0) (by decide)) (by decide))
                            exact gc_some ⟨hTs_72, (gb_iw (lo := (-2147483648)) (hi := 2147483647) (gb_ic (a := 0) (by decide)) (by decide))⟩
                          · exact gc_some ⟨hTs_72, (gb_iw (lo := (-2147483648)) (hi := 2147483647) (gb_ic (a := 1) (by decide)) (by decide))⟩
                        · exact gc_some ⟨hTs_72, (gb_iw (lo := (-2147483648)) (hi := 2147483647) (gb_ic (a := (-2)) (by decide)) (by decide))⟩
set_option maxHeartbeats 4000000 in
theorem ct_Face_rest_49 {n : Nat} (hn : gb_N ≤ n) {Q : gb_S → Int32 → Prop} (hret : ∀ (σ : gb_S) (r : Int32), gb_TC σ → gb_iv (-2147483648) 2147483647 r → Q σ r) : ∀ (mm : Nat) (σ : gb_S) (v3 : Int32) (v5 : Int32) (v6 : Int32) (v7 : Int32), gb_TC σ → gb_iv (-1) 2147483647 v3 → gb_iv 1 32 v5 → gb_iv (-2147483648) 2147483647 v6 → gb_iv 0 32 v7 → (32 - v7.toInt).toNat < mm → gb_tc (cs_Face_rest_49 n mm σ v3 v5 v6 v7) Q := by
  intro mm
  induction mm with
  | zero =>
    intro σ v3 v5 v6 v7 hT iv3 iv5 iv6 iv7 hm
    exact absurd hm (Nat.not_lt_zero _)
  | succ mm ih =>
    intro σ v3 v5 v6 v7 hT iv3 iv5 iv6 iv7 hm
    rw [cs_Face_rest_49]
    refine gc_if (fun c_85920 => ?_) (fun c_85920 => ?_)
    · have j_85921 : gb_iv 1 32 v7 := (gb_rL (lo := 1) (hi := 32) (gb_dle c_85920) iv7 iv5 (by decide))
      refine gc_if (fun c_85922 => ?_) (fun c_85922 => ?_)
      · have j_85923 : gb_iv (-1) (-1) v3 := (gb_rU (lo := (-1)) (hi := (-1)) (gb_deq c_85922) iv3 (gb_ic (a := (-1)) (by decide)) (by decide))
        exact gc_some (hret _ _ hT (gb_it _))
      · have j_85924 : gb_iv 0 2147483647 v3 := (gb_rN (lo := 0) (hi := 2147483647) (v := (-1)) c_85922 iv3 (by decide) (by decide))
        exact gc_some (hret _ _ hT (gb_iw (lo := (-2147483648)) (hi := 2147483647) (gb_ic (a := (-2)) (by decide)) (by decide)))
    · have j_85925 : gb_iv 0 31 v7 := (gb_rU (lo := 0) (hi := 31) (gb_dnle c_85920) iv7 iv5 (by decide))
      refine gc_cdP (ct_Play_isAtRest hn hT) (fun r_27 qr_27 h_85926 => ?_)
      refine gc_if (fun c_85927 => ?_) (fun c_85927 => ?_)
      · have j_85928 : gb_iv 0 0 r_27 := (gb_rU (lo := 0) (hi := 0) (gb_deq c_85927) h_85926 (gb_ic (a := 0) (by decide)) (by decide))
        refine gc_lti (lo := 1) (hi := 32) (gb_iadd (lo := 1) (hi := 32) j_85925 (gb_ic (a := 1) (by decide)) (by decide)) (fun x_31 ex_31 ix_31 => ?_)
        exact ih _ _ _ _ _ hT iv3 iv5 (gb_it _) (gb_iw (lo := 0) (hi := 32) ix_31 (by decide)) (gb_mup ex_31 j_85925 (by decide) hm)
      · have j_85929 : gb_iv 1 1 r_27 := (gb_rN (lo := 1) (hi := 1) (v := 0) c_85927 h_85926 (by decide) (by decide))
        refine gc_if (fun c_85930 => ?_) (fun c_85930 => ?_)
        · have j_85931 : gb_iv (-1) 2147483647 v6 := (gb_rL (lo := (-1)) (hi := 2147483647) (gb_deq2 c_85930) (gb_it _) iv3 (by decide))
          exact gc_some (hret _ _ hT (gb_iw (lo := (-2147483648)) (hi := 2147483647) j_85925 (by decide)))
        · refine gc_lti (lo := (-2147483648)) (hi := 2147483647) (gb_it _) (fun x_33 ex_33 ix_33 => ?_)
          refine gc_lti (lo := 1) (hi := 32) (gb_iadd (lo := 1) (hi := 32) j_85925 (gb_ic (a := 1) (by decide)) (by decide)) (fun x_34 ex_34 ix_34 => ?_)
          exact ih _ _ _ _ _ hT iv3 iv5 (gb_it _) (gb_iw (lo := 0) (hi := 32) ix_34 (by decide)) (gb_mup ex_34 j_85925 (by decide) hm)
set_option maxHeartbeats 4000000 in
theorem ct_Face_rest {n : Nat} (hn : gb_N ≤ n) {σ : gb_S} {p1 : Int32} {p2 : Int32} {p3 : Int32} (hT : gb_TC σ) : gb_tc (cs_Face_rest n σ p1 p2 p3) (fun s r => gb_TC s ∧ gb_iv (-2147483648) 2147483647 r) := by
  unfold cs_Face_rest
  refine gc_cdP (ct_Face_borderAt hn hT) (fun r_2 qr_2 h_85451 => ?_)
  refine gc_if (fun c_85452 => ?_) (fun c_85452 => ?_)
  · refine gc_if (fun c_85453 => ?_) (fun c_85453 => ?_)
    · have j_85454 : gb_iv (-2147483648) (-2) p3 := (gb_rU (lo := (-2147483648)) (hi := (-2)) (gb_dlt c_85453) (gb_it _) (gb_ic (a := (-1)) (by decide)) (by decide))
      exact gc_some ⟨hT, (gb_iw (lo := (-2147483648)) (hi := 2147483647) (gb_ic (a := (-2)) (by decide)) (by decide))⟩
    · have j_85455 : gb_iv (-1) 2147483647 p3 := (gb_rL (lo := (-1)) (hi := 2147483647) (gb_dnlt c_85453) (gb_it _) (gb_ic (a := (-1)) (by decide)) (by decide))
      exact gc_some ⟨hT, (gb_iw (lo := (-2147483648)) (hi := 2147483647) (gb_ic (a := (-2)) (by decide)) (by decide))⟩
  · refine gc_kk (Or.resolve_left h_85451 c_85452) ?_
    refine gc_if (fun c_85456 => ?_) (fun c_85456 => ?_)
    · have j_85457 : gb_iv (-2147483648) (-2) p3 := (gb_rU (lo := (-2147483648)) (hi := (-2)) (gb_dlt c_85456) (gb_it _) (gb_ic (a := (-1)) (by decide)) (by decide))
      exact gc_some ⟨hT, (gb_iw (lo := (-2147483648)) (hi := 2147483647) (gb_ic (a := (-2)) (by decide)) (by decide))⟩
    · have j_85458 : gb_iv (-1) 2147483647 p3 := (gb_rL (lo := (-1)) (hi := 2147483647) (gb_dnlt c_85456) (gb_it _) (gb_ic (a := (-1)) (by decide)) (by decide))
      refine gc_cdP (ct_Face_nightAt hn hT) (fun r_10 qr_10 h_85459 => ?_)
      refine gc_if (fun c_85460 => ?_) (fun c_85460 => ?_)
      · refine gc_cdP (ct_Face_playedOut_B_n hn hT (Or.resolve_left h_85451 c_85452)) (fun r_15 qr_15 h_85461 => ?_)
        refine gc_if (fun c_85462 => ?_) (fun c_85462 => ?_)
        · exact gc_some ⟨hT, (gb_iw (lo := (-2147483648)) (hi := 2147483647) (gb_ic (a := (-2)) (by decide)) (by decide))⟩
        · exact (gb_em (gb_rN (lo := 1) (hi := (-1)) (v := 0) c_85462 h_85461 (by decide) (by decide)) (by decide)).elim
      · refine gc_kk (Or.resolve_left h_85459 c_85460) ?_
        refine gc_cdT (ct_Face_playedOut_B_N hn hT (Or.resolve_left h_85451 c_85452) (Or.resolve_left h_85459 c_85460)) (fun s_36 r_37 hTs_36 h_85463 => ?_)
        refine gc_if (fun c_85464 => ?_) (fun c_85464 => ?_)
        · exact (gb_em (gb_rU (lo := 1) (hi := 0) (gb_deq c_85464) h_85463 (gb_ic (a := 0) (by decide)) (by decide)) (by decide)).elim
        · refine gc_cdP (ct_Border_paths_B hn hTs_36 (Or.resolve_left h_85451 c_85452)) (fun r_42 qr_42 h_85465 => ?_)
          refine gc_lti (lo := 1) (hi := 32) (gb_ishl (lo := 1) (hi := 32) h_85465 (by decide)) (fun x_45 ex_45 ix_45 => ?_)
          exact ct_Face_rest_49 hn (fun _ _ hT h => ⟨hT, h⟩) n _ _ _ _ _ hTs_36 j_85458 ix_45 (gb_iw (lo := (-2147483648)) (hi := 2147483647) (gb_ic (a := 0) (by decide)) (by decide)) (gb_iw (lo := 0) (hi := 32) (gb_ic (a := 0) (by decide)) (by decide)) (gb_fuu hn (gb_iw (lo := 0) (hi := 32) (gb_ic (a := 0) (by decide)) (by decide)) (by decide))
set_option maxHeartbeats 4000000 in
theorem ct_Face_take {n : Nat} (hn : gb_N ≤ n) {σ : gb_S} {p1 : Int32} {p2 : Int32} {p3 : Int32} {p4 : Int32} (hT : gb_TC σ) : gb_tc (cs_Face_take n σ p1 p2 p3 p4) (fun s r => gb_TC s ∧ gb_iv (-2147483648) 2147483647 r) := by
  unfold cs_Face_take
  refine gc_cdP (ct_Face_borderAt hn hT) (fun r_2 qr_2 h_85953 => ?_)
  refine gc_if (fun c_85954 => ?_) (fun c_85954 => ?_)
  · exact gc_some ⟨hT, (gb_iw (lo := (-2147483648)) (hi := 2147483647) (gb_ic (a := (-1)) (by decide)) (by decide))⟩
  · refine gc_kk (Or.resolve_left h_85953 c_85954) ?_
    refine gc_cdP (ct_Border_hasPath_B hn hT (Or.resolve_left h_85953 c_85954)) (fun r_8 qr_8 h_85955 => ?_)
    refine gc_if (fun c_85956 => ?_) (fun c_85956 => ?_)
    · have j_85957 : gb_iv 0 0 r_8 := (gb_rU (lo := 0) (hi := 0) (gb_deq c_85956) h_85955.1 (gb_ic (a := 0) (by decide)) (by decide))
      exact gc_some ⟨hT, (gb_iw (lo := (-2147483648)) (hi := 2147483647) (gb_ic (a := (-1)) (by decide)) (by decide))⟩
    · have j_85958 : gb_iv 1 1 r_8 := (gb_rN (lo := 1) (hi := 1) (v := 0) c_85956 h_85955.1 (by decide) (by decide))
      have j_85959 : gb_iv 0 4 p4 := (h_85955.2 c_85956)
      refine gc_if (fun c_85960 => ?_) (fun c_85960 => ?_)
      · have j_85961 : gb_iv (-2147483648) (-1) p3 := (gb_rU (lo := (-2147483648)) (hi := (-1)) (gb_dlt c_85960) (gb_it _) (gb_ic (a := 0) (by decide)) (by decide))
        exact gc_some ⟨hT, (gb_iw (lo := (-2147483648)) (hi := 2147483647) (gb_ic (a := (-1)) (by decide)) (by decide))⟩
      · have j_85962 : gb_iv 0 2147483647 p3 := (gb_rL (lo := 0) (hi := 2147483647) (gb_dnlt c_85960) (gb_it _) (gb_ic (a := 0) (by decide)) (by decide))
        refine gc_cdP (ct_Border_paths_B hn hT (Or.resolve_left h_85953 c_85954)) (fun r_14 qr_14 h_85963 => ?_)
        refine gc_if (fun c_85964 => ?_) (fun c_85964 => ?_)
        · have j_85965 : gb_iv 0 31 p3 := (gb_rU (lo := 0) (hi := 31) (gb_dlt c_85964) j_85962 (gb_ishl (lo := 1) (hi := 32) h_85963 (by decide)) (by decide))
          refine gc_cdP (ct_Face_nightAt hn hT) (fun r_19 qr_19 h_85966 => ?_)
          refine gc_if (fun c_85967 => ?_) (fun c_85967 => ?_)
          · refine gc_cdP (ct_Face_playedOut_B_n hn hT (Or.resolve_left h_85953 c_85954)) (fun r_24 qr_24 h_85968 => ?_)
            refine gc_if (fun c_85969 => ?_) (fun c_85969 => ?_)
            · exact gc_some ⟨hT, (gb_iw (lo := (-2147483648)) (hi := 2147483647) (gb_ic (a := (-1)) (by decide)) (by decide))⟩
            · exact (gb_em (gb_rN (lo := 1) (hi := (-1)) (v := 0) c_85969 h_85968 (by decide) (by decide)) (by decide)).elim
          · refine gc_kk (Or.resolve_left h_85966 c_85967) ?_
            refine gc_cdT (ct_Face_playedOut_B_N hn hT (Or.resolve_left h_85953 c_85954) (Or.resolve_left h_85966 c_85967)) (fun s_33 r_34 hTs_33 h_85970 => ?_)
            refine gc_if (fun c_85971 => ?_) (fun c_85971 => ?_)
            · exact (gb_em (gb_rU (lo := 1) (hi := 0) (gb_deq c_85971) h_85970 (gb_ic (a := 0) (by decide)) (by decide)) (by decide)).elim
            · refine gc_cdP (ct_Play_taken hn hTs_33 j_85959) (fun r_39 qr_39 h_85972 => ?_)
              exact gc_some ⟨hTs_33, (gb_it _)⟩
        · have j_85973 : gb_iv 1 2147483647 p3 := (gb_rL (lo := 1) (hi := 2147483647) (gb_dnlt c_85964) j_85962 (gb_ishl (lo := 1) (hi := 32) h_85963 (by decide)) (by decide))
          exact gc_some ⟨hT, (gb_iw (lo := (-2147483648)) (hi := 2147483647) (gb_ic (a := (-1)) (by decide)) (by decide))⟩
set_option maxHeartbeats 4000000 in
theorem ct_Face_honest {n : Nat} (hn : gb_N ≤ n) {σ : gb_S} {p1 : Int32} {p2 : Int32} {p3 : Int32} (hT : gb_TC σ) : gb_tc (cs_Face_honest n σ p1 p2 p3) (fun s r => gb_TC s ∧ gb_iv (-2147483648) 2147483647 r) := by
  unfold cs_Face_honest
  refine gc_cdP (ct_Face_borderAt hn hT) (fun r_2 qr_2 h_85990 => ?_)
  refine gc_if (fun c_85991 => ?_) (fun c_85991 => ?_)
  · exact gc_some ⟨hT, (gb_iw (lo := (-2147483648)) (hi := 2147483647) (gb_ic (a := (-1)) (by decide)) (by decide))⟩
  · refine gc_kk (Or.resolve_left h_85990 c_85991) ?_
    refine gc_cdP (ct_Border_hasPath_B hn hT (Or.resolve_left h_85990 c_85991)) (fun r_8 qr_8 h_85992 => ?_)
    refine gc_if (fun c_85993 => ?_) (fun c_85993 => ?_)
    · have j_85994 : gb_iv 0 0 r_8 := (gb_rU (lo := 0) (hi := 0) (gb_deq c_85993) h_85992.1 (gb_ic (a := 0) (by decide)) (by decide))
      exact gc_some ⟨hT, (gb_iw (lo := (-2147483648)) (hi := 2147483647) (gb_ic (a := (-1)) (by decide)) (by decide))⟩
    · have j_85995 : gb_iv 1 1 r_8 := (gb_rN (lo := 1) (hi := 1) (v := 0) c_85993 h_85992.1 (by decide) (by decide))
      have j_85996 : gb_iv 0 4 p3 := (h_85992.2 c_85993)
      refine gc_cdP (ct_Face_nightAt hn hT) (fun r_13 qr_13 h_85997 => ?_)
      refine gc_if (fun c_85998 => ?_) (fun c_85998 => ?_)
      · refine gc_cdP (ct_Face_playedOut_B_n hn hT (Or.resolve_left h_85990 c_85991)) (fun r_18 qr_18 h_85999 => ?_)
        refine gc_if (fun c_86000 => ?_) (fun c_86000 => ?_)
        · exact gc_some ⟨hT, (gb_iw (lo := (-2147483648)) (hi := 2147483647) (gb_ic (a := (-1)) (by decide)) (by decide))⟩
        · exact (gb_em (gb_rN (lo := 1) (hi := (-1)) (v := 0) c_86000 h_85999 (by decide) (by decide)) (by decide)).elim
      · refine gc_kk (Or.resolve_left h_85997 c_85998) ?_
        refine gc_cdT (ct_Face_playedOut_B_N hn hT (Or.resolve_left h_85990 c_85991) (Or.resolve_left h_85997 c_85998)) (fun s_35 r_36 hTs_35 h_86001 => ?_)
        refine gc_if (fun c_86002 => ?_) (fun c_86002 => ?_)
        · exact (gb_em (gb_rU (lo := 1) (hi := 0) (gb_deq c_86002) h_86001 (gb_ic (a := 0) (by decide)) (by decide)) (by decide)).elim
        · refine gc_cdP (ct_Play_tally hn hTs_35 j_85996) (fun r_41 qr_41 h_86003 => ?_)
          refine gc_cdP (ct_Border_payOf_B hn hTs_35 (Or.resolve_left h_85990 c_85991) j_85996) (fun r_45 qr_45 h_86004 => ?_)
          refine gc_cdP (ct_Border_rate_B hn hTs_35 (Or.resolve_left h_85990 c_85991) j_85996) (fun r_49 qr_49 h_86005 => ?_)
          exact gc_some ⟨hTs_35, (gb_it _)⟩
set_option maxHeartbeats 4000000 in
theorem ct_Face_lacks_46 {n : Nat} (hn : gb_N ≤ n) {Q : gb_S → Int32 → Prop} (hret : ∀ (σ : gb_S) (r : Int32), gb_TC σ → gb_iv (-1) 255 r → Q σ r) : ∀ (mm : Nat) (σ : gb_S) (v4 : Nat) (v5 : Nat) (v6 : Int32) (v7 : Int32), gb_TC σ → gb_kB v4 = true → gb_kD v5 = true → gb_iv 0 255 v6 → gb_iv 0 5 v7 → (5 - v7.toInt).toNat < mm → gb_tc (cs_Face_lacks_46 n mm σ v4 v5 v6 v7) Q := by
  intro mm
  induction mm with
  | zero =>
    intro σ v4 v5 v6 v7 hT hv4 hv5 iv6 iv7 hm
    exact absurd hm (Nat.not_lt_zero _)
  | succ mm ih =>
    intro σ v4 v5 v6 v7 hT hv4 hv5 iv6 iv7 hm
    rw [cs_Face_lacks_46]
    refine gc_kk hv4 ?_
    refine gc_kk hv5 ?_
    refine gc_cdP (ct_Border_paths_B hn hT hv4) (fun r_32 qr_32 h_86264 => ?_)
    refine gc_if (fun c_86265 => ?_) (fun c_86265 => ?_)
    · exact gc_some (hret _ _ hT (gb_iw (lo := (-1)) (hi := 255) iv6 (by decide)))
    · have j_86266 : gb_iv 0 4 v7 := (gb_rU (lo := 0) (hi := 4) (gb_dnle c_86265) iv7 h_86264 (by decide))
      have j_86267 : gb_iv 1 5 r_32 := (gb_rL (lo := 1) (hi := 5) (gb_dnle c_86265) h_86264 j_86266 (by decide))
      refine gc_cdP (ct_Dawn_leftOn_D hn hT hv5) (fun r_37 qr_37 h_86268 => ?_)
      refine gc_cdP (ct_Play_tally hn hT j_86266) (fun r_41 qr_41 h_86269 => ?_)
      refine gc_if (fun c_86270 => ?_) (fun c_86270 => ?_)
      · have j_86271 : gb_iv 0 2147483647 r_37 := (gb_rL (lo := 0) (hi := 2147483647) (gb_dle c_86270) (gb_it _) h_86269 (by decide))
        refine gc_lti (lo := 1) (hi := 5) (gb_iadd (lo := 1) (hi := 5) j_86266 (gb_ic (a := 1) (by decide)) (by decide)) (fun x_45 ex_45 ix_45 => ?_)
        exact ih _ _ _ _ _ hT hv4 hv5 iv6 (gb_iw (lo := 0) (hi := 5) ix_45 (by decide)) (gb_mup ex_45 j_86266 (by decide) hm)
      · have j_86272 : gb_iv (-2147483648) 2147483646 r_37 := (gb_rU (lo := (-2147483648)) (hi := 2147483646) (gb_dnle c_86270) (gb_it _) h_86269 (by decide))
        refine gc_lti (lo := 0) (hi := 255) (gb_ior iv6 (gb_iw (lo := 0) (hi := 255) (gb_ishl (lo := 1) (hi := 16) j_86266 (by decide)) (by decide))) (fun x_46 ex_46 ix_46 => ?_)
        refine gc_lti (lo := 1) (hi := 5) (gb_iadd (lo := 1) (hi := 5) j_86266 (gb_ic (a := 1) (by decide)) (by decide)) (fun x_47 ex_47 ix_47 => ?_)
        exact ih _ _ _ _ _ hT hv4 hv5 ix_46 (gb_iw (lo := 0) (hi := 5) ix_47 (by decide)) (gb_mup ex_47 j_86266 (by decide) hm)
set_option maxHeartbeats 4000000 in
theorem ct_Face_lacks {n : Nat} (hn : gb_N ≤ n) {σ : gb_S} {p1 : Int32} {p2 : Int32} {p3 : Int32} (hT : gb_TC σ) : gb_tc (cs_Face_lacks n σ p1 p2 p3) (fun s r => gb_TC s ∧ gb_iv (-1) 255 r) := by
  unfold cs_Face_lacks
  refine gc_cdP (ct_Face_borderAt hn hT) (fun r_2 qr_2 h_86135 => ?_)
  refine gc_if (fun c_86136 => ?_) (fun c_86136 => ?_)
  · refine gc_cdP (ct_Face_dawnAt hn hT) (fun r_7 qr_7 h_86137 => ?_)
    refine gc_if (fun c_86138 => ?_) (fun c_86138 => ?_)
    · exact gc_some ⟨hT, (gb_iw (lo := (-1)) (hi := 255) (gb_ic (a := (-1)) (by decide)) (by decide))⟩
    · refine gc_kk (Or.resolve_left h_86137 c_86138) ?_
      exact gc_some ⟨hT, (gb_iw (lo := (-1)) (hi := 255) (gb_ic (a := (-1)) (by decide)) (by decide))⟩
  · refine gc_kk (Or.resolve_left h_86135 c_86136) ?_
    refine gc_cdP (ct_Face_dawnAt hn hT) (fun r_14 qr_14 h_86139 => ?_)
    refine gc_if (fun c_86140 => ?_) (fun c_86140 => ?_)
    · exact gc_some ⟨hT, (gb_iw (lo := (-1)) (hi := 255) (gb_ic (a := (-1)) (by decide)) (by decide))⟩
    · refine gc_kk (Or.resolve_left h_86139 c_86140) ?_
      refine gc_cdP (ct_Face_nightAt hn hT) (fun r_20 qr_20 h_86141 => ?_)
      refine gc_if (fun c_86142 => ?_) (fun c_86142 => ?_)
      · refine gc_cdP (ct_Face_playedOut_B_n hn hT (Or.resolve_left h_86135 c_86136)) (fun r_25 qr_25 h_86143 => ?_)
        refine gc_if (fun c_86144 => ?_) (fun c_86144 => ?_)
        · exact gc_some ⟨hT, (gb_iw (lo := (-1)) (hi := 255) (gb_ic (a := (-1)) (by decide)) (by decide))⟩
        · exact (gb_em (gb_rN (lo := 1) (hi := (-1)) (v := 0) c_86144 h_86143 (by decide) (by decide)) (by decide)).elim
      · refine gc_kk (Or.resolve_left h_86141 c_86142) ?_
        refine gc_cdT (ct_Face_playedOut_B_N hn hT (Or.resolve_left h_86135 c_86136) (Or.resolve_left h_86141 c_86142)) (fun s_49 r_50 hTs_49 h_86145 => ?_)
        refine gc_if (fun c_86146 => ?_) (fun c_86146 => ?_)
        · exact (gb_em (gb_rU (lo := 1) (hi := 0) (gb_deq c_86146) h_86145 (gb_ic (a := 0) (by decide)) (by decide)) (by decide)).elim
        · exact ct_Face_lacks_46 hn (fun _ _ hT h => ⟨hT, h⟩) n _ _ _ _ _ hTs_49 (Or.resolve_left h_86135 c_86136) (Or.resolve_left h_86139 c_86140) (gb_iw (lo := 0) (hi := 255) (gb_ic (a := 0) (by decide)) (by decide)) (gb_iw (lo := 0) (hi := 5) (gb_ic (a := 0) (by decide)) (by decide)) (gb_fuu hn (gb_iw (lo := 0) (hi := 5) (gb_ic (a := 0) (by decide)) (by decide)) (by decide))
set_option maxHeartbeats 4000000 in
theorem ct_Face_who_58 {n : Nat} (hn : gb_N ≤ n) {Q : gb_S → Int32 → Prop} (hret : ∀ (σ : gb_S) (r : Int32), gb_TC σ → gb_iv (-1) 23 r → Q σ r) : ∀ (mm : Nat) (σ : gb_S) (v3 : Int32) (v4 : Int32) (v5 : Nat) (v6 : Nat) (v7 : Int32) (v8 : Int32), gb_TC σ → gb_kB v5 = true → gb_kN v6 = true → gb_iv 0 4 v3 → gb_iv (-2147483648) 2147483647 v4 → gb_iv 0 24 v7 → gb_iv 0 24 v8 → (24 - v8.toInt).toNat < mm → gb_tc (cs_Face_who_58 n mm σ v3 v4 v5 v6 v7 v8) Q := by
  intro mm
  induction mm with
  | zero =>
    intro σ v3 v4 v5 v6 v7 v8 hT hv5 hv6 iv3 iv4 iv7 iv8 hm
    exact absurd hm (Nat.not_lt_zero _)
  | succ mm ih =>
    intro σ v3 v4 v5 v6 v7 v8 hT hv5 hv6 iv3 iv4 iv7 iv8 hm
    rw [cs_Face_who_58]
    refine gc_kk hv5 ?_
    refine gc_kk hv6 ?_
    refine gc_if (fun c_86959 => ?_) (fun c_86959 => ?_)
    · exact gc_some (hret _ _ hT (gb_iw (lo := (-1)) (hi := 23) (gb_ic (a := (-1)) (by decide)) (by decide)))
    · have j_86960 : gb_iv 0 23 v8 := (gb_rU (lo := 0) (hi := 23) (gb_dnle c_86959) iv8 iv7 (by decide))
      have j_86961 : gb_iv 1 24 v7 := (gb_rL (lo := 1) (hi := 24) (gb_dnle c_86959) iv7 j_86960 (by decide))
      refine gc_cdP (ct_Lines_kind_N hn hT hv6 j_86960) (fun r_34 qr_34 h_86962 => ?_)
      refine gc_if (fun c_86963 => ?_) (fun c_86963 => ?_)
      · have j_86964 : gb_iv (-2147483648) 0 r_34 := (gb_rU (lo := (-2147483648)) (hi := 0) (gb_deq c_86963) (gb_it _) (gb_ic (a := 0) (by decide)) (by decide))
        have j_86965 : gb_iv 0 0 r_34 := (gb_rL (lo := 0) (hi := 0) (gb_deq2 c_86963) j_86964 (gb_ic (a := 0) (by decide)) (by decide))
        refine gc_cdP (ct_Lines_cell_N hn hT hv6 j_86960 (gb_iw (lo := 0) (hi := 3) (gb_ic (a := 2) (by decide)) (by decide))) (fun r_40 qr_40 h_86966 => ?_)
        refine gc_if (fun c_86967 => ?_) (fun c_86967 => ?_)
        · have j_86968 : gb_iv (-2147483648) 4 r_40 := (gb_rU (lo := (-2147483648)) (hi := 4) (gb_deq c_86967) (gb_it _) iv3 (by decide))
          have j_86969 : gb_iv 0 4 r_40 := (gb_rL (lo := 0) (hi := 4) (gb_deq2 c_86967) j_86968 iv3 (by decide))
          refine gc_cdT (ct_Play_run_B_N hn hT hv5 hv6) (fun s_45 u_86970 hTs_45 _ => ?_)
          refine gc_cdP (ct_Play_tally hn hTs_45 iv3) (fun r_50 qr_50 h_86971 => ?_)
          refine gc_if (fun c_86972 => ?_) (fun c_86972 => ?_)
          · have j_86973 : gb_iv 0 2147483647 v4 := (gb_rL (lo := 0) (hi := 2147483647) (gb_deq c_86972) (gb_it _) h_86971 (by decide))
            exact gc_some (hret _ _ hTs_45 (gb_iw (lo := (-1)) (hi := 23) j_86960 (by decide)))
          · refine gc_lti (lo := 1) (hi := 24) (gb_iadd (lo := 1) (hi := 24) j_86960 (gb_ic (a := 1) (by decide)) (by decide)) (fun x_54 ex_54 ix_54 => ?_)
            exact ih _ _ _ _ _ _ _ hTs_45 hv5 hv6 iv3 (gb_it _) (gb_iw (lo := 0) (hi := 24) j_86961 (by decide)) (gb_iw (lo := 0) (hi := 24) ix_54 (by decide)) (gb_mup ex_54 j_86960 (by decide) hm)
        · refine gc_lti (lo := 1) (hi := 24) (gb_iadd (lo := 1) (hi := 24) j_86960 (gb_ic (a := 1) (by decide)) (by decide)) (fun x_44 ex_44 ix_44 => ?_)
          exact ih _ _ _ _ _ _ _ hT hv5 hv6 iv3 (gb_it _) (gb_iw (lo := 0) (hi := 24) j_86961 (by decide)) (gb_iw (lo := 0) (hi := 24) ix_44 (by decide)) (gb_mup ex_44 j_86960 (by decide) hm)
      · refine gc_lti (lo := 1) (hi := 24) (gb_iadd (lo := 1) (hi := 24) j_86960 (gb_ic (a := 1) (by decide)) (by decide)) (fun x_38 ex_38 ix_38 => ?_)
        exact ih _ _ _ _ _ _ _ hT hv5 hv6 iv3 (gb_it _) (gb_iw (lo := 0) (hi := 24) j_86961 (by decide)) (gb_iw (lo := 0) (hi := 24) ix_38 (by decide)) (gb_mup ex_38 j_86960 (by decide) hm)
set_option maxHeartbeats 4000000 in
theorem ct_Face_who {n : Nat} (hn : gb_N ≤ n) {σ : gb_S} {p1 : Int32} {p2 : Int32} {p3 : Int32} {p4 : Int32} (hT : gb_TC σ) : gb_tc (cs_Face_who n σ p1 p2 p3 p4) (fun s r => gb_TC s ∧ gb_iv (-1) 23 r) := by
  unfold cs_Face_who
  refine gc_cdP (ct_Face_borderAt hn hT) (fun r_2 qr_2 h_86616 => ?_)
  refine gc_if (fun c_86617 => ?_) (fun c_86617 => ?_)
  · refine gc_cdP (ct_Face_nightAt hn hT) (fun r_7 qr_7 h_86618 => ?_)
    refine gc_if (fun c_86619 => ?_) (fun c_86619 => ?_)
    · exact gc_some ⟨hT, (gb_iw (lo := (-1)) (hi := 23) (gb_ic (a := (-1)) (by decide)) (by decide))⟩
    · refine gc_kk (Or.resolve_left h_86618 c_86619) ?_
      exact gc_some ⟨hT, (gb_iw (lo := (-1)) (hi := 23) (gb_ic (a := (-1)) (by decide)) (by decide))⟩
  · refine gc_kk (Or.resolve_left h_86616 c_86617) ?_
    refine gc_cdP (ct_Face_nightAt hn hT) (fun r_14 qr_14 h_86620 => ?_)
    refine gc_if (fun c_86621 => ?_) (fun c_86621 => ?_)
    · exact gc_some ⟨hT, (gb_iw (lo := (-1)) (hi := 23) (gb_ic (a := (-1)) (by decide)) (by decide))⟩
    · refine gc_kk (Or.resolve_left h_86620 c_86621) ?_
      refine gc_cdP (ct_Border_hasPath_B hn hT (Or.resolve_left h_86616 c_86617)) (fun r_20 qr_20 h_86622 => ?_)
      refine gc_if (fun c_86623 => ?_) (fun c_86623 => ?_)
      · have j_86624 : gb_iv 0 0 r_20 := (gb_rU (lo := 0) (hi := 0) (gb_deq c_86623) h_86622.1 (gb_ic (a := 0) (by decide)) (by decide))
        exact gc_some ⟨hT, (gb_iw (lo := (-1)) (hi := 23) (gb_ic (a := (-1)) (by decide)) (by decide))⟩
      · have j_86625 : gb_iv 1 1 r_20 := (gb_rN (lo := 1) (hi := 1) (v := 0) c_86623 h_86622.1 (by decide) (by decide))
        have j_86626 : gb_iv 0 4 p3 := (h_86622.2 c_86623)
        refine gc_cdT (ct_Face_playedOut_B_N hn hT (Or.resolve_left h_86616 c_86617) (Or.resolve_left h_86620 c_86621)) (fun s_24 r_25 hTs_24 h_86627 => ?_)
        refine gc_if (fun c_86628 => ?_) (fun c_86628 => ?_)
        · exact (gb_em (gb_rU (lo := 1) (hi := 0) (gb_deq c_86628) h_86627 (gb_ic (a := 0) (by decide)) (by decide)) (by decide)).elim
        · refine gc_lti (lo := 0) (hi := 24) (gc_rd (c := 10) (lo := 0) (hi := 24) hTs_24 (rfl : gc_cat 109 = 10) (by decide)) (fun x_29 ex_29 ix_29 => ?_)
          exact ct_Face_who_58 hn (fun _ _ hT h => ⟨hT, h⟩) n _ _ _ _ _ _ _ hTs_24 (Or.resolve_left h_86616 c_86617) (Or.resolve_left h_86620 c_86621) j_86626 (gb_it _) ix_29 (gb_iw (lo := 0) (hi := 24) (gb_ic (a := 0) (by decide)) (by decide)) (gb_fuu hn (gb_iw (lo := 0) (hi := 24) (gb_ic (a := 0) (by decide)) (by decide)) (by decide))
set_option maxHeartbeats 4000000 in
theorem ct_Sheet_copyFrom_N_N {n : Nat} (hn : gb_N ≤ n) {σ : gb_S} {k0 : Nat} {p1 : Nat} (hT : gb_TC σ) (hk0 : gb_kN k0 = true) (hp1 : gb_kN p1 = true) : gb_tc (cs_Sheet_copyFrom_N_N n σ k0 p1) (fun s _ => gb_TC s ∧ True) := by
  unfold cs_Sheet_copyFrom_N_N
  refine gc_kk hk0 ?_
  refine gc_kk hp1 ?_
  refine gc_lti (lo := 97) (hi := 97) (gb_imin (lo := 97) (hi := 97) (gb_ic (a := 97) (by decide)) (gb_ic (a := 97) (by decide)) (by decide)) (fun x_3 ex_3 ix_3 => ?_)
  refine gc_ac (gb_ic (a := 0) (by decide)) (gb_ic (a := 0) (by decide)) ix_3 (by decide) ?_
  refine gc_ltT (gc_cpy hT (gc_catN hk0) (gc_catN hp1)) (fun s_5 es_5 hTs_5 => ?_)
  exact gc_some ⟨hTs_5, trivial⟩
set_option maxHeartbeats 4000000 in
theorem ct_Face_shift_61 {n : Nat} (hn : gb_N ≤ n) {Q : gb_S → Int32 → Prop} (hret : ∀ (σ : gb_S) (r : Int32), gb_TC σ → gb_iv (-2147483648) 2147483647 r → Q σ r) : ∀ (mm : Nat) (σ : gb_S) (v3 : Int32) (v4 : Nat) (v5 : Nat) (v6 : Int32) (v7 : Int32) (v8 : Int32) (v9 : Int32), gb_TC σ → gb_kB v4 = true → gb_kN v5 = true → gb_iv (-2147483648) 2147483647 v3 → gb_iv 0 24 v6 → gb_iv (-2147483648) 2147483647 v7 → gb_iv (-1) 23 v8 → gb_iv 0 23 v9 → (23 - v9.toInt).toNat < mm → gb_tc (cs_Face_shift_61 n mm σ v3 v4 v5 v6 v7 v8 v9) Q := by
  intro mm
  induction mm with
  | zero =>
    intro σ v3 v4 v5 v6 v7 v8 v9 hT hv4 hv5 iv3 iv6 iv7 iv8 iv9 hm
    exact absurd hm (Nat.not_lt_zero _)
  | succ mm ih =>
    intro σ v3 v4 v5 v6 v7 v8 v9 hT hv4 hv5 iv3 iv6 iv7 iv8 iv9 hm
    rw [cs_Face_shift_61]
    refine gc_kk hv4 ?_
    refine gc_kk hv5 ?_
    refine gc_if (fun c_87886 => ?_) (fun c_87886 => ?_)
    · refine gc_if (fun c_87887 => ?_) (fun c_87887 => ?_)
      · have j_87888 : gb_iv (-2147483648) 0 v3 := (gb_rU (lo := (-2147483648)) (hi := 0) (gb_deq c_87887) (gb_it _) (gb_ic (a := 0) (by decide)) (by decide))
        have j_87889 : gb_iv 0 0 v3 := (gb_rL (lo := 0) (hi := 0) (gb_deq2 c_87887) j_87888 (gb_ic (a := 0) (by decide)) (by decide))
        exact gc_some (hret _ _ hT (gb_iw (lo := (-2147483648)) (hi := 2147483647) iv8 (by decide)))
      · refine gc_if (fun c_87890 => ?_) (fun c_87890 => ?_)
        · have j_87891 : gb_iv (-1) (-1) v8 := (gb_rU (lo := (-1)) (hi := (-1)) (gb_deq c_87890) iv8 (gb_ic (a := (-1)) (by decide)) (by decide))
          exact gc_some (hret _ _ hT (gb_iw (lo := (-2147483648)) (hi := 2147483647) j_87891 (by decide)))
        · have j_87892 : gb_iv 0 23 v8 := (gb_rN (lo := 0) (hi := 23) (v := (-1)) c_87890 iv8 (by decide) (by decide))
          exact gc_some (hret _ _ hT (gb_it _))
    · have j_87893 : gb_iv 1 23 (v9 + 1) := (gb_rU (lo := 1) (hi := 23) (gb_dnle c_87886) (gb_iadd (lo := 1) (hi := 24) iv9 (gb_ic (a := 1) (by decide)) (by decide)) iv6 (by decide))
      have j_87894 : gb_iv 0 22 v9 := (gb_vadd (lo := 0) (hi := 22) (v := 1) j_87893 (by decide) (by decide))
      have j_87895 : gb_iv 2 24 v6 := (gb_rL (lo := 2) (hi := 24) (gb_dnle c_87886) iv6 (gb_iadd (lo := 1) (hi := 23) j_87894 (gb_ic (a := 1) (by decide)) (by decide)) (by decide))
      refine gc_cdT (ct_Sheet_copyFrom_N_N hn hT (rfl : gb_kN 104 = true) hv5) (fun s_34 u_87896 hTs_34 _ => ?_)
      refine gc_cdT (ct_Night_changeWithNext hn hTs_34 j_87894) (fun s_38 u_87897 hTs_38 _ => ?_)
      refine gc_cdP (ct_Lines_size hn hTs_38) (fun r_43 qr_43 h_87898 => ?_)
      refine gc_cdT (ct_Play_run_B_c104 hn hTs_38 hv4) (fun s_46 u_87899 hTs_46 _ => ?_)
      refine gc_if (fun c_87900 => ?_) (fun c_87900 => ?_)
      · have j_87901 : gb_iv 0 23 (s_46.1 109 11) := (gb_rU (lo := 0) (hi := 23) (gb_dlt c_87900) (gc_rd (c := 10) (lo := 0) (hi := 24) hTs_46 (rfl : gc_cat 109 = 10) (by decide)) j_87895 (by decide))
        refine gc_lti (lo := 1) (hi := 23) (gb_iadd (lo := 1) (hi := 23) j_87894 (gb_ic (a := 1) (by decide)) (by decide)) (fun x_51 ex_51 ix_51 => ?_)
        exact ih _ _ _ _ _ _ _ _ hTs_46 hv4 hv5 (gb_it _) (gb_iw (lo := 0) (hi := 24) j_87895 (by decide)) (gb_it _) iv8 (gb_iw (lo := 0) (hi := 23) ix_51 (by decide)) (gb_mup ex_51 j_87894 (by decide) hm)
      · have j_87902 : gb_iv 2 24 (s_46.1 109 11) := (gb_rL (lo := 2) (hi := 24) (gb_dnlt c_87900) (gc_rd (c := 10) (lo := 0) (hi := 24) hTs_46 (rfl : gc_cat 109 = 10) (by decide)) j_87895 (by decide))
        refine gc_cdP (ct_Play_allPay hn hTs_46) (fun r_53 qr_53 h_87903 => ?_)
        refine gc_if (fun c_87904 => ?_) (fun c_87904 => ?_)
        · refine gc_lti (lo := 1) (hi := 23) (gb_iadd (lo := 1) (hi := 23) j_87894 (gb_ic (a := 1) (by decide)) (by decide)) (fun x_57 ex_57 ix_57 => ?_)
          exact ih _ _ _ _ _ _ _ _ hTs_46 hv4 hv5 (gb_it _) (gb_iw (lo := 0) (hi := 24) j_87895 (by decide)) (gb_it _) iv8 (gb_iw (lo := 0) (hi := 23) ix_57 (by decide)) (gb_mup ex_57 j_87894 (by decide) hm)
        · have j_87905 : gb_iv (-2147483648) 2147483646 v7 := (gb_rU (lo := (-2147483648)) (hi := 2147483646) (gb_dnle c_87904) (gb_it _) (gb_it _) (by decide))
          have j_87906 : gb_iv (-2147483647) 2147483647 r_53 := (gb_rL (lo := (-2147483647)) (hi := 2147483647) (gb_dnle c_87904) (gb_it _) j_87905 (by decide))
          refine gc_cdE qr_53 ?_
          refine gc_lti (lo := 1) (hi := 23) (gb_iadd (lo := 1) (hi := 23) j_87894 (gb_ic (a := 1) (by decide)) (by decide)) (fun x_62 ex_62 ix_62 => ?_)
          exact ih _ _ _ _ _ _ _ _ hTs_46 hv4 hv5 (gb_it _) (gb_iw (lo := 0) (hi := 24) j_87895 (by decide)) (gb_iw (lo := (-2147483648)) (hi := 2147483647) j_87906 (by decide)) (gb_iw (lo := (-1)) (hi := 23) j_87894 (by decide)) (gb_iw (lo := 0) (hi := 23) ix_62 (by decide)) (gb_mup ex_62 j_87894 (by decide) hm)
set_option maxHeartbeats 4000000 in
theorem ct_Face_shift {n : Nat} (hn : gb_N ≤ n) {σ : gb_S} {p1 : Int32} {p2 : Int32} {p3 : Int32} (hT : gb_TC σ) : gb_tc (cs_Face_shift n σ p1 p2 p3) (fun s r => gb_TC s ∧ gb_iv (-2147483648) 2147483647 r) := by
  unfold cs_Face_shift
  refine gc_cdP (ct_Face_borderAt hn hT) (fun r_2 qr_2 h_87430 => ?_)
  refine gc_if (fun c_87431 => ?_) (fun c_87431 => ?_)
  · refine gc_cdP (ct_Face_nightAt hn hT) (fun r_7 qr_7 h_87432 => ?_)
    refine gc_if (fun c_87433 => ?_) (fun c_87433 => ?_)
    · exact gc_some ⟨hT, (gb_iw (lo := (-2147483648)) (hi := 2147483647) (gb_ic (a := (-1)) (by decide)) (by decide))⟩
    · refine gc_kk (Or.resolve_left h_87432 c_87433) ?_
      exact gc_some ⟨hT, (gb_iw (lo := (-2147483648)) (hi := 2147483647) (gb_ic (a := (-1)) (by decide)) (by decide))⟩
  · refine gc_kk (Or.resolve_left h_87430 c_87431) ?_
    refine gc_cdP (ct_Face_nightAt hn hT) (fun r_14 qr_14 h_87434 => ?_)
    refine gc_if (fun c_87435 => ?_) (fun c_87435 => ?_)
    · exact gc_some ⟨hT, (gb_iw (lo := (-2147483648)) (hi := 2147483647) (gb_ic (a := (-1)) (by decide)) (by decide))⟩
    · refine gc_kk (Or.resolve_left h_87434 c_87435) ?_
      refine gc_cdT (ct_Face_playedOut_B_N hn hT (Or.resolve_left h_87430 c_87431) (Or.resolve_left h_87434 c_87435)) (fun s_19 r_20 hTs_19 h_87436 => ?_)
      refine gc_if (fun c_87437 => ?_) (fun c_87437 => ?_)
      · exact (gb_em (gb_rU (lo := 1) (hi := 0) (gb_deq c_87437) h_87436 (gb_ic (a := 0) (by decide)) (by decide)) (by decide)).elim
      · refine gc_lti (lo := 0) (hi := 24) (gc_rd (c := 10) (lo := 0) (hi := 24) hTs_19 (rfl : gc_cat 109 = 10) (by decide)) (fun x_24 ex_24 ix_24 => ?_)
        refine gc_cdP (ct_Play_allPay hn hTs_19) (fun r_26 qr_26 h_87438 => ?_)
        exact ct_Face_shift_61 hn (fun _ _ hT h => ⟨hT, h⟩) n _ _ _ _ _ _ _ _ hTs_19 (Or.resolve_left h_87430 c_87431) (Or.resolve_left h_87434 c_87435) (gb_it _) ix_24 (gb_it _) (gb_iw (lo := (-1)) (hi := 23) (gb_ic (a := (-1)) (by decide)) (by decide)) (gb_iw (lo := 0) (hi := 23) (gb_ic (a := 0) (by decide)) (by decide)) (gb_fuu hn (gb_iw (lo := 0) (hi := 23) (gb_ic (a := 0) (by decide)) (by decide)) (by decide))
set_option maxHeartbeats 4000000 in
theorem ct_numberBelow5 {n : Nat} (hn : gb_N ≤ n) {σ : gb_S} {p1 : Int32} (hT : gb_TC σ) (ip1 : gb_iv 1 5 p1) : gb_tc (cs_Face_numberBelow n σ p1) (fun s r => gb_TC s ∧ gb_iv 0 4 r) := by
  unfold cs_Face_numberBelow
  refine gc_ltT (gc_su0 hT (rfl : gc_cat 0 = 0)) (fun s_1 es_1 hTs_1 => ?_)
  refine gc_if (fun c_87908 => ?_) (fun c_87908 => ?_)
  · exact (gb_em (gb_rU (lo := 1) (hi := 0) (gb_dle c_87908) ip1 (gb_ic (a := 0) (by decide)) (by decide)) (by decide)).elim
  · refine gc_nz ip1 (by decide) ?_
    refine gc_lti (lo := 0) (hi := 4) (gb_irem (lo := 0) (hi := 4) (gb_iushr _) ip1 (by decide)) (fun x_4 ex_4 ix_4 => ?_)
    exact gc_some ⟨hTs_1, ix_4⟩
