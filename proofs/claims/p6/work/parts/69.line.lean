/-! THE REFERENCE: lines of texts -/
def gb_I (s : Nat) (f : gb_F) : Prop := gb_TM f ∧ (gb_iv (gt_R s 0).1 (gt_R s 0).2 (f 3 0) ∧ (s = 0 → gb_iv 0 8 (f 3 1))) ∧ (f 0 8 = 0 → ∀ j, j < 97 → gb_iv (gt_R s j).1 (gt_R s j).2 (f 3 j)) ∧ ((f 0 4).toInt ≤ (f 0 3).toInt ∧ (¬ f 0 5 = 0 → (f 0 4).toInt < (f 0 3).toInt)) ∧ (¬ f 0 8 = 0 → ¬ f 1 5 = 0)
def gb_Pw (f f2 : gb_F) : Prop := (f 0 4).toInt ≤ (f2 0 4).toInt ∧ (¬ f 0 8 = 0 → ¬ f2 0 8 = 0) ∧ (∀ j, j ≠ 5 → j ≠ 6 → f2 1 j = f 1 j)
def gb_Pg (f f2 : gb_F) : Prop := gb_Pw f f2 ∧ f2 3 = f 3
theorem gb_Pwr {f : gb_F} : gb_Pw f f := ⟨Int.le_refl _, fun h => h, fun _ _ _ => rfl⟩
theorem gb_Pgr {f : gb_F} : gb_Pg f f := ⟨gb_Pwr, rfl⟩
theorem gb_Pwt {f f2 f3 : gb_F} (h : gb_Pw f f2) (g : gb_Pw f2 f3) : gb_Pw f f3 := ⟨Int.le_trans h.1 g.1, fun q => g.2.1 (h.2.1 q), fun j a b => (g.2.2 j a b).trans (h.2.2 j a b)⟩
theorem gb_Pgt {f f2 f3 : gb_F} (h : gb_Pg f f2) (g : gb_Pg f2 f3) : gb_Pg f f3 := ⟨gb_Pwt h.1 g.1, g.2.trans h.2⟩
theorem gb_Pw0 {f f2 : gb_F} (h : gb_Pw f f2) (e : f2 0 8 = 0) : f 0 8 = 0 := Classical.byContradiction (fun q => h.2.1 q e)
theorem gb_IA {s : Nat} {f f2 : gb_F} (hI : gb_I s f) (hA : gb_A (f 0 3).toInt f f2) : gb_I s f2 ∧ gb_Pg f f2 ∧ (f 0 3).toInt ≤ (f2 0 4).toInt := by
  obtain ⟨-, h2, h3, ⟨h4, -⟩, h6⟩ := hI
  obtain ⟨⟨v1, v2, v3, v4, v5⟩, a1, a2, a3⟩ := hA
  refine ⟨⟨v1, ?_, ?_, ⟨a2, a3⟩, ?_⟩, ⟨⟨by omega, ?_, ?_⟩, v3⟩, a1⟩
  · rw [v3]
    exact h2
  · rw [v3, v4]
    exact h3
  · rw [v2, v4]
    exact h6
  · rw [v4]
    exact fun q => q
  · intro j _ _
    rw [v2]
theorem mi_advance {n : Nat} (hn : gb_N ≤ n) {s : Nat} {f : gb_F} {w : Int64} (hI : gb_I s f) : gb_tm (ms_advance n f w) (fun f2 _ _ => gb_I s f2 ∧ gb_Pg f f2 ∧ (f 0 3).toInt ≤ (f2 0 4).toInt) := gm_mono (mt_advance hn hI.1) (fun _ _ _ h => gb_IA hI h)
theorem gb_TM5 {f : gb_F} {v : Int32} (h : gb_TM f) (i : gb_iv 0 4 v) : gb_TM (gb_u f 1 (upd (f 1) (Int32.toNatClampNeg 5) v)) := gb_TMu1 h i
theorem gb_TM6 {f : gb_F} {v : Int32} (h : gb_TM f) (i : gb_iv (-1) 600 v) : gb_TM (gb_u f 1 (upd (f 1) (Int32.toNatClampNeg 6) v)) := gb_TMu1 h i
theorem mi_ends {n : Nat} {s : Nat} {f : gb_F} {w : Int64} (hI : gb_I s f) : gb_tm (ms_ends n f w) (fun f2 _ _ => gb_I s f2 ∧ gb_Pg f f2 ∧ ¬ f2 0 8 = 0) := by
  unfold ms_ends
  refine gm_if (fun c => gm_lt (fun f2 e2 => gm_lt (fun f3 e3 => gm_lt (fun f4 e4 => gm_some ?_)))) (fun c => gm_some ⟨hI, gb_Pgr, c⟩)
  obtain ⟨h1, h2, h3, h4, h6⟩ := hI
  have t2 : gb_TM f2 := by
    rw [e2]
    exact gb_TMfj h1 rfl
  have t3 : gb_TM f3 := by
    rw [e3]
    exact gb_TM5 t2 ⟨by decide, by decide⟩
  have t4 : gb_TM f4 := by
    rw [e4]
    exact gb_TM6 t3 (gb_iw (gb_i4 t3) (by decide))
  have q3 : f4 3 = f 3 := by
    rw [e4, e3, e2]
    rfl
  have q8 : f4 0 8 = 1 := by
    rw [e4, e3, e2]
    rfl
  have qf3 : f4 0 3 = f 0 3 := by
    rw [e4, e3, e2]
    rfl
  have qf4 : f4 0 4 = f 0 4 := by
    rw [e4, e3, e2]
    rfl
  have qf5 : f4 0 5 = f 0 5 := by
    rw [e4, e3, e2]
    rfl
  have q15 : f4 1 5 = 1 := by
    rw [e4, e3]
    rfl
  have n8 : ¬ f4 0 8 = 0 := by
    rw [q8]
    decide
  refine ⟨⟨t4, ?_, fun q => absurd q n8, ?_, fun _ => ?_⟩, ⟨⟨?_, fun _ => n8, fun j a b => ?_⟩, q3⟩, n8⟩
  · rw [q3]
    exact h2
  · rw [qf3, qf4, qf5]
    exact h4
  · rw [q15]
    decide
  · rw [qf4]
    exact Int.le_refl _
  · rw [e4, e3, e2]
    show upd (upd (f 1) 5 1) 6 _ j = f 1 j
    rw [pk_un b, pk_un a]
theorem gb_Ial {s : Nat} {f : gb_F} {a b : Int32} (hI : gb_I s f) (c : f 0 8 = 0) (ia : gb_iv 2 4 a) (ib : gb_iv (-1) 600 b) {f2 f3 : gb_F} (e2 : f2 = gb_u f 1 (upd (f 1) (Int32.toNatClampNeg 5) a)) (e3 : f3 = gb_u f2 1 (upd (f2 1) (Int32.toNatClampNeg 6) b)) : gb_I s f3 ∧ gb_Pg f f3 ∧ f3 0 = f 0 := by
  obtain ⟨h1, h2, h3, h4, h6⟩ := hI
  have t2 : gb_TM f2 := by
    rw [e2]
    exact gb_TM5 h1 (gb_iw ia (by decide))
  have t3 : gb_TM f3 := by
    rw [e3]
    exact gb_TM6 t2 ib
  have q0 : f3 0 = f 0 := by
    rw [e3, e2]
    rfl
  have q3 : f3 3 = f 3 := by
    rw [e3, e2]
    rfl
  refine ⟨⟨t3, ?_, ?_, ?_, fun q => absurd (by rw [q0]; exact c) q⟩, ⟨⟨?_, ?_, fun j a b => ?_⟩, q3⟩, q0⟩
  · rw [q3]
    exact h2
  · rw [q3, q0]
    exact h3
  · rw [q0]
    exact h4
  · rw [q0]
    exact Int.le_refl _
  · rw [q0]
    exact fun q => q
  · rw [e3, e2]
    show upd (upd (f 1) 5 _) 6 _ j = f 1 j
    rw [pk_un b, pk_un a]
theorem mi_also {n : Nat} {s : Nat} {f : gb_F} {w : Int64} {a b : Int32} (hI : gb_I s f) (ia : gb_iv 2 4 a) (ib : gb_iv (-1) 600 b) : gb_tm (ms_also n f w a b) (fun f2 _ _ => gb_I s f2 ∧ gb_Pg f f2 ∧ f2 0 = f 0) := by
  unfold ms_also
  have st : gb_I s f ∧ gb_Pg f f ∧ f 0 = f 0 := ⟨hI, gb_Pgr, rfl⟩
  refine gm_if (fun c => ?_) (fun c => gm_some st)
  refine gm_lt (fun x ex => gm_if (fun _ => gm_lt (fun f2 e2 => gm_lt (fun f3 e3 => gm_some (gb_Ial hI c ia ib e2 e3)))) (fun _ => ?_))
  refine gm_lt (fun x ex => gm_if (fun _ => gm_some st) (fun _ => gm_lt (fun x ex => ?_)))
  refine gm_if (fun _ => gm_lt (fun x ex => gm_if (fun _ => gm_lt (fun f2 e2 => gm_lt (fun f3 e3 => gm_some (gb_Ial hI c ia ib e2 e3)))) (fun _ => gm_some st))) (fun _ => ?_)
  exact gm_lt (fun f2 e2 => gm_lt (fun f3 e3 => gm_some (gb_Ial hI c ia ib e2 e3)))
theorem mi_numbered {n : Nat} (hn : gb_N ≤ n) {s : Nat} {f : gb_F} {w : Int64} {p1 p2 : Int32} {a b : Int} (hI : gb_I s f) (e1 : p1.toInt = a) (e2 : p2.toInt = b) (hab : a ≤ b) : gb_tm (ms_numbered n f w p1 p2) (fun f2 _ r => gb_I s f2 ∧ gb_Pg f f2 ∧ gb_iv a b r) := by
  unfold ms_numbered
  have ip : gb_iv a b p1 := ⟨by omega, by omega⟩
  refine gm_if (fun c => ?_) (fun c => gm_bd (mi_ends hI) (fun f2 w2 _ h => gm_some ⟨h.1, h.2.1, ip⟩))
  refine gm_if (fun c2 => ?_) (fun c2 => gm_bd (mi_ends hI) (fun f2 w2 _ h => gm_some ⟨h.1, h.2.1, ip⟩))
  refine gm_lt (fun x ex => ?_)
  have fin : ∀ (f2 : gb_F) (w2 : Int64), gb_I s f2 → gb_Pg f f2 → gb_tm (gb_bd (ms_isIn n f2 w2 x p1 p2) (fun f_20 wl_21 r_22 => (if r_22 = 0 then (some (f_20, wl_21, p1) : gb_MR Int32) else some (f_20, wl_21, x)))) (fun f2 _ r => gb_I s f2 ∧ gb_Pg f f2 ∧ gb_iv a b r) := fun f2 w2 i2 g2 => by
    refine gm_bdP mt_isIn (fun r h => gm_if (fun _ => gm_some ⟨i2, g2, ip⟩) (fun c => gm_some ⟨i2, g2, ?_⟩))
    have := h.2 c
    exact ⟨by omega, by omega⟩
  refine gm_bdP mt_isIn (fun r h => gm_if (fun _ => ?_) (fun _ => ?_))
  · refine gm_bd (mi_also hI ⟨by decide, by decide⟩ (gb_iw (gb_i4 hI.1) (by decide))) (fun f2 w2 _ h2 => ?_)
    exact gm_bd (mi_advance hn h2.1) (fun f3 w3 _ h3 => fin f3 w3 h3.1 (gb_Pgt h2.2.1 h3.2.1))
  · exact gm_bd (mi_advance hn hI) (fun f3 w3 _ h3 => fin f3 w3 h3.1 h3.2.1)
theorem mi_takes {n : Nat} (hn : gb_N ≤ n) {s : Nat} {f : gb_F} {w : Int64} {p1 p2 : Int32} {a b : Int} (hI : gb_I s f) (e1 : p1.toInt = a) (e2 : p2.toInt = b) : gb_tm (ms_takes n f w p1 p2) (fun f2 _ r => gb_I s f2 ∧ gb_Pg f f2 ∧ (gb_iv a b r ∧ (f 0 4).toInt < (f2 0 4).toInt ∨ ¬ f2 0 8 = 0 ∧ r = 0)) := by
  unfold ms_takes
  have bad : gb_tm (gb_bd (ms_ends n f w) (fun f_8 wl_9 _ => (some (f_8, wl_9, 0) : gb_MR Int32))) (fun f2 _ r => gb_I s f2 ∧ gb_Pg f f2 ∧ (gb_iv a b r ∧ (f 0 4).toInt < (f2 0 4).toInt ∨ ¬ f2 0 8 = 0 ∧ r = 0)) := gm_bd (mi_ends hI) (fun f2 w2 _ h => gm_some ⟨h.1, h.2.1, Or.inr ⟨h.2.2, rfl⟩⟩)
  refine gm_if (fun c => gm_if (fun c2 => ?_) (fun _ => bad)) (fun _ => bad)
  refine gm_bdP mt_isIn (fun r h => gm_if (fun _ => bad) (fun c3 => gm_lt (fun x ex => ?_)))
  have h3 := h.2 c3
  refine gm_bd (mi_advance hn hI) (fun f2 w2 _ h2 => gm_some ⟨h2.1, h2.2.1, Or.inl ⟨?_, ?_⟩⟩)
  · rw [ex]
    exact ⟨by omega, by omega⟩
  · have h5 := hI.2.2.2.1.2 (by rw [c2]; decide)
    have := h2.2.2
    omega
theorem mi_endsLine {n : Nat} (hn : gb_N ≤ n) {s : Nat} {f : gb_F} {w : Int64} (hI : gb_I s f) : gb_tm (ms_endsLine n f w) (fun f2 _ _ => gb_I s f2 ∧ gb_Pg f f2) := by
  unfold ms_endsLine
  have bad : gb_tm (gb_bd (ms_ends n f w) (fun f_8 wl_9 _ => (some (f_8, wl_9, ()) : gb_MR Unit))) (fun f2 _ _ => gb_I s f2 ∧ gb_Pg f f2) := gm_bd (mi_ends hI) (fun f2 w2 _ h => gm_some ⟨h.1, h.2.1⟩)
  refine gm_if (fun c => gm_if (fun c2 => ?_) (fun _ => bad)) (fun _ => bad)
  exact gm_bd (mi_advance hn hI) (fun f2 w2 _ h2 => gm_some ⟨h2.1, h2.2.1⟩)
theorem gb_Iw {s : Nat} {f f2 : gb_F} {i : Nat} {v : Int32} (hI : gb_I s f) (e2 : f2 = gb_u f 3 (upd (f 3) i v)) (h0 : i ≠ 0) (h1 : s = 0 → i ≠ 1) (hv : f 0 8 = 0 → gb_iv (gt_R s i).1 (gt_R s i).2 v) : gb_I s f2 ∧ gb_Pw f f2 ∧ f2 0 = f 0 ∧ f2 3 = upd (f 3) i v := by
  obtain ⟨k1, k2, k3, k4, k6⟩ := hI
  have q0 : f2 0 = f 0 := by
    rw [e2]
    rfl
  have q1 : f2 1 = f 1 := by
    rw [e2]
    rfl
  have q3 : f2 3 = upd (f 3) i v := by
    rw [e2]
    rfl
  refine ⟨⟨by rw [e2]; exact (gb_XKu (gb_XKr k1) rfl).1, ⟨?_, fun z => ?_⟩, fun z j hj => ?_, ?_, ?_⟩, ⟨?_, ?_, fun j _ _ => by rw [q1]⟩, q0, q3⟩
  · rw [q3, pk_un (Ne.symm h0)]
    exact k2.1
  · rw [q3, pk_un (Ne.symm (h1 z))]
    exact k2.2 z
  · rw [q3]
    unfold upd
    by_cases q : j = i
    · rw [if_pos q, q]
      exact hv (by rw [← q0]; exact z)
    · rw [if_neg q]
      exact k3 (by rw [← q0]; exact z) j hj
  · rw [q0]
    exact k4
  · rw [q0, q1]
    exact k6
  · rw [q0]
    exact Int.le_refl _
  · rw [q0]
    exact fun q => q
theorem gb_Ic {s : Nat} {f f2 : gb_F} {v : Int32} (hI : gb_I s f) (e2 : f2 = gb_u f 3 (upd (f 3) (Int32.toNatClampNeg 0) v)) (hv : gb_iv (gt_R s 0).1 (gt_R s 0).2 v) : gb_I s f2 ∧ gb_Pw f f2 := by
  obtain ⟨k1, k2, k3, k4, k6⟩ := hI
  have q0 : f2 0 = f 0 := by
    rw [e2]
    rfl
  have q1 : f2 1 = f 1 := by
    rw [e2]
    rfl
  have q3 : f2 3 = upd (f 3) 0 v := by
    rw [e2]
    rfl
  refine ⟨⟨by rw [e2]; exact (gb_XKu (gb_XKr k1) rfl).1, ⟨?_, fun z => ?_⟩, fun z j hj => ?_, ?_, ?_⟩, ⟨?_, ?_, fun j _ _ => by rw [q1]⟩⟩
  · rw [q3, pk_us]
    exact hv
  · rw [q3, pk_un (by decide)]
    exact k2.2 z
  · rw [q3]
    unfold upd
    by_cases q : j = 0
    · rw [if_pos q, q]
      exact hv
    · rw [if_neg q]
      exact k3 (by rw [← q0]; exact z) j hj
  · rw [q0]
    exact k4
  · rw [q0, q1]
    exact k6
  · rw [q0]
    exact Int.le_refl _
  · rw [q0]
    exact fun q => q
theorem gb_Ic1 {f f2 : gb_F} {v : Int32} (hI : gb_I 0 f) (e2 : f2 = gb_u f 3 (upd (f 3) (Int32.toNatClampNeg 1) v)) (hv : gb_iv 0 8 v) : gb_I 0 f2 ∧ gb_Pw f f2 := by
  obtain ⟨k1, k2, k3, k4, k6⟩ := hI
  have q0 : f2 0 = f 0 := by
    rw [e2]
    rfl
  have q1 : f2 1 = f 1 := by
    rw [e2]
    rfl
  have q3 : f2 3 = upd (f 3) 1 v := by
    rw [e2]
    rfl
  refine ⟨⟨by rw [e2]; exact (gb_XKu (gb_XKr k1) rfl).1, ⟨?_, fun z => ?_⟩, fun z j hj => ?_, ?_, ?_⟩, ⟨?_, ?_, fun j _ _ => by rw [q1]⟩⟩
  · rw [q3, pk_un (by decide)]
    exact k2.1
  · rw [q3, pk_us]
    exact hv
  · rw [q3]
    unfold upd
    by_cases q : j = 1
    · rw [if_pos q, q]
      exact hv
    · rw [if_neg q]
      exact k3 (by rw [← q0]; exact z) j hj
  · rw [q0]
    exact k4
  · rw [q0, q1]
    exact k6
  · rw [q0]
    exact Int.le_refl _
  · rw [q0]
    exact fun q => q
theorem gt_R0p {c i : Nat} (hc : c ≤ 4) (hi : i < 3) : gt_R 0 (3 + 3 * c + i) = if i = 0 then (0, 20) else (0, 9) := by
  have q : (3 + 3 * c + i - 3) % 3 = i := by omega
  unfold gt_R
  rw [if_pos rfl, if_neg (by omega), if_neg (by omega), if_neg (by omega), if_pos (by omega), q]
theorem gt_R0g {c i : Nat} (hc : c ≤ 7) (hi : i < 5) : gt_R 0 (18 + 5 * c + i) = if i < 2 then (0, 4) else if i = 2 then (0, 60) else if i = 3 then (0, 1) else (0, 99) := by
  have q : (18 + 5 * c + i - 18) % 5 = i := by omega
  unfold gt_R
  rw [if_pos rfl, if_neg (by omega), if_neg (by omega), if_neg (by omega), if_neg (by omega), q]
theorem gb_cn {x : Int32} {a b : Int} (h : gb_iv a b x) (k : 0 ≤ a) : ∃ c : Nat, x.toInt = c ∧ (c : Int) ≤ b := ⟨x.toInt.toNat, by have := h.1; omega, by have := h.1; have := h.2; omega⟩
set_option maxHeartbeats 4000000 in
theorem mi_pathLine {n : Nat} (hn : gb_N ≤ n) {f : gb_F} {w : Int64} {p1 : Int32} (hI : gb_I 0 f) (i1 : gb_iv (-1) 600 p1) : gb_tm (ms_pathLine n f w p1) (fun f2 _ _ => gb_I 0 f2 ∧ gb_Pw f f2) := by
  have c3 : (3 : Int32).toInt = 3 := by decide
  have c5 : (5 : Int32).toInt = 5 := by decide
  have tail : ∀ (g : gb_F) (w2 : Int64) (v2 : Int32), gb_I 0 g → gb_Pw f g → (¬ v2 = 0 → (g 3 0).toInt ≤ 4) → gb_tm (ms_pathLine_26 n g w2 v2) (fun f2 _ _ => gb_I 0 f2 ∧ gb_Pw f f2) := by
    intro g w2 v2 hg hp hv
    unfold ms_pathLine_26
    refine gm_bd (mi_numbered (a := 1) (b := 20) hn hg (by decide) (by decide) (by decide)) (fun f1 w1 r1 h1 => ?_)
    refine gm_bd (mi_numbered (a := 0) (b := 9) hn h1.1 (by decide) (by decide) (by decide)) (fun f2 w2 r2 h2 => ?_)
    refine gm_bd (mi_numbered (a := 0) (b := 9) hn h2.1 (by decide) (by decide) (by decide)) (fun f3 w3 r3 h3 => ?_)
    have hP := gb_Pgt (gb_Pgt h1.2.1 h2.2.1) h3.2.1
    refine gm_if (fun _ => gm_some ⟨h3.1, gb_Pwt hp hP.1⟩) (fun c => ?_)
    have hc4 := hv c
    have e30 : f3 3 0 = g 3 0 := by rw [hP.2]
    have i30 : gb_iv 0 4 (f3 3 0) := ⟨h3.1.2.1.1.1, by rw [e30]; exact hc4⟩
    obtain ⟨cc, hcc, hcc4⟩ := gb_cn i30 (by decide)
    refine gm_lt (fun x ex => ?_)
    have ex0 : x.toInt = cc := by
      rw [ex]
      exact hcc
    have m3 : (3 * x).toInt = 3 * (cc : Int) := by
      rw [gb_tmul (by rw [c3]; omega) (by rw [c3]; omega), c3, ex0]
    have a3 : (3 + (3 * x)).toInt = 3 + 3 * (cc : Int) := by
      rw [gb_tadd (by rw [c3, m3]; omega) (by rw [c3, m3]; omega), c3, m3]
    refine gm_lt (fun y ey => ?_)
    rw [← ey] at a3
    have st : ∀ (k : Int32) (i : Nat), k.toInt = i → i < 3 → gb_iv 0 96 (y + k) ∧ Int32.toNatClampNeg (y + k) = 3 + 3 * cc + i := fun k i hk hi => by
      have e : (y + k).toInt = 3 + 3 * (cc : Int) + i := by
        rw [gb_tadd (by rw [a3, hk]; omega) (by rw [a3, hk]; omega), a3, hk]
      exact ⟨⟨by omega, by omega⟩, gb_tn (by omega)⟩
    obtain ⟨s0, t0⟩ := st 0 0 (by decide) (by decide)
    obtain ⟨s1, t1⟩ := st 1 1 (by decide) (by decide)
    obtain ⟨s2, t2⟩ := st 2 2 (by decide) (by decide)
    refine gm_ck s0 (by decide) (gm_lt (fun f4 e4 => gm_ck s1 (by decide) (gm_lt (fun f5 e5 => gm_ck s2 (by decide) (gm_lt (fun f6 e6 => gm_lt (fun z ez => gm_lt (fun f7 e7 => gm_some ?_))))))))
    rw [t0] at e4
    rw [t1] at e5
    rw [t2] at e6
    have k4 := gb_Iw h3.1 e4 (by omega) (fun _ => by omega) (fun _ => by rw [gt_R0p (by omega) (by decide)]; exact gb_iw h1.2.2 (by decide))
    have k5 := gb_Iw k4.1 e5 (by omega) (fun _ => by omega) (fun _ => by rw [gt_R0p (by omega) (by decide)]; exact gb_iw h2.2.2 (by decide))
    have k6 := gb_Iw k5.1 e6 (by omega) (fun _ => by omega) (fun _ => by rw [gt_R0p (by omega) (by decide)]; exact gb_iw h3.2.2 (by decide))
    have ez0 : z = f3 3 0 := by
      rw [ez]
      show f6 3 0 = _
      rw [k6.2.2.2, pk_un (by omega), k5.2.2.2, pk_un (by omega), k4.2.2.2, pk_un (by omega)]
    have iz : gb_iv 0 4 z := by
      rw [ez0]
      exact i30
    have k7 := gb_Ic k6.1 e7 (gb_iw (gb_iadd (lo := 1) (hi := 5) iz (gb_ic (a := 1) (by decide)) (by decide)) (by decide))
    exact ⟨k7.1, gb_Pwt hp (gb_Pwt hP.1 (gb_Pwt k4.2.1 (gb_Pwt k5.2.1 (gb_Pwt k6.2.1 k7.2))))⟩
  unfold ms_pathLine
  refine gm_lt (fun x ex => gm_if (fun c => ?_) (fun c => ?_))
  · unfold ms_pathLine_15
    rw [if_pos rfl]
    exact gm_bd (mi_also hI ⟨by decide, by decide⟩ i1) (fun f2 w2 _ h2 => tail f2 w2 0 h2.1 h2.2.1.1 (fun q => absurd rfl q))
  · unfold ms_pathLine_15
    rw [if_neg (by decide)]
    refine tail f w 1 hI gb_Pwr (fun _ => ?_)
    have := gb_dnle c
    have e0 : x = f 3 0 := ex
    rw [e0] at this
    omega
set_option maxHeartbeats 4000000 in
theorem mi_gooseLine {n : Nat} (hn : gb_N ≤ n) {f : gb_F} {w : Int64} {p1 : Int32} (hI : gb_I 0 f) (i1 : gb_iv (-1) 600 p1) : gb_tm (ms_gooseLine n f w p1) (fun f2 _ _ => gb_I 0 f2 ∧ gb_Pw f f2) := by
  have c5 : (5 : Int32).toInt = 5 := by decide
  have c8 : (8 : Int32).toInt = 8 := by decide
  have c18 : (18 : Int32).toInt = 18 := by decide
  have tail : ∀ (g : gb_F) (w2 : Int64) (v2 : Int32), gb_I 0 g → gb_Pw f g → (¬ v2 = 0 → (g 3 1).toInt ≤ 7) → gb_tm (ms_gooseLine_27 n g w2 v2) (fun f2 _ _ => gb_I 0 f2 ∧ gb_Pw f f2) := by
    intro g w2 v2 hg hp hv
    unfold ms_gooseLine_27
    refine gm_bd (mi_numbered (a := 0) (b := 4) hn hg (by decide) (by decide) (by decide)) (fun f1 w1 r1 h1 => ?_)
    refine gm_bd (mi_numbered (a := 0) (b := 4) hn h1.1 (by decide) (by decide) (by decide)) (fun f2 w2 r2 h2 => ?_)
    refine gm_bd (mi_numbered (a := 0) (b := 60) hn h2.1 (by decide) (by decide) (by decide)) (fun f3 w3 r3 h3 => ?_)
    refine gm_bd (mi_numbered (a := 0) (b := 1) hn h3.1 (by decide) (by decide) (by decide)) (fun f4 w4 r4 h4 => ?_)
    refine gm_bd (mi_numbered (a := 0) (b := 99) hn h4.1 (by decide) (by decide) (by decide)) (fun f5 w5 r5 h5 => ?_)
    have hP := gb_Pgt (gb_Pgt (gb_Pgt (gb_Pgt h1.2.1 h2.2.1) h3.2.1) h4.2.1) h5.2.1
    refine gm_if (fun _ => gm_some ⟨h5.1, gb_Pwt hp hP.1⟩) (fun c => ?_)
    have hc4 := hv c
    have e30 : f5 3 1 = g 3 1 := by rw [hP.2]
    have i30 : gb_iv 0 7 (f5 3 1) := ⟨(h5.1.2.1.2 rfl).1, by rw [e30]; exact hc4⟩
    obtain ⟨cc, hcc, hcc4⟩ := gb_cn i30 (by decide)
    refine gm_lt (fun x ex => ?_)
    have ex0 : x.toInt = cc := by
      rw [ex]
      exact hcc
    have m3 : (5 * x).toInt = 5 * (cc : Int) := by
      rw [gb_tmul (by rw [c5]; omega) (by rw [c5]; omega), c5, ex0]
    have a3 : (18 + (5 * x)).toInt = 18 + 5 * (cc : Int) := by
      rw [gb_tadd (by rw [c18, m3]; omega) (by rw [c18, m3]; omega), c18, m3]
    refine gm_lt (fun y ey => ?_)
    rw [← ey] at a3
    have s0 : gb_iv 0 96 y := ⟨by omega, by omega⟩
    have t0 : Int32.toNatClampNeg y = 18 + 5 * cc + 0 := gb_tn (by omega)
    have st : ∀ (k : Int32) (i : Nat), k.toInt = i → i < 5 → gb_iv 0 96 (y + k) ∧ Int32.toNatClampNeg (y + k) = 18 + 5 * cc + i := fun k i hk hi => by
      have e : (y + k).toInt = 18 + 5 * (cc : Int) + i := by
        rw [gb_tadd (by rw [a3, hk]; omega) (by rw [a3, hk]; omega), a3, hk]
      exact ⟨⟨by omega, by omega⟩, gb_tn (by omega)⟩
    obtain ⟨s1, t1⟩ := st 1 1 (by decide) (by decide)
    obtain ⟨s2, t2⟩ := st 2 2 (by decide) (by decide)
    obtain ⟨s3, t3⟩ := st 3 3 (by decide) (by decide)
    obtain ⟨s4, t4⟩ := st 4 4 (by decide) (by decide)
    refine gm_ck s0 (by decide) (gm_lt (fun g4 e4 => gm_ck s1 (by decide) (gm_lt (fun g5 e5 => gm_ck s2 (by decide) (gm_lt (fun g6 e6 => gm_ck s3 (by decide) (gm_lt (fun g7 e7 => gm_ck s4 (by decide) (gm_lt (fun g8 e8 => gm_lt (fun z ez => gm_lt (fun g9 e9 => gm_some ?_))))))))))))
    rw [t0] at e4
    rw [t1] at e5
    rw [t2] at e6
    rw [t3] at e7
    rw [t4] at e8
    have k4 := gb_Iw h5.1 e4 (by omega) (fun _ => by omega) (fun _ => by rw [gt_R0g (by omega) (by decide)]; exact gb_iw h1.2.2 (by decide))
    have k5 := gb_Iw k4.1 e5 (by omega) (fun _ => by omega) (fun _ => by rw [gt_R0g (by omega) (by decide)]; exact gb_iw h2.2.2 (by decide))
    have k6 := gb_Iw k5.1 e6 (by omega) (fun _ => by omega) (fun _ => by rw [gt_R0g (by omega) (by decide)]; exact gb_iw h3.2.2 (by decide))
    have k7 := gb_Iw k6.1 e7 (by omega) (fun _ => by omega) (fun _ => by rw [gt_R0g (by omega) (by decide)]; exact gb_iw h4.2.2 (by decide))
    have k8 := gb_Iw k7.1 e8 (by omega) (fun _ => by omega) (fun _ => by rw [gt_R0g (by omega) (by decide)]; exact gb_iw h5.2.2 (by decide))
    have ez0 : z = f5 3 1 := by
      rw [ez]
      show g8 3 1 = _
      rw [k8.2.2.2, pk_un (by omega), k7.2.2.2, pk_un (by omega), k6.2.2.2, pk_un (by omega), k5.2.2.2, pk_un (by omega), k4.2.2.2, pk_un (by omega)]
    have iz : gb_iv 0 7 z := by
      rw [ez0]
      exact i30
    have k9 := gb_Ic1 k8.1 e9 (gb_iw (gb_iadd (lo := 1) (hi := 8) iz (gb_ic (a := 1) (by decide)) (by decide)) (by decide))
    exact ⟨k9.1, gb_Pwt hp (gb_Pwt hP.1 (gb_Pwt k4.2.1 (gb_Pwt k5.2.1 (gb_Pwt k6.2.1 (gb_Pwt k7.2.1 (gb_Pwt k8.2.1 k9.2))))))⟩
  unfold ms_gooseLine
  refine gm_lt (fun x ex => gm_if (fun c => ?_) (fun c => ?_))
  · unfold ms_gooseLine_16
    rw [if_pos rfl]
    exact gm_bd (mi_also hI ⟨by decide, by decide⟩ i1) (fun f2 w2 _ h2 => tail f2 w2 0 h2.1 h2.2.1.1 (fun q => absurd rfl q))
  · unfold ms_gooseLine_16
    rw [if_neg (by decide)]
    refine tail f w 1 hI gb_Pwr (fun _ => ?_)
    have := gb_dnle c
    have e0 : x = f 3 1 := ex
    rw [e0] at this
    omega
theorem gb_fin {f f1 f2 : gb_F} {r : Int32} {a b : Int} (h : gb_iv a b r ∧ (f 0 4).toInt < (f1 0 4).toInt ∨ ¬ f1 0 8 = 0 ∧ r = 0) (g : gb_Pw f1 f2) : ¬ f2 0 8 = 0 ∨ (f 0 4).toInt < (f2 0 4).toInt := by
  rcases h with h | h
  · exact Or.inr (Int.lt_of_lt_of_le h.2 g.1)
  · exact Or.inl (g.2.1 h.1)
set_option maxHeartbeats 4000000 in
theorem mi_borderLine {n : Nat} (hn : gb_N ≤ n) {f : gb_F} {w : Int64} (hI : gb_I 0 f) : gb_tm (ms_borderLine n f w) (fun f2 _ _ => gb_I 0 f2 ∧ gb_Pw f f2 ∧ (¬ f2 0 8 = 0 ∨ (f 0 4).toInt < (f2 0 4).toInt)) := by
  unfold ms_borderLine
  refine gm_lti (gb_i4 hI.1) (fun x ex ix => ?_)
  have ix' : gb_iv (-1) 600 x := gb_iw ix (by decide)
  refine gm_bd (mi_takes (a := 1) (b := 3) hn hI (by decide) (by decide)) (fun f1 w1 r h => ?_)
  obtain ⟨hI1, hP1, hr⟩ := h
  have cap : ∀ (g : gb_F) (w2 : Int64), gb_I 0 g → gb_Pw f1 g → gb_tm (gb_bd (ms_numbered n g w2 0 999) (fun f_37 wl_38 r_39 => gb_lt (gb_u f_37 3 (upd (f_37 3) (Int32.toNatClampNeg 2) r_39)) (fun f_42 => gb_bd (ms_endsLine n f_42 wl_38) (fun f_43 wl_44 _ => (some (f_43, wl_44, ()) : gb_MR Unit))))) (fun f2 _ _ => gb_I 0 f2 ∧ gb_Pw f f2 ∧ (¬ f2 0 8 = 0 ∨ (f 0 4).toInt < (f2 0 4).toInt)) := fun g w2 hg hp => by
    refine gm_bd (mi_numbered (a := 0) (b := 999) hn hg (by decide) (by decide) (by decide)) (fun f3 w3 r3 h3 => gm_lt (fun f4 e4 => ?_))
    have k4 := gb_Iw (i := 2) h3.1 e4 (by decide) (fun _ => by decide) (fun _ => gb_iw h3.2.2 (by decide))
    refine gm_bd (mi_endsLine hn k4.1) (fun f5 w5 _ h5 => gm_some ?_)
    have hp5 := gb_Pwt hp (gb_Pwt h3.2.1.1 (gb_Pwt k4.2.1 h5.2.1))
    exact ⟨h5.1, gb_Pwt hP1.1 hp5, gb_fin hr hp5⟩
  have en : ∀ (g : gb_F) (w2 : Int64), gb_I 0 g → gb_Pw f1 g → gb_tm (gb_bd (ms_endsLine n g w2) (fun f_43 wl_44 _ => (some (f_43, wl_44, ()) : gb_MR Unit))) (fun f2 _ _ => gb_I 0 f2 ∧ gb_Pw f f2 ∧ (¬ f2 0 8 = 0 ∨ (f 0 4).toInt < (f2 0 4).toInt)) := fun g w2 hg hp => by
    refine gm_bd (mi_endsLine hn hg) (fun f5 w5 _ h5 => gm_some ?_)
    have hp5 := gb_Pwt hp h5.2.1
    exact ⟨h5.1, gb_Pwt hP1.1 hp5, gb_fin hr hp5⟩
  have t22 : ∀ (g : gb_F) (w2 : Int64), gb_I 0 g → gb_Pw f1 g → gb_tm (ms_borderLine_22 n g w2 x r) (fun f2 _ _ => gb_I 0 f2 ∧ gb_Pw f f2 ∧ (¬ f2 0 8 = 0 ∨ (f 0 4).toInt < (f2 0 4).toInt)) := fun g w2 hg hp => by
    unfold ms_borderLine_22
    refine gm_if (fun _ => ?_) (fun _ => gm_if (fun _ => cap g w2 hg hp) (fun _ => en g w2 hg hp))
    refine gm_bd (mi_gooseLine hn hg ix') (fun f3 w3 _ h3 => ?_)
    exact gm_if (fun _ => cap f3 w3 h3.1 (gb_Pwt hp h3.2)) (fun _ => en f3 w3 h3.1 (gb_Pwt hp h3.2))
  refine gm_if (fun _ => ?_) (fun _ => t22 f1 w1 hI1 gb_Pwr)
  exact gm_bd (mi_pathLine hn hI1 ix') (fun f3 w3 _ h3 => t22 f3 w3 h3.1 h3.2)
