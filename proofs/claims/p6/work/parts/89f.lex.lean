/-! TOKENS: runs of bytes, words, numbers; the reference's advance() -/
def gb_bl (T : Nat → Int32) (N i : Nat) : Prop := i < N ∧ (T i = 10 ∨ T i = 32)
def gb_lt1 (T : Nat → Int32) (N i : Nat) : Prop := i < N ∧ 97 ≤ (T i).toInt ∧ (T i).toInt ≤ 122
def gb_di (T : Nat → Int32) (N i : Nat) : Prop := i < N ∧ 48 ≤ (T i).toInt ∧ (T i).toInt ≤ 57
def gb_run (P : Nat → Prop) (p e : Nat) : Prop := p ≤ e ∧ (∀ i, p ≤ i → i < e → P i) ∧ ¬ P e
theorem run_uq {P : Nat → Prop} {p e e2 : Nat} (h : gb_run P p e) (g : gb_run P p e2) : e = e2 := by
  obtain ⟨h1, h2, h3⟩ := h
  obtain ⟨g1, g2, g3⟩ := g
  rcases Nat.lt_trichotomy e e2 with c | c | c
  · exact absurd (g2 e h1 c) h3
  · exact c
  · exact absurd (h2 e2 g1 c) g3
theorem run_0 {P : Nat → Prop} {p : Nat} (h : ¬ P p) : gb_run P p p := ⟨Nat.le_refl _, fun i a b => absurd b (by omega), h⟩
theorem run_s {P : Nat → Prop} {p e : Nat} (h : P p) (g : gb_run P (p + 1) e) : gb_run P p e := by
  obtain ⟨g1, g2, g3⟩ := g
  refine ⟨by omega, fun i a b => ?_, g3⟩
  by_cases q : i = p
  · rw [q]; exact h
  · exact g2 i (by omega) b
theorem run_t {P : Nat → Prop} {p : Nat} (h : P p) {e : Nat} (g : gb_run P p e) : gb_run P (p + 1) e := by
  obtain ⟨g1, g2, g3⟩ := g
  have : p ≠ e := fun q => g3 (q ▸ h)
  exact ⟨by omega, fun i a b => g2 i (by omega) b, g3⟩
theorem run_q {P : Nat → Prop} {p e : Nat} (g : gb_run P p e) : gb_run P e e := run_0 g.2.2
/-- the value of so many digits -/
def gb_val (T : Nat → Int32) (q : Nat) : Nat → Int
  | 0 => 0
  | k + 1 => 10 * gb_val T q k + (T (q + k)).toInt - 48
theorem val_b {T : Nat → Int32} {q : Nat} : ∀ k, (∀ i, i < k → 48 ≤ (T (q + i)).toInt ∧ (T (q + i)).toInt ≤ 57) → 0 ≤ gb_val T q k ∧ gb_val T q k < 10 ^ k := by
  intro k
  induction k with
  | zero =>
    intro _
    exact ⟨Int.le_refl _, Int.one_pos⟩
  | succ k ih =>
    intro h
    obtain ⟨a, b⟩ := ih (fun i hi => h i (by omega))
    obtain ⟨c, d⟩ := h k (by omega)
    have e : (10 : Int) ^ (k + 1) = 10 * 10 ^ k := by rw [Int.pow_succ, Int.mul_comm]
    have f : gb_val T q (k + 1) = 10 * gb_val T q k + (T (q + k)).toInt - 48 := rfl
    rw [e, f]
    omega
/-- words by five bits a letter -/
def gb_enc (D : Nat → Nat) : Nat → Nat
  | 0 => 0
  | k + 1 => 32 * gb_enc D k + D k
theorem enc_inj {D E : Nat → Nat} : ∀ k j, (∀ i, i < k → 1 ≤ D i ∧ D i < 32) → (∀ i, i < j → 1 ≤ E i ∧ E i < 32) → gb_enc D k = gb_enc E j → k = j ∧ ∀ i, i < k → D i = E i := by
  intro k
  induction k with
  | zero =>
    intro j _ hE h
    cases j with
    | zero => exact ⟨rfl, fun i hi => absurd hi (Nat.not_lt_zero _)⟩
    | succ j =>
      have := hE j (by omega)
      have e : gb_enc E (j + 1) = 32 * gb_enc E j + E j := rfl
      have z : gb_enc D 0 = 0 := rfl
      omega
  | succ k ih =>
    intro j hD hE h
    have d1 := hD k (by omega)
    have ed : gb_enc D (k + 1) = 32 * gb_enc D k + D k := rfl
    cases j with
    | zero =>
      have z : gb_enc E 0 = 0 := rfl
      omega
    | succ j =>
      have e1 := hE j (by omega)
      have ee : gb_enc E (j + 1) = 32 * gb_enc E j + E j := rfl
      have q1 : D k = E j := by omega
      have q2 : gb_enc D k = gb_enc E j := by omega
      obtain ⟨a, b⟩ := ih j (fun i hi => hD i (by omega)) (fun i hi => hE i (by omega)) q2
      refine ⟨by omega, fun i hi => ?_⟩
      by_cases c : i = k
      · rw [c, q1, a]
      · exact b i (by omega)
theorem enc_b {D : Nat → Nat} : ∀ k, (∀ i, i < k → D i < 32) → gb_enc D k < 32 ^ k := by
  intro k
  induction k with
  | zero =>
    intro _
    exact Nat.one_pos
  | succ k ih =>
    intro h
    have a := ih (fun i hi => h i (by omega))
    have b := h k (by omega)
    have e : (32 : Nat) ^ (k + 1) = 32 * 32 ^ k := by rw [Nat.pow_succ, Nat.mul_comm]
    have f : gb_enc D (k + 1) = 32 * gb_enc D k + D k := rfl
    rw [e, f]
    omega
def gb_wby (l i : Nat) : Int32 := (gb_sbyt.getD l []).getD i 0
def gb_isw (T : Nat → Int32) (q e l : Nat) : Prop := e = q + gb_ln l ∧ ∀ i, i < gb_ln l → T (q + i) = gb_wby l i
def gb_wc (l : Nat) : Int64 := ([525960, 7847525, 3120, 13682792, 66667, 277925, 3197529, 609322612, 591150, 6897268, 663607, 6648, 164968, 1130181, 2273783, 15492, 441972, 398548] : List Int64).getD l 0
def gb_dg (T : Nat → Int32) (q i : Nat) : Nat := (T (q + i)).toInt.toNat - 96
def gb_wdg (l i : Nat) : Nat := (gb_wby l i).toInt.toNat - 96
theorem gb_wtab : ∀ l : Fin 18, gb_enc (gb_wdg l.val) (gb_ln l.val) = (gb_wc l.val).toInt.toNat ∧ 0 ≤ (gb_wc l.val).toInt ∧ gb_ln l.val ≤ 6 := by decide +kernel
theorem gb_wtb2 : ∀ l : Fin 18, ∀ i : Fin 6, i.val < gb_ln l.val → 97 ≤ (gb_wby l.val i.val).toInt ∧ (gb_wby l.val i.val).toInt ≤ 122 := by decide +kernel
theorem gb_wtb3 : ∀ l m : Fin 18, gb_wc l.val = gb_wc m.val → l = m := by decide +kernel
theorem gb_wb {l i : Nat} (hl : l < 18) (hi : i < gb_ln l) : 97 ≤ (gb_wby l i).toInt ∧ (gb_wby l i).toInt ≤ 122 := by
  have := (gb_wtab ⟨l, hl⟩).2.2
  exact gb_wtb2 ⟨l, hl⟩ ⟨i, Nat.lt_of_lt_of_le hi this⟩ hi
theorem gb_wt1 {l : Nat} (hl : l < 18) : gb_enc (gb_wdg l) (gb_ln l) = (gb_wc l).toInt.toNat := (gb_wtab ⟨l, hl⟩).1
theorem gb_wt2 {l : Nat} (hl : l < 18) : 0 ≤ (gb_wc l).toInt := (gb_wtab ⟨l, hl⟩).2.1
theorem gb_wt3 {l : Nat} (hl : l < 18) : gb_ln l ≤ 6 := (gb_wtab ⟨l, hl⟩).2.2
theorem enc_cg {D E : Nat → Nat} : ∀ k, (∀ i, i < k → D i = E i) → gb_enc D k = gb_enc E k := by
  intro k
  induction k with
  | zero => intro _; rfl
  | succ k ih =>
    intro h
    have a := ih (fun i hi => h i (by omega))
    have b := h k (by omega)
    show 32 * gb_enc D k + D k = 32 * gb_enc E k + E k
    rw [a, b]
/-- a row of letters is the word that its number tells -/
theorem isw_mp {T : Nat → Int32} {q e l : Nat} (hl : l < 18) (h : gb_isw T q e l) : gb_enc (gb_dg T q) (e - q) = (gb_wc l).toInt.toNat := by
  obtain ⟨h1, h2⟩ := h
  have e1 : e - q = gb_ln l := by omega
  rw [e1, ← gb_wt1 hl]
  refine enc_cg _ (fun i hi => ?_)
  unfold gb_dg gb_wdg
  rw [h2 i hi]
theorem isw_mr {T : Nat → Int32} {q e l : Nat} (hl : l < 18) (hqe : q ≤ e) (hT : ∀ i, q ≤ i → i < e → 97 ≤ (T i).toInt ∧ (T i).toInt ≤ 122) (h : gb_enc (gb_dg T q) (e - q) = (gb_wc l).toInt.toNat) : gb_isw T q e l := by
  have h' : gb_enc (gb_dg T q) (e - q) = gb_enc (gb_wdg l) (gb_ln l) := h.trans (gb_wt1 hl).symm
  have d1 : ∀ i, i < e - q → 1 ≤ gb_dg T q i ∧ gb_dg T q i < 32 := fun i hi => by
    have := hT (q + i) (by omega) (by omega)
    unfold gb_dg
    omega
  have d2 : ∀ i, i < gb_ln l → 1 ≤ gb_wdg l i ∧ gb_wdg l i < 32 := fun i hi => by
    have := gb_wb hl hi
    unfold gb_wdg
    omega
  obtain ⟨h1, h2⟩ := enc_inj (e - q) (gb_ln l) d1 d2 h'
  refine ⟨by omega, fun i hi => ?_⟩
  have a := h2 i (by omega)
  have b := hT (q + i) (by omega) (by omega)
  have c := gb_wb hl hi
  unfold gb_dg gb_wdg at a
  exact gb_ieq (by omega)
theorem isw_iff {T : Nat → Int32} {q e l : Nat} (hl : l < 18) (hqe : q ≤ e) (hT : ∀ i, q ≤ i → i < e → 97 ≤ (T i).toInt ∧ (T i).toInt ≤ 122) : gb_isw T q e l ↔ gb_enc (gb_dg T q) (e - q) = (gb_wc l).toInt.toNat := ⟨isw_mp hl, isw_mr hl hqe hT⟩
theorem isw_uq {T : Nat → Int32} {q e l m : Nat} (hl : l < 18) (hm : m < 18) (h : gb_isw T q e l) (g : gb_isw T q e m) : l = m := by
  have hT : ∀ i, q ≤ i → i < e → 97 ≤ (T i).toInt ∧ (T i).toInt ≤ 122 := fun i a b => by
    have h1 := h.1
    have := h.2 (i - q) (by omega)
    rw [show q + (i - q) = i by omega] at this
    rw [this]
    exact gb_wb hl (by omega)
  have hqe : q ≤ e := by
    have := h.1
    omega
  have a := (isw_iff hl hqe hT).mp h
  have b := (isw_iff hm hqe hT).mp g
  have c1 := (gb_wtab ⟨l, hl⟩).2.1
  have c2 := (gb_wtab ⟨m, hm⟩).2.1
  have d : gb_wc l = gb_wc m := Int64.toInt_inj.mp (by
    have c1' : 0 ≤ (gb_wc l).toInt := c1
    have c2' : 0 ≤ (gb_wc m).toInt := c2
    omega)
  have := gb_wtb3 ⟨l, hl⟩ ⟨m, hm⟩ d
  exact Fin.mk.inj this
theorem lg_c0 {x y : Int64} (h : lg_cmp x y = 0) : x = y := by
  unfold lg_cmp at h
  by_cases a : x > y
  · rw [if_pos a] at h
    exact absurd h (by decide)
  · rw [if_neg a] at h
    by_cases b : x = y
    · exact b
    · rw [if_neg b] at h
      exact absurd h (by decide)
theorem lg_c1 {x y : Int64} (h : ¬ lg_cmp x y = 0) : ¬ x = y := fun e => h (by
  subst e
  unfold lg_cmp
  rw [if_neg (by exact fun q => absurd q Int64.lt_irrefl), if_pos rfl])
theorem mh_four {n : Nat} {f : gb_F} {w : Int64} {a b c d : Int32} {l : Nat} (h : (((((((a * 32) + b) * 32) + c) * 32) + d).toInt64) = gb_wc l) : gb_hm (ms_four n f w a b c d) (fun f2 w2 r => f2 = f ∧ w2 = w ∧ r = gb_wc l) := hm_some ⟨rfl, rfl, h⟩
theorem mh_eight {n : Nat} {f : gb_F} {w : Int64} {a b c d a2 b2 c2 d2 : Int32} {l : Nat} (h : ((((((((a * 32) + b) * 32) + c) * 32) + d).toInt64) * 1048576) + (((((((a2 * 32) + b2) * 32) + c2) * 32) + d2).toInt64) = gb_wc l) : gb_hm (ms_eight n f w a b c d a2 b2 c2 d2) (fun f2 w2 r => f2 = f ∧ w2 = w ∧ r = gb_wc l) := hm_some ⟨rfl, rfl, h⟩
theorem mh_wordOf {n : Nat} {f : gb_F} {w v : Int64} : gb_hm (ms_wordOf n f w v) (fun f2 w2 r => f2 = f ∧ w2 = w ∧ ((∃ l : Nat, l < 18 ∧ v = gb_wc l ∧ r.toInt = ((l + 1 : Nat) : Int) ∧ ¬ r = 99) ∨ ((∀ l, l < 18 → ¬ v = gb_wc l) ∧ r = 99))) := by
  unfold ms_wordOf
  refine hm_bd (mh_four (l := 0) (by decide +kernel)) (fun g0 u0 r h => ?_)
  obtain ⟨rfl, rfl, rfl⟩ := h
  refine hm_if (fun c => hm_some ⟨rfl, rfl, Or.inl ⟨0, by decide, lg_c0 c, by decide, by decide⟩⟩) (fun c0 => ?_)
  refine hm_bd (mh_eight (l := 1) (by decide +kernel)) (fun g1 u1 r h => ?_)
  obtain ⟨rfl, rfl, rfl⟩ := h
  refine hm_if (fun c => hm_some ⟨rfl, rfl, Or.inl ⟨1, by decide, lg_c0 c, by decide, by decide⟩⟩) (fun c1 => ?_)
  refine hm_bd (mh_four (l := 2) (by decide +kernel)) (fun g2 u2 r h => ?_)
  obtain ⟨rfl, rfl, rfl⟩ := h
  refine hm_if (fun c => hm_some ⟨rfl, rfl, Or.inl ⟨2, by decide, lg_c0 c, by decide, by decide⟩⟩) (fun c2 => ?_)
  refine hm_bd (mh_eight (l := 3) (by decide +kernel)) (fun g3 u3 r h => ?_)
  obtain ⟨rfl, rfl, rfl⟩ := h
  refine hm_if (fun c => hm_some ⟨rfl, rfl, Or.inl ⟨3, by decide, lg_c0 c, by decide, by decide⟩⟩) (fun c3 => ?_)
  refine hm_bd (mh_four (l := 4) (by decide +kernel)) (fun g4 u4 r h => ?_)
  obtain ⟨rfl, rfl, rfl⟩ := h
  refine hm_if (fun c => hm_some ⟨rfl, rfl, Or.inl ⟨4, by decide, lg_c0 c, by decide, by decide⟩⟩) (fun c4 => ?_)
  refine hm_bd (mh_four (l := 5) (by decide +kernel)) (fun g5 u5 r h => ?_)
  obtain ⟨rfl, rfl, rfl⟩ := h
  refine hm_if (fun c => hm_some ⟨rfl, rfl, Or.inl ⟨5, by decide, lg_c0 c, by decide, by decide⟩⟩) (fun c5 => ?_)
  refine hm_bd (mh_eight (l := 6) (by decide +kernel)) (fun g6 u6 r h => ?_)
  obtain ⟨rfl, rfl, rfl⟩ := h
  refine hm_if (fun c => hm_some ⟨rfl, rfl, Or.inl ⟨6, by decide, lg_c0 c, by decide, by decide⟩⟩) (fun c6 => ?_)
  refine hm_bd (mh_eight (l := 7) (by decide +kernel)) (fun g7 u7 r h => ?_)
  obtain ⟨rfl, rfl, rfl⟩ := h
  refine hm_if (fun c => hm_some ⟨rfl, rfl, Or.inl ⟨7, by decide, lg_c0 c, by decide, by decide⟩⟩) (fun c7 => ?_)
  refine hm_bd (mh_four (l := 8) (by decide +kernel)) (fun g8 u8 r h => ?_)
  obtain ⟨rfl, rfl, rfl⟩ := h
  refine hm_if (fun c => hm_some ⟨rfl, rfl, Or.inl ⟨8, by decide, lg_c0 c, by decide, by decide⟩⟩) (fun c8 => ?_)
  refine hm_bd (mh_eight (l := 9) (by decide +kernel)) (fun g9 u9 r h => ?_)
  obtain ⟨rfl, rfl, rfl⟩ := h
  refine hm_if (fun c => hm_some ⟨rfl, rfl, Or.inl ⟨9, by decide, lg_c0 c, by decide, by decide⟩⟩) (fun c9 => ?_)
  refine hm_bd (mh_four (l := 10) (by decide +kernel)) (fun g10 u10 r h => ?_)
  obtain ⟨rfl, rfl, rfl⟩ := h
  refine hm_if (fun c => hm_some ⟨rfl, rfl, Or.inl ⟨10, by decide, lg_c0 c, by decide, by decide⟩⟩) (fun c10 => ?_)
  refine hm_bd (mh_four (l := 11) (by decide +kernel)) (fun g11 u11 r h => ?_)
  obtain ⟨rfl, rfl, rfl⟩ := h
  refine hm_if (fun c => hm_some ⟨rfl, rfl, Or.inl ⟨11, by decide, lg_c0 c, by decide, by decide⟩⟩) (fun c11 => ?_)
  refine hm_bd (mh_four (l := 12) (by decide +kernel)) (fun g12 u12 r h => ?_)
  obtain ⟨rfl, rfl, rfl⟩ := h
  refine hm_if (fun c => hm_some ⟨rfl, rfl, Or.inl ⟨12, by decide, lg_c0 c, by decide, by decide⟩⟩) (fun c12 => ?_)
  refine hm_bd (mh_eight (l := 13) (by decide +kernel)) (fun g13 u13 r h => ?_)
  obtain ⟨rfl, rfl, rfl⟩ := h
  refine hm_if (fun c => hm_some ⟨rfl, rfl, Or.inl ⟨13, by decide, lg_c0 c, by decide, by decide⟩⟩) (fun c13 => ?_)
  refine hm_bd (mh_eight (l := 14) (by decide +kernel)) (fun g14 u14 r h => ?_)
  obtain ⟨rfl, rfl, rfl⟩ := h
  refine hm_if (fun c => hm_some ⟨rfl, rfl, Or.inl ⟨14, by decide, lg_c0 c, by decide, by decide⟩⟩) (fun c14 => ?_)
  refine hm_bd (mh_four (l := 15) (by decide +kernel)) (fun g15 u15 r h => ?_)
  obtain ⟨rfl, rfl, rfl⟩ := h
  refine hm_if (fun c => hm_some ⟨rfl, rfl, Or.inl ⟨15, by decide, lg_c0 c, by decide, by decide⟩⟩) (fun c15 => ?_)
  refine hm_bd (mh_four (l := 16) (by decide +kernel)) (fun g16 u16 r h => ?_)
  obtain ⟨rfl, rfl, rfl⟩ := h
  refine hm_if (fun c => hm_some ⟨rfl, rfl, Or.inl ⟨16, by decide, lg_c0 c, by decide, by decide⟩⟩) (fun c16 => ?_)
  refine hm_bd (mh_four (l := 17) (by decide +kernel)) (fun g17 u17 r h => ?_)
  obtain ⟨rfl, rfl, rfl⟩ := h
  refine hm_if (fun c => hm_some ⟨rfl, rfl, Or.inl ⟨17, by decide, lg_c0 c, by decide, by decide⟩⟩) (fun c17 => ?_)
  refine hm_some ⟨rfl, rfl, Or.inr ⟨fun l hl => ?_, rfl⟩⟩
  match l, hl with
  | 0, _ => exact lg_c1 c0
  | 1, _ => exact lg_c1 c1
  | 2, _ => exact lg_c1 c2
  | 3, _ => exact lg_c1 c3
  | 4, _ => exact lg_c1 c4
  | 5, _ => exact lg_c1 c5
  | 6, _ => exact lg_c1 c6
  | 7, _ => exact lg_c1 c7
  | 8, _ => exact lg_c1 c8
  | 9, _ => exact lg_c1 c9
  | 10, _ => exact lg_c1 c10
  | 11, _ => exact lg_c1 c11
  | 12, _ => exact lg_c1 c12
  | 13, _ => exact lg_c1 c13
  | 14, _ => exact lg_c1 c14
  | 15, _ => exact lg_c1 c15
  | 16, _ => exact lg_c1 c16
  | 17, _ => exact lg_c1 c17
  | l + 18, hl => exact absurd hl (by omega)
/-! the reference's lexer: the tape as T, its length as N -/
def gb_cx (T : Nat → Int32) (N : Nat) (f : gb_F) : Prop := (f 0 2).toInt = N ∧ N ≤ 600 ∧ (∀ i, i < N → f 1 (10 + i) = T i) ∧ ∀ i, i < N → 0 ≤ (T i).toInt
def gb_vf (f f2 : gb_F) : Prop := f2 1 = f 1 ∧ f2 2 = f 2 ∧ f2 3 = f 3 ∧ f2 0 8 = f 0 8 ∧ f2 0 9 = f 0 9 ∧ f2 0 2 = f 0 2
theorem vf_t {f g h : gb_F} (a : gb_vf f g) (b : gb_vf g h) : gb_vf f h := ⟨b.1.trans a.1, b.2.1.trans a.2.1, b.2.2.1.trans a.2.2.1, b.2.2.2.1.trans a.2.2.2.1, b.2.2.2.2.1.trans a.2.2.2.2.1, b.2.2.2.2.2.trans a.2.2.2.2.2⟩
theorem vf_r {f : gb_F} : gb_vf f f := ⟨rfl, rfl, rfl, rfl, rfl, rfl⟩
theorem vf_u {f : gb_F} {j : Nat} {v : Int32} (h : j ≠ 8 ∧ j ≠ 9 ∧ j ≠ 2) : gb_vf f (gb_u f 0 (upd (f 0) j v)) := ⟨gb_un (by decide), gb_un (by decide), gb_un (by decide), by rw [gb_us, pk_un (Ne.symm h.1)], by rw [gb_us, pk_un (Ne.symm h.2.1)], by rw [gb_us, pk_un (Ne.symm h.2.2)]⟩
theorem cx_v {T : Nat → Int32} {N : Nat} {f f2 : gb_F} (h : gb_cx T N f) (g : gb_vf f f2) : gb_cx T N f2 := by
  obtain ⟨h1, h2, h3, h4⟩ := h
  refine ⟨by rw [g.2.2.2.2.2]; exact h1, h2, fun i hi => by rw [g.1]; exact h3 i hi, h4⟩
theorem mh_byte {n : Nat} {T : Nat → Int32} {N : Nat} {f : gb_F} {w : Int64} {p : Int32} {i : Nat} (h : gb_cx T N f) (e : p.toInt = i) : gb_hm (ms_byteAt n f w p) (fun f2 w2 r => f2 = f ∧ w2 = w ∧ (i < N ∧ r = T i ∨ N ≤ i ∧ r = -1)) := by
  unfold ms_byteAt
  obtain ⟨h1, h2, h3, h4⟩ := h
  have c10 : (10 : Int32).toInt = 10 := by decide
  refine hm_if (fun c => hm_some ⟨rfl, rfl, Or.inr ⟨by have := gi_le c; omega, rfl⟩⟩) (fun c => hm_ck (fun _ _ => hm_lt (fun x ex => hm_some ⟨rfl, rfl, Or.inl ⟨by have := gi_nle c; omega, ?_⟩⟩)))
  have hi : i < N := by
    have := gi_nle c
    omega
  have ep : (10 + p).toInt = ((10 + i : Nat) : Int) := by
    rw [gb_tadd (by omega) (by omega), c10, e]
    omega
  rw [ex, gi_tn ep]
  exact h3 i hi
theorem mh_isLetter {n : Nat} {f : gb_F} {w : Int64} {p : Int32} : gb_hm (ms_isLetter n f w p) (fun f2 w2 r => f2 = f ∧ w2 = w ∧ (r = 1 ∧ 97 ≤ p.toInt ∧ p.toInt ≤ 122 ∨ r = 0 ∧ ¬ (97 ≤ p.toInt ∧ p.toInt ≤ 122))) := hm_mono (hm_of mt_isLetterE) (fun f2 w2 r h => ⟨h.1, h.2.1, by
  rcases h.2.2 with q | q
  · exact Or.inl ⟨q.2, q.1.1, q.1.2⟩
  · exact Or.inr ⟨q.2, fun z => q.1 ⟨z.1, z.2⟩⟩⟩)
theorem mh_isDigit {n : Nat} {f : gb_F} {w : Int64} {p : Int32} : gb_hm (ms_isDigit n f w p) (fun f2 w2 r => f2 = f ∧ w2 = w ∧ (r = 1 ∧ 48 ≤ p.toInt ∧ p.toInt ≤ 57 ∨ r = 0 ∧ ¬ (48 ≤ p.toInt ∧ p.toInt ≤ 57))) := hm_mono (hm_of mt_isDigitE) (fun f2 w2 r h => ⟨h.1, h.2.1, by
  rcases h.2.2 with q | q
  · exact Or.inl ⟨q.2, q.1.1, q.1.2⟩
  · exact Or.inr ⟨q.2, fun z => q.1 ⟨z.1, z.2⟩⟩⟩)
/-- the token that begins at q is told by the fields -/
def gb_tk (T : Nat → Int32) (N : Nat) (f : gb_F) (q : Nat) : Prop := (f 0 4).toInt = q ∧ q ≤ N ∧ ¬ gb_bl T N q ∧
  ((q = N ∧ f 0 5 = 0) ∨
   (∃ e, gb_run (gb_lt1 T N) q e ∧ q < e ∧ (f 0 3).toInt = e ∧ ((∃ l : Nat, l < 18 ∧ gb_isw T q e l ∧ f 0 5 = 3 ∧ (f 0 7).toInt = ((l + 1 : Nat) : Int)) ∨ ((∀ l, l < 18 → ¬ gb_isw T q e l) ∧ f 0 5 = 4))) ∨
   (∃ e, gb_run (gb_di T N) q e ∧ q < e ∧ (f 0 3).toInt = e ∧ ((3 < e - q ∧ f 0 5 = 4) ∨ (e - q ≤ 3 ∧ f 0 5 = 1 ∧ (f 0 6).toInt = gb_val T q (e - q)))) ∨
   (q < N ∧ ¬ gb_lt1 T N q ∧ ¬ gb_di T N q ∧ (f 0 3).toInt = ((q + 1 : Nat) : Int) ∧ ((T q = 59 ∧ f 0 5 = 2) ∨ (¬ T q = 59 ∧ f 0 5 = 4))))
set_option maxHeartbeats 2000000 in
theorem mh_adv198 {n : Nat} {T : Nat → Int32} {N q : Nat} (hq : q < N) (hb : ¬ gb_bl T N q) (hd : gb_di T N q) : ∀ (mm : Nat) (f : gb_F) (w : Int64) (p : Nat), gb_cx T N f → (f 0 4).toInt = q → (f 0 3).toInt = p → q ≤ p → p ≤ N → (∀ i, q ≤ i → i < p → gb_di T N i) → (p - q ≤ 3 → (f 0 6).toInt = gb_val T q (p - q)) → gb_hm (ms_advance_198 n mm f w) (fun f2 _ _ => gb_vf f f2 ∧ gb_tk T N f2 q) := by
  intro mm
  induction mm with
  | zero =>
    intros
    exact hm_none
  | succ mm ih =>
    intro f w p hx h4 h3 hqp hpN hD hv
    rw [ms_advance_198]
    have c3 : (3 : Int32).toInt = 3 := by decide
    have c10 : (10 : Int32).toInt = 10 := by decide
    have c48 : (48 : Int32).toInt = 48 := by decide
    have hN := hx.2.1
    refine hm_bd (mh_byte hx h3) (fun f1 w1 r h => ?_)
    obtain ⟨rfl, rfl, hr⟩ := h
    refine hm_bd mh_isDigit (fun f2 w2 r2 h => ?_)
    obtain ⟨rfl, rfl, hr2⟩ := h
    have hsub : ((f2 0 3) - (f2 0 4)).toInt = ((p - q : Nat) : Int) := by
      rw [gb_tsub (by omega) (by omega), h3, h4]
      omega
    refine hm_if (fun c => ?_) (fun c => ?_)
    · have hnd : ¬ gb_di T N p := fun z => by
        rcases hr2 with y | y
        · rw [c] at y
          exact absurd y.1 (by decide)
        · rcases hr with x | x
          · rw [x.2] at y
            exact y.2 ⟨z.2.1, z.2.2⟩
          · have := z.1
            omega
      have hrun : gb_run (gb_di T N) q p := ⟨hqp, hD, hnd⟩
      have hlt : q < p := by
        rcases Nat.lt_or_ge q p with z | z
        · exact z
        · have : q = p := by omega
          exact absurd (this ▸ hd) hnd
      refine hm_if (fun d => hm_lt (fun g eg => hm_some ?_)) (fun d => hm_lt (fun g eg => hm_some ?_))
      · have := gi_le d
        have g0 : ∀ j, j ≠ 5 → g 0 j = f2 0 j := fun j hj => by rw [eg, gb_us, pk_un hj]
        refine ⟨by rw [eg]; exact vf_u (by decide), by rw [g0 4 (by decide)]; exact h4, Nat.le_of_lt hq, hb, Or.inr (Or.inr (Or.inl ⟨p, hrun, hlt, by rw [g0 3 (by decide)]; exact h3, Or.inr ⟨by omega, by rw [eg, gb_us, pk_us], ?_⟩⟩))⟩
        rw [g0 6 (by decide)]
        exact hv (by omega)
      · have := gi_nle d
        have g0 : ∀ j, j ≠ 5 → g 0 j = f2 0 j := fun j hj => by rw [eg, gb_us, pk_un hj]
        exact ⟨by rw [eg]; exact vf_u (by decide), by rw [g0 4 (by decide)]; exact h4, Nat.le_of_lt hq, hb, Or.inr (Or.inr (Or.inl ⟨p, hrun, hlt, by rw [g0 3 (by decide)]; exact h3, Or.inl ⟨by omega, by rw [eg, gb_us, pk_us]⟩⟩))⟩
    · have hdp : gb_di T N p := by
        rcases hr2 with y | y
        · rcases hr with x | x
          · rw [x.2] at y
            exact ⟨x.1, y.2⟩
          · rw [x.2] at y
            exact absurd y.2.1 (by decide)
        · exact absurd y.1 c
      have hpl := hdp.1
      have hD2 : ∀ i, q ≤ i → i < p + 1 → gb_di T N i := fun i a b => by
        by_cases z : i = p
        · rw [z]; exact hdp
        · exact hD i a (by omega)
      have inc : (f2 0 3 + 1).toInt = ((p + 1 : Nat) : Int) := gi_s1 h3 (by omega)
      refine hm_if (fun d => hm_lt (fun g eg => ?_)) (fun d => ?_)
      · have := gi_le d
        have g0 : ∀ j, j ≠ 3 → g 0 j = f2 0 j := fun j hj => by rw [eg, gb_us, pk_un hj]
        have vg : gb_vf f2 g := by rw [eg]; exact vf_u (by decide)
        refine hm_mono (ih g _ (p + 1) (cx_v hx vg) (by rw [g0 4 (by decide)]; exact h4) (by rw [eg, gb_us, pk_us]; exact inc) (by omega) (by omega) hD2 (fun z => absurd z (by omega))) (fun _ _ _ h => ⟨vf_t vg h.1, h.2⟩)
      · have hlt3 := gi_nle d
        refine hm_bd (mh_byte hx h3) (fun f3 w3 r3 h => ?_)
        obtain ⟨rfl, rfl, hr3⟩ := h
        have er3 : r3 = T p := by
          rcases hr3 with z | z
          · exact z.2
          · omega
        refine hm_lt (fun g eg => hm_lt (fun g2 eg2 => ?_))
        have vg : gb_vf f3 g := by rw [eg]; exact vf_u (by decide)
        have vg2 : gb_vf g g2 := by rw [eg2]; exact vf_u (by decide)
        have a1 : g2 0 4 = f3 0 4 := by rw [eg2, gb_us, pk_un (by decide), eg, gb_us, pk_un (by decide)]
        have a2 : g2 0 3 = f3 0 3 + 1 := by rw [eg2, gb_us, pk_us, eg, gb_us, pk_un (by decide)]
        have a3 : g2 0 6 = 10 * (f3 0 6) + r3 - 48 := by rw [eg2, gb_us, pk_un (by decide), eg, gb_us, pk_us]
        refine hm_mono (ih g2 _ (p + 1) (cx_v hx (vf_t vg vg2)) (by rw [a1]; exact h4) (by rw [a2]; exact inc) (by omega) (by omega) hD2 (fun z => ?_)) (fun _ _ _ h => ⟨vf_t (vf_t vg vg2) h.1, h.2⟩)
        have hv2 := hv (by omega)
        have bd := val_b (T := T) (q := q) (p - q) (fun i hi => (hD (q + i) (by omega) (by omega)).2)
        have p3 : (10 : Int) ^ (p - q) ≤ 100 := by
          have : p - q = 0 ∨ p - q = 1 ∨ p - q = 2 := by omega
          rcases this with z | z | z <;> (rw [z]; decide)
        have tp := hdp.2
        have e1 : p + 1 - q = (p - q) + 1 := by omega
        have e2 : q + (p - q) = p := by omega
        have m1 : (10 * (f3 0 6)).toInt = 10 * gb_val T q (p - q) := by
          rw [gb_tmul (by rw [c10, hv2]; omega) (by rw [c10, hv2]; omega), c10, hv2]
        have m2 : (10 * (f3 0 6) + r3).toInt = 10 * gb_val T q (p - q) + (T p).toInt := by
          rw [gb_tadd (by rw [m1, er3]; omega) (by rw [m1, er3]; omega), m1, er3]
        have m3 : (10 * (f3 0 6) + r3 - 48).toInt = 10 * gb_val T q (p - q) + (T p).toInt - 48 := by
          rw [gb_tsub (by rw [m2, c48]; omega) (by rw [m2, c48]; omega), m2, c48]
        rw [a3, m3, e1]
        show _ = 10 * gb_val T q (p - q) + (T (q + (p - q))).toInt - 48
        rw [e2]
theorem gi_64 {z : Int} (h1 : 0 ≤ z) (h2 : z < 9000000000000000000) : z.bmod (2 ^ 64) = z := by
  show z.bmod 18446744073709551616 = z
  exact Int.bmod_eq_of_le (by omega) (by omega)
set_option maxHeartbeats 2000000 in
theorem mh_adv77 {n : Nat} {T : Nat → Int32} {N q : Nat} (hq : q < N) (hb : ¬ gb_bl T N q) (hd : gb_lt1 T N q) : ∀ (mm : Nat) (f : gb_F) (w v : Int64) (p : Nat), gb_cx T N f → (f 0 4).toInt = q → (f 0 3).toInt = p → q ≤ p → p ≤ N → (∀ i, q ≤ i → i < p → gb_lt1 T N i) → (p - q ≤ 8 → v.toInt = (gb_enc (gb_dg T q) (p - q) : Nat)) → gb_hm (ms_advance_77 n mm f w v) (fun f2 _ _ => gb_vf f f2 ∧ gb_tk T N f2 q) := by
  intro mm
  induction mm with
  | zero =>
    intros
    exact hm_none
  | succ mm ih =>
    intro f w v p hx h4 h3 hqp hpN hD hv
    rw [ms_advance_77]
    have c8 : (8 : Int32).toInt = 8 := by decide
    have c32 : (32 : Int64).toInt = 32 := by decide
    have c96 : (96 : Int64).toInt = 96 := by decide
    have hN := hx.2.1
    refine hm_bd (mh_byte hx h3) (fun f1 w1 r h => ?_)
    obtain ⟨rfl, rfl, hr⟩ := h
    refine hm_bd mh_isLetter (fun f2 w2 r2 h => ?_)
    obtain ⟨rfl, rfl, hr2⟩ := h
    have hsub : ((f2 0 3) - (f2 0 4)).toInt = ((p - q : Nat) : Int) := by
      rw [gb_tsub (by omega) (by omega), h3, h4]
      omega
    refine hm_if (fun c => ?_) (fun c => ?_)
    · have hnd : ¬ gb_lt1 T N p := fun z => by
        rcases hr2 with y | y
        · rw [c] at y
          exact absurd y.1 (by decide)
        · rcases hr with x | x
          · rw [x.2] at y
            exact y.2 ⟨z.2.1, z.2.2⟩
          · have := z.1
            omega
      have hrun : gb_run (gb_lt1 T N) q p := ⟨hqp, hD, hnd⟩
      have hlt : q < p := by
        rcases Nat.lt_or_ge q p with z | z
        · exact z
        · have : q = p := by omega
          exact absurd (this ▸ hd) hnd
      have hlet : ∀ i, q ≤ i → i < p → 97 ≤ (T i).toInt ∧ (T i).toInt ≤ 122 := fun i a b => (hD i a b).2
      refine hm_if (fun d => ?_) (fun d => ?_)
      · have hle := gi_le d
        have hv2 := hv (by omega)
        refine hm_bd mh_wordOf (fun f3 w3 r3 h => ?_)
        obtain ⟨rfl, rfl, h3w⟩ := h
        refine hm_lt (fun g eg => ?_)
        have vg : gb_vf f3 g := by rw [eg]; exact vf_u (by decide)
        have g7 : g 0 7 = r3 := by rw [eg, gb_us, pk_us]
        have g0 : ∀ j, j ≠ 7 → g 0 j = f3 0 j := fun j hj => by rw [eg, gb_us, pk_un hj]
        refine hm_if (fun z => hm_lt (fun k ek => hm_some ?_)) (fun z => hm_lt (fun k ek => hm_some ?_))
        · have k0 : ∀ j, j ≠ 5 → k 0 j = g 0 j := fun j hj => by rw [ek, gb_us, pk_un hj]
          refine ⟨vf_t vg (by rw [ek]; exact vf_u (by decide)), by rw [k0 4 (by decide), g0 4 (by decide)]; exact h4, Nat.le_of_lt hq, hb, Or.inr (Or.inl ⟨p, hrun, hlt, by rw [k0 3 (by decide), g0 3 (by decide)]; exact h3, Or.inr ⟨fun l hl hi => ?_, by rw [ek, gb_us, pk_us]⟩⟩)⟩
          rw [g7] at z
          rcases h3w with y | y
          · obtain ⟨l2, -, -, -, y4⟩ := y
            exact y4 z
          · have a := (isw_iff hl hqp hlet).mp hi
            have b := (gb_wtab ⟨l, hl⟩).2.1
            have b' : 0 ≤ (gb_wc l).toInt := b
            exact y.1 l hl (Int64.toInt_inj.mp (by rw [hv2, a]; omega))
        · have k0 : ∀ j, j ≠ 5 → k 0 j = g 0 j := fun j hj => by rw [ek, gb_us, pk_un hj]
          rw [g7] at z
          rcases h3w with y | y
          · obtain ⟨l, hl, y2, y3, -⟩ := y
            refine ⟨vf_t vg (by rw [ek]; exact vf_u (by decide)), by rw [k0 4 (by decide), g0 4 (by decide)]; exact h4, Nat.le_of_lt hq, hb, Or.inr (Or.inl ⟨p, hrun, hlt, by rw [k0 3 (by decide), g0 3 (by decide)]; exact h3, Or.inl ⟨l, hl, ?_, by rw [ek, gb_us, pk_us], by rw [k0 7 (by decide), g7]; exact y3⟩⟩)⟩
            refine (isw_iff hl hqp hlet).mpr ?_
            rw [y2] at hv2
            omega
          · exact absurd y.2 z
      · have hgt := gi_nle d
        refine hm_lt (fun g eg => ?_)
        have vg : gb_vf f2 g := by rw [eg]; exact vf_u (by decide)
        have g7 : g 0 7 = 99 := by rw [eg, gb_us, pk_us]
        have g0 : ∀ j, j ≠ 7 → g 0 j = f2 0 j := fun j hj => by rw [eg, gb_us, pk_un hj]
        refine hm_if (fun z => hm_lt (fun k ek => hm_some ?_)) (fun z => absurd g7 z)
        have k0 : ∀ j, j ≠ 5 → k 0 j = g 0 j := fun j hj => by rw [ek, gb_us, pk_un hj]
        refine ⟨vf_t vg (by rw [ek]; exact vf_u (by decide)), by rw [k0 4 (by decide), g0 4 (by decide)]; exact h4, Nat.le_of_lt hq, hb, Or.inr (Or.inl ⟨p, hrun, hlt, by rw [k0 3 (by decide), g0 3 (by decide)]; exact h3, Or.inr ⟨fun l hl hi => ?_, by rw [ek, gb_us, pk_us]⟩⟩)⟩
        have a := hi.1
        have b : gb_ln l ≤ 6 := (gb_wtab ⟨l, hl⟩).2.2
        omega
    · have hdp : gb_lt1 T N p := by
        rcases hr2 with y | y
        · rcases hr with x | x
          · rw [x.2] at y
            exact ⟨x.1, y.2⟩
          · rw [x.2] at y
            exact absurd y.2.1 (by decide)
        · exact absurd y.1 c
      have hpl := hdp.1
      have hD2 : ∀ i, q ≤ i → i < p + 1 → gb_lt1 T N i := fun i a b => by
        by_cases z : i = p
        · rw [z]; exact hdp
        · exact hD i a (by omega)
      have inc : (f2 0 3 + 1).toInt = ((p + 1 : Nat) : Int) := gi_s1 h3 (by omega)
      refine hm_if (fun d => hm_lt (fun g eg => ?_)) (fun d => ?_)
      · have := gi_le d
        have g0 : ∀ j, j ≠ 3 → g 0 j = f2 0 j := fun j hj => by rw [eg, gb_us, pk_un hj]
        have vg : gb_vf f2 g := by rw [eg]; exact vf_u (by decide)
        refine hm_mono (ih g _ v (p + 1) (cx_v hx vg) (by rw [g0 4 (by decide)]; exact h4) (by rw [eg, gb_us, pk_us]; exact inc) (by omega) (by omega) hD2 (fun z => absurd z (by omega))) (fun _ _ _ h => ⟨vf_t vg h.1, h.2⟩)
      · have hlt8 := gi_nle d
        refine hm_bd (mh_byte hx h3) (fun f3 w3 r3 h => ?_)
        obtain ⟨rfl, rfl, hr3⟩ := h
        have er3 : r3 = T p := by
          rcases hr3 with z | z
          · exact z.2
          · omega
        refine hm_lt (fun x ex => hm_lt (fun g eg => ?_))
        have g0 : ∀ j, j ≠ 3 → g 0 j = f3 0 j := fun j hj => by rw [eg, gb_us, pk_un hj]
        have vg : gb_vf f3 g := by rw [eg]; exact vf_u (by decide)
        refine hm_mono (ih g _ x (p + 1) (cx_v hx vg) (by rw [g0 4 (by decide)]; exact h4) (by rw [eg, gb_us, pk_us]; exact inc) (by omega) (by omega) hD2 (fun z => ?_)) (fun _ _ _ h => ⟨vf_t vg h.1, h.2⟩)
        have hv2 := hv (by omega)
        have bd := enc_b (D := gb_dg T q) (p - q) (fun i hi => by
          have := (hD (q + i) (by omega) (by omega)).2
          unfold gb_dg
          omega)
        have p8 : (32 : Nat) ^ (p - q) ≤ 32 ^ 8 := Nat.pow_le_pow_right (by decide) (by omega)
        have p9 : (32 : Nat) ^ 8 = 1099511627776 := by decide
        have tp := hdp.2
        have e1 : p + 1 - q = (p - q) + 1 := by omega
        have e2 : q + (p - q) = p := by omega
        have m1 : (32 * v).toInt = 32 * (gb_enc (gb_dg T q) (p - q) : Nat) := by
          rw [Int64.toInt_mul, c32, hv2, gi_64 (by omega) (by omega)]
        have m2 : (32 * v + r3.toInt64).toInt = 32 * (gb_enc (gb_dg T q) (p - q) : Nat) + (T p).toInt := by
          rw [Int64.toInt_add, m1, Int32.toInt_toInt64, er3, gi_64 (by omega) (by omega)]
        have m3 : (32 * v + r3.toInt64 - 96).toInt = 32 * (gb_enc (gb_dg T q) (p - q) : Nat) + (T p).toInt - 96 := by
          rw [Int64.toInt_sub, m2, c96, gi_64 (by omega) (by omega)]
        have e3 : gb_enc (gb_dg T q) (p + 1 - q) = 32 * gb_enc (gb_dg T q) (p - q) + gb_dg T q (p - q) := by
          rw [e1]
          rfl
        have e4 : gb_dg T q (p - q) = (T p).toInt.toNat - 96 := by
          unfold gb_dg
          rw [e2]
        rw [ex, m3, e3, e4]
        omega
/-- a token, its first byte found -/
theorem mh_tok {n : Nat} {T : Nat → Int32} {N q : Nat} {f : gb_F} {w : Int64} (hx : gb_cx T N f) (h3 : (f 0 3).toInt = q) (hqN : q ≤ N) (hb : ¬ gb_bl T N q) : gb_hm (gb_lt (gb_u f 0 (upd (f 0) 4 (f 0 3))) (fun f_21 => gb_bd (ms_byteAt n f_21 w (f_21 0 3)) (fun f_22 wl_23 r_24 => (if (0 : Int32) ≤ r_24 then gb_bd (ms_isLetter n f_22 wl_23 r_24) (fun f_28 wl_29 r_30 => (if r_30 = 0 then gb_bd (ms_isDigit n f_28 wl_29 r_24) (fun f_34 wl_35 r_36 => (if r_36 = 0 then gb_lt (gb_u f_34 0 (upd (f_34 0) 3 ((f_34 0 3) + 1))) (fun f_40 => (if r_24 = 59 then gb_lt (gb_u f_40 0 (upd (f_40 0) 5 2)) (fun f_43 => some (f_43, wl_35, ())) else gb_lt (gb_u f_40 0 (upd (f_40 0) 5 4)) (fun f_42 => some (f_42, wl_35, ())))) else gb_lt (gb_u f_34 0 (upd (f_34 0) 6 0)) (fun f_44 => ms_advance_198 n n f_44 wl_35))) else ms_advance_77 n n f_28 wl_29 0)) else gb_lt (gb_u f_22 0 (upd (f_22 0) 5 0)) (fun f_102 => some (f_102, wl_23, ())))))) (fun f2 _ _ => gb_vf f f2 ∧ gb_tk T N f2 q) := by
  have c0 : (0 : Int32).toInt = 0 := by decide
  have cm1 : (-1 : Int32).toInt = -1 := by decide
  have hN := hx.2.1
  refine hm_lt (fun g eg => ?_)
  have vg : gb_vf f g := by rw [eg]; exact vf_u (by decide)
  have g3 : (g 0 3).toInt = q := by rw [eg, gb_us, pk_un (by decide)]; exact h3
  have g4 : (g 0 4).toInt = q := by rw [eg, gb_us, pk_us]; exact h3
  have hxg := cx_v hx vg
  refine hm_bd (mh_byte hxg g3) (fun f1 w1 r h => ?_)
  obtain ⟨rfl, rfl, hr⟩ := h
  refine hm_if (fun c => ?_) (fun c => hm_lt (fun k ek => hm_some ?_))
  · have c1 := gi_le c
    have hqN2 : q < N ∧ r = T q := by
      rcases hr with z | z
      · exact z
      · rw [z.2] at c1
        omega
    obtain ⟨hq, er⟩ := hqN2
    refine hm_bd mh_isLetter (fun f2 w2 r2 h => ?_)
    obtain ⟨rfl, rfl, h2⟩ := h
    refine hm_if (fun d => ?_) (fun d => ?_)
    · have nl : ¬ gb_lt1 T N q := fun z => by
        rcases h2 with y | y
        · rw [d] at y
          exact absurd y.1 (by decide)
        · rw [er] at y
          exact y.2 z.2
      refine hm_bd mh_isDigit (fun f3 w3 r3 h => ?_)
      obtain ⟨rfl, rfl, h3d⟩ := h
      refine hm_if (fun e => ?_) (fun e => ?_)
      · have nd : ¬ gb_di T N q := fun z => by
          rcases h3d with y | y
          · rw [e] at y
            exact absurd y.1 (by decide)
          · rw [er] at y
            exact y.2 z.2
        refine hm_lt (fun k ek => ?_)
        have vk : gb_vf f3 k := by rw [ek]; exact vf_u (by decide)
        have k3 : (k 0 3).toInt = ((q + 1 : Nat) : Int) := by rw [ek, gb_us, pk_us]; exact gi_s1 g3 (by omega)
        have k4 : (k 0 4).toInt = q := by rw [ek, gb_us, pk_un (by decide)]; exact g4
        refine hm_if (fun s => hm_lt (fun m em => hm_some ?_)) (fun s => hm_lt (fun m em => hm_some ?_))
        · have m0 : ∀ j, j ≠ 5 → m 0 j = k 0 j := fun j hj => by rw [em, gb_us, pk_un hj]
          exact ⟨vf_t (vf_t vg vk) (by rw [em]; exact vf_u (by decide)), by rw [m0 4 (by decide)]; exact k4, hqN, hb, Or.inr (Or.inr (Or.inr ⟨hq, nl, nd, by rw [m0 3 (by decide)]; exact k3, Or.inl ⟨by rw [← er]; exact s, by rw [em, gb_us, pk_us]⟩⟩))⟩
        · have m0 : ∀ j, j ≠ 5 → m 0 j = k 0 j := fun j hj => by rw [em, gb_us, pk_un hj]
          exact ⟨vf_t (vf_t vg vk) (by rw [em]; exact vf_u (by decide)), by rw [m0 4 (by decide)]; exact k4, hqN, hb, Or.inr (Or.inr (Or.inr ⟨hq, nl, nd, by rw [m0 3 (by decide)]; exact k3, Or.inr ⟨by rw [← er]; exact s, by rw [em, gb_us, pk_us]⟩⟩))⟩
      · have hd : gb_di T N q := by
          rcases h3d with y | y
          · rw [er] at y
            exact ⟨hq, y.2⟩
          · exact absurd y.1 e
        refine hm_lt (fun k ek => ?_)
        have vk : gb_vf f3 k := by rw [ek]; exact vf_u (by decide)
        have k0 : ∀ j, j ≠ 6 → k 0 j = f3 0 j := fun j hj => by rw [ek, gb_us, pk_un hj]
        refine hm_mono (mh_adv198 hq hb hd n k _ q (cx_v hxg vk) (by rw [k0 4 (by decide)]; exact g4) (by rw [k0 3 (by decide)]; exact g3) (Nat.le_refl _) (by omega) (fun i a b => absurd b (by omega)) (fun _ => ?_)) (fun _ _ _ h => ⟨vf_t (vf_t vg vk) h.1, h.2⟩)
        rw [ek, gb_us, pk_us, Nat.sub_self]
        rfl
    · have hl : gb_lt1 T N q := by
        rcases h2 with y | y
        · rw [er] at y
          exact ⟨hq, y.2⟩
        · exact absurd y.1 d
      refine hm_mono (mh_adv77 hq hb hl n f2 _ 0 q hxg g4 g3 (Nat.le_refl _) (by omega) (fun i a b => absurd b (by omega)) (fun _ => ?_)) (fun _ _ _ h => ⟨vf_t vg h.1, h.2⟩)
      rw [Nat.sub_self]
      rfl
  · have c1 := gi_nle c
    have hq : q = N := by
      rcases hr with z | z
      · have := hx.2.2.2 q z.1
        rw [z.2] at c1
        omega
      · omega
    have k0 : ∀ j, j ≠ 5 → k 0 j = f1 0 j := fun j hj => by rw [ek, gb_us, pk_un hj]
    exact ⟨vf_t vg (by rw [ek]; exact vf_u (by decide)), by rw [k0 4 (by decide)]; exact g4, hqN, hb, Or.inl ⟨hq, by rw [ek, gb_us, pk_us]⟩⟩
theorem mh_adv0 {n : Nat} {T : Nat → Int32} {N : Nat} : ∀ (mm : Nat) (f : gb_F) (w : Int64) (p : Nat), gb_cx T N f → (f 0 3).toInt = p → p ≤ N → gb_hm (ms_advance_0 n mm f w) (fun f2 _ _ => gb_vf f f2 ∧ ∃ q, gb_run (gb_bl T N) p q ∧ gb_tk T N f2 q) := by
  intro mm
  induction mm with
  | zero =>
    intros
    exact hm_none
  | succ mm ih =>
    intro f w p hx h3 hp
    rw [ms_advance_0]
    have hN := hx.2.1
    have step : ∀ (g : gb_F) (w2 : Int64), gb_bl T N p → g = gb_u f 0 (upd (f 0) 3 ((f 0 3) + 1)) → gb_hm (ms_advance_0 n mm g w2) (fun f2 _ _ => gb_vf f f2 ∧ ∃ q, gb_run (gb_bl T N) p q ∧ gb_tk T N f2 q) := fun g w2 hb eg => by
      have vg : gb_vf f g := by rw [eg]; exact vf_u (by decide)
      have := hb.1
      refine hm_mono (ih g w2 (p + 1) (cx_v hx vg) (by rw [eg, gb_us, pk_us]; exact gi_s1 h3 (by omega)) (by omega)) (fun f2 _ _ h => ⟨vf_t vg h.1, ?_⟩)
      obtain ⟨q, h1, h2⟩ := h.2
      exact ⟨q, run_s hb h1, h2⟩
    refine hm_bd (mh_byte hx h3) (fun f1 w1 r h => ?_)
    obtain ⟨rfl, rfl, hr⟩ := h
    refine hm_if (fun c => hm_lt (fun g eg => step g _ ?_ eg)) (fun c => ?_)
    · rcases hr with z | z
      · exact ⟨z.1, Or.inl (by rw [← z.2]; exact c)⟩
      · rw [z.2] at c
        exact absurd c (by decide)
    · refine hm_bd (mh_byte hx h3) (fun f2 w2 r2 h => ?_)
      obtain ⟨rfl, rfl, hr2⟩ := h
      refine hm_if (fun d => hm_lt (fun g eg => step g _ ?_ eg)) (fun d => ?_)
      · rcases hr2 with z | z
        · exact ⟨z.1, Or.inr (by rw [← z.2]; exact d)⟩
        · rw [z.2] at d
          exact absurd d (by decide)
      · have nb : ¬ gb_bl T N p := fun z => by
          rcases hr with y | y
          · rcases hr2 with y2 | y2
            · rcases z.2 with x | x
              · exact c (by rw [y.2]; exact x)
              · exact d (by rw [y2.2]; exact x)
            · have := z.1
              omega
          · have := z.1
            omega
        exact hm_mono (mh_tok hx h3 hp nb) (fun f3 _ _ h => ⟨h.1, p, run_0 nb, h.2⟩)
theorem mh_advance {n : Nat} {T : Nat → Int32} {N : Nat} {f : gb_F} {w : Int64} {p : Nat} (hx : gb_cx T N f) (h3 : (f 0 3).toInt = p) (hp : p ≤ N) : gb_hm (ms_advance n f w) (fun f2 _ _ => gb_vf f f2 ∧ ∃ q, gb_run (gb_bl T N) p q ∧ gb_tk T N f2 q) := by
  unfold ms_advance
  have hN := hx.2.1
  have step : ∀ (g : gb_F) (w2 : Int64), gb_bl T N p → g = gb_u f 0 (upd (f 0) 3 ((f 0 3) + 1)) → gb_hm (ms_advance_0 n n g w2) (fun f2 _ _ => gb_vf f f2 ∧ ∃ q, gb_run (gb_bl T N) p q ∧ gb_tk T N f2 q) := fun g w2 hb eg => by
    have vg : gb_vf f g := by rw [eg]; exact vf_u (by decide)
    have := hb.1
    refine hm_mono (mh_adv0 n g w2 (p + 1) (cx_v hx vg) (by rw [eg, gb_us, pk_us]; exact gi_s1 h3 (by omega)) (by omega)) (fun f2 _ _ h => ⟨vf_t vg h.1, ?_⟩)
    obtain ⟨q, h1, h2⟩ := h.2
    exact ⟨q, run_s hb h1, h2⟩
  refine hm_bd (mh_byte hx h3) (fun f1 w1 r h => ?_)
  obtain ⟨rfl, rfl, hr⟩ := h
  refine hm_if (fun c => hm_lt (fun g eg => step g _ ?_ eg)) (fun c => ?_)
  · rcases hr with z | z
    · exact ⟨z.1, Or.inl (by rw [← z.2]; exact c)⟩
    · rw [z.2] at c
      exact absurd c (by decide)
  · refine hm_bd (mh_byte hx h3) (fun f2 w2 r2 h => ?_)
    obtain ⟨rfl, rfl, hr2⟩ := h
    refine hm_if (fun d => hm_lt (fun g eg => step g _ ?_ eg)) (fun d => ?_)
    · rcases hr2 with z | z
      · exact ⟨z.1, Or.inr (by rw [← z.2]; exact d)⟩
      · rw [z.2] at d
        exact absurd d (by decide)
    · have nb : ¬ gb_bl T N p := fun z => by
        rcases hr with y | y
        · rcases hr2 with y2 | y2
          · rcases z.2 with x | x
            · exact c (by rw [y.2]; exact x)
            · exact d (by rw [y2.2]; exact x)
          · have := z.1
            omega
        · have := z.1
          omega
      exact hm_mono (mh_tok hx h3 hp nb) (fun f3 _ _ h => ⟨h.1, p, run_0 nb, h.2⟩)
