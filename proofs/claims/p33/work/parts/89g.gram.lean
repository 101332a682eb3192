/-! THE GRAMMAR of lines, pure; bytes of both sides; the class's Reader: blanks, words -/
def gb_num (T : Nat → Int32) (N p q e : Nat) (v : Int) : Prop := gb_run (gb_bl T N) p q ∧ gb_run (gb_di T N) q e ∧ q < e ∧ e - q ≤ 3 ∧ v = gb_val T q (e - q)
def gb_nonum (T : Nat → Int32) (N p q : Nat) : Prop := gb_run (gb_bl T N) p q ∧ ∀ e, gb_run (gb_di T N) q e → e = q ∨ 3 < e - q
def gb_semi (T : Nat → Int32) (N p q : Nat) : Prop := gb_run (gb_bl T N) p q ∧ q < N ∧ T q = 59
def gb_nosemi (T : Nat → Int32) (N p q : Nat) : Prop := gb_run (gb_bl T N) p q ∧ ¬ (q < N ∧ T q = 59)
def gb_kn (l : Nat) : Nat := ([3, 5, 1, 2, 2, 2, 3, 2, 1, 0, 0, 1, 1, 2, 2, 1, 1, 2] : List Nat).getD l 0
def gb_fl (s : Nat) : Nat := ([0, 3, 12, 17, 18] : List Nat).getD s 0
def gb_nums (T : Nat → Int32) (N : Nat) (ps qs : Nat → Nat) (vs : Nat → Int) (k : Nat) : Prop := ∀ i, i < k → gb_num T N (ps i) (qs i) (ps (i + 1)) (vs i)
def gb_word (T : Nat → Int32) (N s a l e : Nat) : Prop := gb_fl s ≤ l ∧ l < gb_fl (s + 1) ∧ gb_run (gb_lt1 T N) a e ∧ gb_isw T a e l
def gb_bad (T : Nat → Int32) (N s a q : Nat) : Prop := (q = a ∧ ∀ l e, ¬ gb_word T N s a l e) ∨ ∃ (l : Nat) (ps qs : Nat → Nat) (vs : Nat → Int) (i : Nat), gb_word T N s a l (ps 0) ∧ gb_nums T N ps qs vs i ∧ ((i < gb_kn l ∧ gb_nonum T N (ps i) q) ∨ (i = gb_kn l ∧ gb_nosemi T N (ps i) q))
def gb_goodl (T : Nat → Int32) (N s a l : Nat) (ps qs : Nat → Nat) (vs : Nat → Int) (e : Nat) : Prop := gb_word T N s a l (ps 0) ∧ gb_nums T N ps qs vs (gb_kn l) ∧ ∃ q, gb_semi T N (ps (gb_kn l)) q ∧ e = q + 1
/-- the first fault told stays -/
def gb_note (fp : Int32 × Int32) (k : Int32) (q : Nat) : Int32 × Int32 := if fp.1 = 0 then (k, nI q) else fp
abbrev gb_can (l i : Nat) (v v0 : Int) : Prop := ¬ (l = 6 ∧ i = 1 ∧ v = v0) ∧ (if l = 0 ∧ i = 0 then (1 : Int) else 0) ≤ v ∧ v ≤ (gb_tb2 (5 * l + i)).toInt
/-- faults of the first so many numbers of a line -/
def gb_ff (l : Nat) (qs : Nat → Nat) (vs : Nat → Int) (fp : Int32 × Int32) : Nat → Int32 × Int32
  | 0 => fp
  | i + 1 => if gb_can l i (vs i) (vs 0) then gb_ff l qs vs fp i else gb_note (gb_ff l qs vs fp i) 2 (qs i)
def gb_byr (c F : Int32) : Prop := (0 ≤ c.toInt ∧ F = c) ∨ (c.toInt < 0 ∧ 128 ≤ F.toInt)
theorem byr_eq {c F k : Int32} (h : gb_byr c F) (h0 : 0 ≤ k.toInt) (h1 : k.toInt ≤ 127) : c = k ↔ F = k := by
  rcases h with ⟨a, b⟩ | ⟨a, b⟩
  · rw [b]
  · constructor
    · intro e
      rw [e] at a
      omega
    · intro e
      rw [e] at b
      omega
theorem byr_rg {c F : Int32} {lo hi : Int} (h : gb_byr c F) (h0 : 0 ≤ lo) (h1 : hi ≤ 127) : (lo ≤ c.toInt ∧ c.toInt ≤ hi) ↔ (lo ≤ F.toInt ∧ F.toInt ≤ hi) := by
  rcases h with ⟨a, b⟩ | ⟨a, b⟩
  · rw [b]
  · constructor <;> (intro e; omega)
theorem byr_in {c F : Int32} (h : gb_byr c F) (h1 : F.toInt ≤ 127) : F = c := by
  rcases h with ⟨a, b⟩ | ⟨a, b⟩
  · exact b
  · omega
def gb_rc (T : Nat → Int32) (N : Nat) (σ : gb_S) : Prop := σ.2.1 0 = 23 ∧ (σ.1 106 2).toInt = N ∧ N ≤ 600 ∧ ∀ i, i < N → gb_byr (σ.1 23 i) (T i)
def gb_at1 (σ : gb_S) (q : Nat) (σ2 : gb_S) : Prop := σ2.2 = σ.2 ∧ (∀ k, k ≠ 106 → σ2.1 k = σ.1 k) ∧ (∀ j, j ≠ 3 → σ2.1 106 j = σ.1 106 j) ∧ (σ2.1 106 3).toInt = q
theorem at_u {σ : gb_S} {v : Int32} {q : Nat} (e : v.toInt = q) : gb_at1 σ q (gb_su σ 106 (upd (σ.1 106) 3 v)) := ⟨rfl, fun k hk => gb_sun hk, fun j hj => by rw [gb_sus, pk_un hj], by rw [gb_sus, pk_us]; exact e⟩
theorem at_r {σ : gb_S} {q : Nat} (e : (σ.1 106 3).toInt = q) : gb_at1 σ q σ := ⟨rfl, fun _ _ => rfl, fun _ _ => rfl, e⟩
theorem at_t {σ σ1 σ2 : gb_S} {p q : Nat} (h : gb_at1 σ p σ1) (g : gb_at1 σ1 q σ2) : gb_at1 σ q σ2 := ⟨g.1.trans h.1, fun k hk => (g.2.1 k hk).trans (h.2.1 k hk), fun j hj => (g.2.2.1 j hj).trans (h.2.2.1 j hj), g.2.2.2⟩
theorem rc_at {T : Nat → Int32} {N q : Nat} {σ σ2 : gb_S} (h : gb_rc T N σ) (g : gb_at1 σ q σ2) : gb_rc T N σ2 := ⟨by rw [g.1]; exact h.1, by rw [g.2.2.1 2 (by decide)]; exact h.2.1, h.2.2.1, fun i hi => by rw [g.2.1 23 (by decide)]; exact h.2.2.2 i hi⟩
theorem ch_skip0 {n : Nat} {T : Nat → Int32} {N : Nat} : ∀ (mm : Nat) (σ : gb_S) (p : Nat), gb_rc T N σ → (σ.1 106 3).toInt = p → p ≤ N → gb_hc (cs_Reader_skipBlanks_0 n mm σ) (fun σ2 _ => ∃ q, gb_run (gb_bl T N) p q ∧ q ≤ N ∧ gb_at1 σ q σ2) := by
  intro mm
  induction mm with
  | zero =>
    intros
    exact hc_none
  | succ mm ih =>
    intro σ p hx h3 hp
    rw [cs_Reader_skipBlanks_0]
    have hN := hx.2.2.1
    have hlen := hx.2.1
    have tp := gi_tn h3
    have step : ∀ s : gb_S, gb_bl T N p → s = gb_su σ 106 (upd (σ.1 106) 3 ((σ.1 106 3) + 1)) → gb_hc (cs_Reader_skipBlanks_0 n mm s) (fun σ2 _ => ∃ q, gb_run (gb_bl T N) p q ∧ q ≤ N ∧ gb_at1 σ q σ2) := fun s hb es => by
      have hpN := hb.1
      have a1 : gb_at1 σ (p + 1) s := by
        rw [es]
        exact at_u (gi_s1 h3 (by omega))
      refine hc_mono (ih s (p + 1) (rc_at hx a1) a1.2.2.2 (by omega)) (fun σ2 _ h => ?_)
      obtain ⟨q, g1, g2, g3⟩ := h
      exact ⟨q, run_s hb g1, g2, at_t a1 g3⟩
    refine hc_if (fun c => hc_some ⟨p, run_0 (fun z => ?_), hp, at_r h3⟩) (fun c => ?_)
    · have := gi_le c
      have := z.1
      omega
    · have hpN : p < N := by
        have := gi_nle c
        omega
      have hb := hx.2.2.2 p hpN
      rw [hx.1, tp]
      refine hc_kk (fun _ => hc_ck (fun _ _ => hc_lt (fun x ex => ?_)))
      subst ex
      refine hc_if (fun d => hc_lt (fun s es => step s ⟨hpN, Or.inl ((byr_eq hb (by decide) (by decide)).mp d)⟩ es)) (fun d => ?_)
      refine hc_kk (fun _ => hc_ck (fun _ _ => hc_lt (fun x ex => ?_)))
      subst ex
      refine hc_if (fun e => hc_lt (fun s es => step s ⟨hpN, Or.inr ((byr_eq hb (by decide) (by decide)).mp e)⟩ es)) (fun e => hc_some ⟨p, run_0 (fun z => ?_), hp, at_r h3⟩)
      rcases z.2 with y | y
      · exact d ((byr_eq hb (by decide) (by decide)).mpr y)
      · exact e ((byr_eq hb (by decide) (by decide)).mpr y)
theorem ch_skip {n : Nat} {T : Nat → Int32} {N : Nat} {σ : gb_S} {p : Nat} (hx : gb_rc T N σ) (h3 : (σ.1 106 3).toInt = p) (hp : p ≤ N) : gb_hc (cs_Reader_skipBlanks n σ) (fun σ2 _ => ∃ q, gb_run (gb_bl T N) p q ∧ q ≤ N ∧ gb_at1 σ q σ2) := by
  have e : cs_Reader_skipBlanks n σ = cs_Reader_skipBlanks_0 n (n + 1) σ := by
    unfold cs_Reader_skipBlanks
    rw [cs_Reader_skipBlanks_0]
  rw [e]
  exact ch_skip0 (n + 1) σ p hx h3 hp
/-! words of the class -/
theorem ch_strlen {n : Nat} {σ : gb_S} {k : Nat} : gb_hc (cs_java_lang_String_length_W n σ k) (fun s r => s = σ ∧ k < 18 ∧ r.toInt = gb_ln k) := by
  by_cases hk : gb_kW k = true
  · exact hc_mono (hc_of (ct_strlen hk)) (fun s r h => ⟨h.1, gb_kW_lt hk, h.2⟩)
  · unfold cs_java_lang_String_length_W
    exact hc_kk (fun q => absurd q hk)
theorem gb_wch : ∀ l : Fin 18, ∀ i : Fin 6, i.val < gb_ln l.val → ((((gb_wby l.val i.val) &&& 255) : Int32).toUInt32 % 65536).toInt32 = gb_wby l.val i.val := by decide +kernel
theorem ch_charAt {n : Nat} {σ : gb_S} {k : Nat} {p : Int32} {i : Nat} (hk : k < 18) (e : p.toInt = i) (hi : i < gb_ln k) : gb_hc (cs_java_lang_String_charAt_W n σ k p) (fun s r => s = σ ∧ r = gb_wby k i) := by
  have h6 : gb_ln k ≤ 6 := (gb_wtab ⟨k, hk⟩).2.2
  unfold cs_java_lang_String_charAt_W cs_java_lang_String_isLatin1_W
  refine hc_kk (fun hw => hc_cd (P := fun s _ => s = σ) (hc_kk (fun _ => hc_if (fun _ => hc_some rfl) (fun _ => hc_if (fun _ => hc_some rfl) (fun _ => hc_some rfl)))) (fun s r hs => ?_))
  subst hs
  refine hc_if (fun _ => hc_none) (fun _ => ?_)
  refine hc_cd (P := fun s2 r2 => s2 = s ∧ r2 = gb_wby k i) ?_ (fun s2 r2 h2 => hc_cc (hc_some h2))
  unfold cs_java_lang_StringLatin1_charAt_V
  refine hc_kk (fun _ => hc_cd (P := fun s2 _ => s2 = s) ?_ (fun s2 r2 h2 => hc_ck (fun _ _ => hc_some ⟨h2, ?_⟩)))
  · unfold cs_java_lang_String_checkIndex cs_jdk_internal_util_Preconditions_checkIndex_n
    exact hc_cd (P := fun s2 _ => s2 = s) (hc_if (fun _ => hc_none) (fun _ => hc_if (fun _ => hc_some rfl) (fun _ => hc_none))) (fun s2 _ h2 => hc_some h2)
  · rw [gi_tn e]
    exact gb_wch ⟨k, hk⟩ ⟨i, by omega⟩ hi
theorem ch_isw17 {n : Nat} {T : Nat → Int32} {N : Nat} {σ : gb_S} {k a : Nat} (hx : gb_rc T N σ) (hk : k < 18) (ha : (σ.1 106 3).toInt = a) (hl : a + gb_ln k ≤ N) : ∀ (mm : Nat) (v3 : Int32) (i : Nat), v3.toInt = i → i ≤ gb_ln k → (∀ j, j < i → T (a + j) = gb_wby k j) → gb_hc (cs_Reader_isWord_W_17 n mm σ k v3) (fun s r => s = σ ∧ ((r = 1 ∧ ∀ j, j < gb_ln k → T (a + j) = gb_wby k j) ∨ (r = 0 ∧ ¬ ∀ j, j < gb_ln k → T (a + j) = gb_wby k j))) := by
  have hN := hx.2.2.1
  have h6 : gb_ln k ≤ 6 := (gb_wtab ⟨k, hk⟩).2.2
  intro mm
  induction mm with
  | zero =>
    intros
    exact hc_none
  | succ mm ih =>
    intro v3 i e3 hi hj
    rw [cs_Reader_isWord_W_17]
    refine hc_kk (fun _ => hc_cd ch_strlen (fun s r h => ?_))
    obtain ⟨rfl, -, hr⟩ := h
    refine hc_if (fun c => hc_some ⟨rfl, Or.inl ⟨rfl, fun j hj2 => hj j (by have := gi_le c; omega)⟩⟩) (fun c => ?_)
    have hi2 : i < gb_ln k := by
      have := gi_nle c
      omega
    have ea : ((s.1 106 3) + v3).toInt = ((a + i : Nat) : Int) := by
      rw [gb_tadd (by omega) (by omega), ha, e3]
      omega
    have hb := hx.2.2.2 (a + i) (by omega)
    rw [hx.1, gi_tn ea]
    refine hc_kk (fun _ => hc_ck (fun _ _ => hc_lt (fun x ex => hc_cd (ch_charAt hk e3 hi2) (fun s2 r2 h2 => ?_))))
    obtain ⟨rfl, hr2⟩ := h2
    subst ex
    subst hr2
    have wb := gb_wb hk hi2
    refine hc_if (fun d => hc_lt (fun y ey => ih y (i + 1) (by rw [ey]; exact gi_s1 e3 (by omega)) (by omega) (fun j hj2 => ?_))) (fun d => hc_some ⟨rfl, Or.inr ⟨rfl, fun z => d ((byr_eq hb (by omega) (by omega)).mpr (z i hi2))⟩⟩)
    by_cases q : j = i
    · rw [q]
      exact (byr_eq hb (by omega) (by omega)).mp d
    · exact hj j (by omega)
theorem ch_isWord {n : Nat} {T : Nat → Int32} {N : Nat} {σ : gb_S} {k a e : Nat} {p2 : Int32} (hx : gb_rc T N σ) (hk : k < 18) (ha : (σ.1 106 3).toInt = a) (h2 : p2.toInt = e) (hae : a ≤ e) (heN : e ≤ N) : gb_hc (cs_Reader_isWord_W n σ k p2) (fun s r => s = σ ∧ ((r = 1 ∧ gb_isw T a e k) ∨ (r = 0 ∧ ¬ gb_isw T a e k))) := by
  have hN := hx.2.2.1
  unfold cs_Reader_isWord_W
  refine hc_kk (fun _ => hc_cd ch_strlen (fun s r h => ?_))
  obtain ⟨rfl, -, hr⟩ := h
  have es : (p2 - (s.1 106 3)).toInt = ((e - a : Nat) : Int) := by
    rw [gb_tsub (by omega) (by omega), h2, ha]
    omega
  have z : (0 : Int32).toInt = ((0 : Nat) : Int) := by decide
  refine hc_if (fun c => ?_) (fun c => hc_some ⟨rfl, Or.inr ⟨rfl, fun q => c (gb_ieq ?_)⟩⟩)
  · rw [c] at es
    have hl : e = a + gb_ln k := by omega
    refine hc_mono (ch_isw17 hx hk ha (by omega) n 0 0 z (Nat.zero_le _) (fun j hj => absurd hj (Nat.not_lt_zero _))) (fun s2 r2 h => ⟨h.1, ?_⟩)
    rcases h.2 with q | q
    · exact Or.inl ⟨q.1, hl, q.2⟩
    · exact Or.inr ⟨q.1, fun y => q.2 y.2⟩
  · rw [es, hr, q.1]
    omega
theorem gb_fl0 {v : Int32} {s : Nat} (e : v.toInt = s) (hs : s ≤ 4) : (gb_tb0 (Int32.toNatClampNeg v)).toInt = gb_fl s := by
  rw [gi_tn e]
  have : s = 0 ∨ s = 1 ∨ s = 2 ∨ s = 3 ∨ s = 4 := by omega
  rcases this with rfl | rfl | rfl | rfl | rfl <;> decide
theorem gb_fl18 {s : Nat} (hs : s ≤ 4) : gb_fl s ≤ 18 := by
  have : s = 0 ∨ s = 1 ∨ s = 2 ∨ s = 3 ∨ s = 4 := by omega
  rcases this with rfl | rfl | rfl | rfl | rfl <;> decide
theorem ch_wordOf {n : Nat} {σ : gb_S} {p : Int32} {l : Nat} (e : p.toInt = l) (hl : l < 18) : gb_hc (cs_Reader_wordOf n σ p) (fun s r => s = σ ∧ r = l) := by
  unfold cs_Reader_wordOf
  have key : ∀ (k : Int32) (j : Nat), k.toInt = j → p = k → j = l := fun k j hk hp => by
    rw [hp, hk] at e
    omega
  have nky : ∀ (k : Int32) (j : Nat), k.toInt = j → ¬ p = k → l ≠ j := fun k j hk hp q => hp (gi_eq e (by rw [q]; exact hk))
  refine hc_if (fun c => hc_some ⟨rfl, key 0 0 (by decide) c⟩) (fun c0 => ?_)
  refine hc_if (fun c => hc_some ⟨rfl, key 1 1 (by decide) c⟩) (fun c1 => ?_)
  refine hc_if (fun c => hc_some ⟨rfl, key 2 2 (by decide) c⟩) (fun c2 => ?_)
  refine hc_if (fun c => hc_some ⟨rfl, key 3 3 (by decide) c⟩) (fun c3 => ?_)
  refine hc_if (fun c => hc_some ⟨rfl, key 4 4 (by decide) c⟩) (fun c4 => ?_)
  refine hc_if (fun c => hc_some ⟨rfl, key 5 5 (by decide) c⟩) (fun c5 => ?_)
  refine hc_if (fun c => hc_some ⟨rfl, key 6 6 (by decide) c⟩) (fun c6 => ?_)
  refine hc_if (fun c => hc_some ⟨rfl, key 7 7 (by decide) c⟩) (fun c7 => ?_)
  refine hc_if (fun c => hc_some ⟨rfl, key 8 8 (by decide) c⟩) (fun c8 => ?_)
  refine hc_if (fun c => hc_some ⟨rfl, key 9 9 (by decide) c⟩) (fun c9 => ?_)
  refine hc_if (fun c => hc_some ⟨rfl, key 10 10 (by decide) c⟩) (fun c10 => ?_)
  refine hc_if (fun c => hc_some ⟨rfl, key 11 11 (by decide) c⟩) (fun c11 => ?_)
  refine hc_if (fun c => hc_some ⟨rfl, key 12 12 (by decide) c⟩) (fun c12 => ?_)
  refine hc_if (fun c => hc_some ⟨rfl, key 13 13 (by decide) c⟩) (fun c13 => ?_)
  refine hc_if (fun c => hc_some ⟨rfl, key 14 14 (by decide) c⟩) (fun c14 => ?_)
  refine hc_if (fun c => hc_some ⟨rfl, key 15 15 (by decide) c⟩) (fun c15 => ?_)
  refine hc_if (fun c => hc_some ⟨rfl, key 16 16 (by decide) c⟩) (fun c16 => ?_)
  have := nky 0 0 (by decide) c0
  have := nky 1 1 (by decide) c1
  have := nky 2 2 (by decide) c2
  have := nky 3 3 (by decide) c3
  have := nky 4 4 (by decide) c4
  have := nky 5 5 (by decide) c5
  have := nky 6 6 (by decide) c6
  have := nky 7 7 (by decide) c7
  have := nky 8 8 (by decide) c8
  have := nky 9 9 (by decide) c9
  have := nky 10 10 (by decide) c10
  have := nky 11 11 (by decide) c11
  have := nky 12 12 (by decide) c12
  have := nky 13 13 (by decide) c13
  have := nky 14 14 (by decide) c14
  have := nky 15 15 (by decide) c15
  have := nky 16 16 (by decide) c16
  exact hc_some ⟨rfl, by omega⟩
def gb_tw (T : Nat → Int32) (N s a : Nat) (σ σ2 : gb_S) (r : Int32) : Prop := (r = -1 ∧ σ2 = σ ∧ ∀ l e, ¬ gb_word T N s a l e) ∨ ∃ l e : Nat, r.toInt = l ∧ gb_word T N s a l e ∧ e ≤ N ∧ gb_at1 σ e σ2
theorem ch_tw47 {n : Nat} {T : Nat → Int32} {N s a e : Nat} {σ : gb_S} {v1 v2 : Int32} (hx : gb_rc T N σ) (e1 : v1.toInt = s) (hs : s ≤ 3) (ha : (σ.1 106 3).toInt = a) (h2 : v2.toInt = e) (heN : e ≤ N) (hrun : gb_run (gb_lt1 T N) a e) : ∀ (mm : Nat) (v3 : Int32) (l : Nat), v3.toInt = l → gb_fl s ≤ l → l ≤ gb_fl (s + 1) → (∀ j, gb_fl s ≤ j → j < l → ¬ gb_isw T a e j) → gb_hc (cs_Reader_takeWord_47 n mm σ v1 v2 v3) (fun σ2 r => gb_tw T N s a σ σ2 r) := by
  have h18 := gb_fl18 (s := s + 1) (by omega)
  intro mm
  induction mm with
  | zero =>
    intros
    exact hc_none
  | succ mm ih =>
    intro v3 l e3 hl0 hl1 hno
    rw [cs_Reader_takeWord_47]
    have ft := gb_fl0 (gi_s1 e1 (by omega)) (by omega)
    refine hc_ck (fun _ _ => hc_lt (fun x ex => ?_))
    rw [← ex] at ft
    refine hc_if (fun c => hc_some (Or.inl ⟨rfl, rfl, fun l2 e2 hw => ?_⟩)) (fun c => ?_)
    · have := gi_le c
      obtain ⟨w1, w2, w3, w4⟩ := hw
      have := run_uq hrun w3
      subst this
      exact hno l2 w1 (by omega) w4
    · have hl2 : l < gb_fl (s + 1) := by
        have := gi_nle c
        omega
      refine hc_cd (ch_wordOf e3 (by omega)) (fun s2 r h => ?_)
      obtain ⟨rfl, rfl⟩ := h
      refine hc_kk (fun _ => hc_cd (ch_isWord hx (by omega) ha h2 hrun.1 heN) (fun s3 r3 h3 => ?_))
      obtain ⟨rfl, h3⟩ := h3
      refine hc_if (fun d => hc_lt (fun y ey => ih y (r + 1) (by rw [ey]; exact gi_s1 e3 (by omega)) (by omega) (by omega) (fun j j1 j2 => ?_))) (fun d => hc_lt (fun s4 e4 => hc_some (Or.inr ⟨r, e, e3, ⟨hl0, hl2, hrun, ?_⟩, heN, by rw [e4]; exact at_u h2⟩)))
      · by_cases q : j = r
        · rw [q]
          rcases h3 with y | y
          · rw [d] at y
            exact absurd y.1 (by decide)
          · exact y.2
        · exact hno j j1 (by omega)
      · rcases h3 with y | y
        · exact y.2
        · exact absurd y.1 d
theorem ch_tw5 {n : Nat} {T : Nat → Int32} {N s a : Nat} {σ : gb_S} {v1 : Int32} (hx : gb_rc T N σ) (e1 : v1.toInt = s) (hs : s ≤ 3) (ha : (σ.1 106 3).toInt = a) : ∀ (mm : Nat) (v2 : Int32) (p : Nat), v2.toInt = p → a ≤ p → p ≤ N → (∀ i, a ≤ i → i < p → gb_lt1 T N i) → gb_hc (cs_Reader_takeWord_5 n mm σ v1 v2) (fun σ2 r => gb_tw T N s a σ σ2 r) := by
  have hN := hx.2.2.1
  have hlen := hx.2.1
  have c97 : (97 : Int32).toInt = 97 := by decide
  have c122 : (122 : Int32).toInt = 122 := by decide
  intro mm
  induction mm with
  | zero =>
    intros
    exact hc_none
  | succ mm ih =>
    intro v2 p e2 hap hp hD
    rw [cs_Reader_takeWord_5]
    have stop : ¬ gb_lt1 T N p → gb_hc (gb_ck v1 5 (gb_lt (gb_tb0 (Int32.toNatClampNeg v1)) (fun x_4 => cs_Reader_takeWord_47 n n σ v1 v2 x_4))) (fun σ2 r => gb_tw T N s a σ σ2 r) := fun hn => by
      refine hc_ck (fun _ _ => hc_lt (fun x ex => ?_))
      have ft := gb_fl0 e1 (by omega)
      rw [← ex] at ft
      refine ch_tw47 hx e1 hs ha e2 hp ⟨hap, hD, hn⟩ n x (gb_fl s) ft (Nat.le_refl _) ?_ (fun j j1 j2 => absurd j2 (by omega))
      have : s = 0 ∨ s = 1 ∨ s = 2 ∨ s = 3 := by omega
      rcases this with rfl | rfl | rfl | rfl <;> decide
    refine hc_if (fun c => stop (fun z => ?_)) (fun c => ?_)
    · have := gi_le c
      have := z.1
      omega
    · have hpN : p < N := by
        have := gi_nle c
        omega
      have hb := hx.2.2.2 p hpN
      have rg := byr_rg (lo := 97) (hi := 122) hb (by decide) (by decide)
      rw [hx.1, gi_tn e2]
      refine hc_kk (fun _ => hc_ck (fun _ _ => hc_lt (fun x ex => ?_)))
      subst ex
      refine hc_if (fun d => stop (fun z => ?_)) (fun d => ?_)
      · have := gi_lt d
        have := (rg.mpr z.2).1
        omega
      · refine hc_kk (fun _ => hc_ck (fun _ _ => hc_lt (fun x ex => ?_)))
        subst ex
        refine hc_if (fun g => stop (fun z => ?_)) (fun g => hc_lt (fun y ey => ih y (p + 1) (by rw [ey]; exact gi_s1 e2 (by omega)) (by omega) (by omega) (fun i i1 i2 => ?_)))
        · have := gi_lt g
          have := (rg.mpr z.2).2
          omega
        · by_cases q : i = p
          · rw [q]
            have h1 := gi_nlt d
            have h2 := gi_nlt g
            exact ⟨hpN, rg.mp ⟨by omega, by omega⟩⟩
          · exact hD i i1 (by omega)
theorem ch_takeWord {n : Nat} {T : Nat → Int32} {N s a : Nat} {σ : gb_S} {p1 : Int32} (hx : gb_rc T N σ) (e1 : p1.toInt = s) (hs : s ≤ 3) (ha : (σ.1 106 3).toInt = a) (haN : a ≤ N) : gb_hc (cs_Reader_takeWord n σ p1) (fun σ2 r => gb_tw T N s a σ σ2 r) := by
  unfold cs_Reader_takeWord
  exact hc_lt (fun x ex => ch_tw5 hx e1 hs ha n x a (by rw [ex]; exact ha) (Nat.le_refl _) haN (fun i i1 i2 => absurd i2 (by omega)))
/-! THE CLASS's Reader: numbers, lines -/
theorem ch_canBe {n : Nat} {σ : gb_S} {p1 p2 p3 : Int32} {l i : Nat} {v : Int} (e1 : p1.toInt = l) (hl : l < 18) (e2 : p2.toInt = i) (hi : i < 5) (e3 : p3.toInt = v) : gb_hc (cs_Reader_canBe n σ p1 p2 p3) (fun s r => s = σ ∧ ((r = 1 ∧ gb_can l i v (σ.1 107 0).toInt) ∨ (r = 0 ∧ ¬ gb_can l i v (σ.1 107 0).toInt))) := by
  have c0 : (0 : Int32).toInt = 0 := by decide
  have c1 : (1 : Int32).toInt = 1 := by decide
  have c5 : (5 : Int32).toInt = 5 := by decide
  have m1 : (p1 * 5).toInt = ((5 * l : Nat) : Int) := by
    rw [gb_tmul (by rw [e1, c5]; omega) (by rw [e1, c5]; omega), e1, c5]
    omega
  have m2 : ((p1 * 5) + p2).toInt = ((5 * l + i : Nat) : Int) := by
    rw [gb_tadd (by rw [m1, e2]; omega) (by rw [m1, e2]; omega), m1, e2]
    omega
  have tail : ∀ (t0 : Int32) (a : Int), t0.toInt = a → a = (if l = 0 ∧ i = 0 then (1 : Int) else 0) → ¬ (l = 6 ∧ i = 1 ∧ v = (σ.1 107 0).toInt) → gb_hc (cs_Reader_canBe_36 n σ p1 p2 p3 t0) (fun s r => s = σ ∧ ((r = 1 ∧ gb_can l i v (σ.1 107 0).toInt) ∨ (r = 0 ∧ ¬ gb_can l i v (σ.1 107 0).toInt))) := by
    intro t0 a ea ha hn
    unfold cs_Reader_canBe_36
    refine hc_if (fun c => hc_some ⟨rfl, Or.inr ⟨rfl, fun z => ?_⟩⟩) (fun c => hc_ck (fun _ _ => hc_lt (fun x ex => ?_)))
    · have := gi_lt c
      have := z.2.1
      omega
    · rw [gi_tn m2] at ex
      subst ex
      refine hc_if (fun d => hc_some ⟨rfl, Or.inr ⟨rfl, fun z => ?_⟩⟩) (fun d => hc_some ⟨rfl, Or.inl ⟨rfl, hn, ?_, ?_⟩⟩)
      · have := gi_lt d
        have := z.2.2
        omega
      · have := gi_nlt c
        omega
      · have := gi_nlt d
        omega
  have mid : ¬ (l = 6 ∧ i = 1 ∧ v = (σ.1 107 0).toInt) → gb_hc (cs_Reader_canBe_23 n σ p1 p2 p3) (fun s r => s = σ ∧ ((r = 1 ∧ gb_can l i v (σ.1 107 0).toInt) ∨ (r = 0 ∧ ¬ gb_can l i v (σ.1 107 0).toInt))) := by
    intro hn
    unfold cs_Reader_canBe_23
    refine hc_if (fun c => hc_if (fun d => tail 1 1 c1 ?_ hn) (fun d => ?_)) (fun c => ?_)
    · rw [c] at e1
      rw [d] at e2
      rw [if_pos ⟨by omega, by omega⟩]
    · unfold cs_Reader_canBe_35
      refine tail 0 0 c0 ?_ hn
      rw [if_neg (fun z => d (gi_eq e2 (by rw [z.2]; decide)))]
    · unfold cs_Reader_canBe_35
      refine tail 0 0 c0 ?_ hn
      rw [if_neg (fun z => c (gi_eq e1 (by rw [z.1]; decide)))]
  unfold cs_Reader_canBe
  have t0 : Int32.toNatClampNeg 0 = 0 := by decide
  rw [t0]
  refine hc_if (fun c => hc_if (fun d => hc_lt (fun x ex => ?_)) (fun d => mid (fun z => d (gi_eq e2 (by rw [z.2.1]; decide))))) (fun c => mid (fun z => c (gi_eq e1 (by rw [z.1]; decide))))
  subst ex
  refine hc_if (fun g => hc_some ⟨rfl, Or.inr ⟨rfl, fun z => z.1 ⟨?_, ?_, ?_⟩⟩⟩) (fun g => mid (fun z => g (gb_ieq (e3.trans z.2.2))))
  · have c6 : (6 : Int32).toInt = 6 := by decide
    rw [c] at e1
    omega
  · rw [d] at e2
    omega
  · rw [← g]
    exact e3.symm
theorem ch_note {n : Nat} {σ : gb_S} {k v : Int32} {q : Nat} (e : v.toInt = q) (hq : q ≤ 600) : gb_hc (cs_Reader_note n σ k v) (fun s _ => s.2 = σ.2 ∧ (∀ j, j ≠ 106 → s.1 j = σ.1 j) ∧ (∀ j, j ≠ 4 → j ≠ 5 → s.1 106 j = σ.1 106 j) ∧ (s.1 106 4, s.1 106 5) = gb_note (σ.1 106 4, σ.1 106 5) k q) := by
  unfold cs_Reader_note
  have ev : v = nI q := gb_ieq (by rw [e, nI_toInt (by omega)])
  refine hc_if (fun c => hc_lt (fun s1 h1 => hc_lt (fun s2 h2 => hc_some ⟨?_, fun j hj => ?_, fun j a b => ?_, ?_⟩))) (fun c => hc_some ⟨rfl, fun _ _ => rfl, fun _ _ _ => rfl, ?_⟩)
  · rw [h2, h1]
    rfl
  · rw [h2, gb_sun hj, h1, gb_sun hj]
  · rw [h2, gb_sus, pk_un b, h1, gb_sus, pk_un a]
  · unfold gb_note
    rw [if_pos c, h2, gb_sus, pk_us, pk_un (by decide), h1, gb_sus, pk_us, ev]
  · unfold gb_note
    rw [if_neg c]
def gb_tnd (σ σ2 : gb_S) (l i a e : Nat) (v : Int) : Prop := σ2.2 = σ.2 ∧ (∀ k, k ≠ 106 → k ≠ 107 → σ2.1 k = σ.1 k) ∧ σ2.1 106 2 = σ.1 106 2 ∧ (σ2.1 106 3).toInt = e ∧ (∃ w : Int32, w.toInt = v ∧ σ2.1 107 = upd (σ.1 107) i w) ∧ (σ2.1 106 4, σ2.1 106 5) = (if gb_can l i v (σ2.1 107 0).toInt then (σ.1 106 4, σ.1 106 5) else gb_note (σ.1 106 4, σ.1 106 5) 2 a)
def gb_tnp (T : Nat → Int32) (N : Nat) (σ σ2 : gb_S) (l i a : Nat) (r : Int32) : Prop := (r = 0 ∧ σ2 = σ ∧ ∀ e, gb_run (gb_di T N) a e → e = a ∨ 3 < e - a) ∨ (r = 1 ∧ ∃ (e : Nat) (v : Int), gb_run (gb_di T N) a e ∧ a < e ∧ e - a ≤ 3 ∧ v = gb_val T a (e - a) ∧ e ≤ N ∧ gb_tnd σ σ2 l i a e v)
theorem ch_tn61 {n : Nat} {T : Nat → Int32} {N l i a p : Nat} {σ : gb_S} {v1 v2 v3 v4 : Int32} (hN : N ≤ 600) (e1 : v1.toInt = l) (hl : l < 18) (e2 : v2.toInt = i) (hi : i < 5) (ha : (σ.1 106 3).toInt = a) (e3 : v3.toInt = p) (hap : a ≤ p) (hp : p ≤ N) (hrun : gb_run (gb_di T N) a p) (hv : p - a ≤ 3 → v4.toInt = gb_val T a (p - a)) : gb_hc (cs_Reader_takeNumber_61 n σ v1 v2 v3 v4) (fun σ2 r => gb_tnp T N σ σ2 l i a r) := by
  unfold cs_Reader_takeNumber_61
  have c3 : (3 : Int32).toInt = 3 := by decide
  have hsub : (v3 - (σ.1 106 3)).toInt = ((p - a : Nat) : Int) := by
    rw [gb_tsub (by omega) (by omega), e3, ha]
    omega
  refine hc_if (fun c => hc_some (Or.inl ⟨rfl, rfl, fun e he => Or.inl ?_⟩)) (fun c => hc_if (fun d => ?_) (fun d => hc_some (Or.inl ⟨rfl, rfl, fun e he => Or.inr ?_⟩)))
  · have := run_uq he hrun
    rw [c, ha] at e3
    omega
  · have h3 := gi_le d
    have hlt : a < p := by
      rcases Nat.lt_or_ge a p with z | z
      · exact z
      · exact absurd (gb_ieq (by rw [e3, ha]; omega)) c
    refine hc_ck (fun _ _ => hc_lt (fun s6 e6 => ?_))
    have q106 : s6.1 106 = σ.1 106 := by rw [e6]; exact gb_sun (by decide)
    have q107 : s6.1 107 = upd (σ.1 107) i v4 := by rw [e6, gb_sus, gi_tn e2]
    have qn : ∀ k, k ≠ 107 → s6.1 k = σ.1 k := fun k hk => by rw [e6]; exact gb_sun hk
    have q2 : s6.2 = σ.2 := by rw [e6]; rfl
    have hv2 := hv (by omega)
    refine hc_cd (ch_canBe (σ := s6) e1 hl e2 hi hv2) (fun s7 r h7 => ?_)
    obtain ⟨rfl, h7⟩ := h7
    refine hc_if (fun g => ?_) (fun g => hc_lt (fun s8 e8 => hc_some (Or.inr ⟨rfl, p, _, hrun, hlt, by omega, rfl, hp, ?_⟩)))
    · have hcan : ¬ gb_can l i (gb_val T a (p - a)) (s7.1 107 0).toInt := by
        rcases h7 with z | z
        · rw [g] at z
          exact absurd z.1 (by decide)
        · exact z.2
      refine hc_cd (ch_note (q := a) (by rw [q106]; exact ha) (by omega)) (fun s8 _ h8 => hc_lt (fun s9 e9 => hc_some (Or.inr ⟨rfl, p, _, hrun, hlt, by omega, rfl, hp, ?_⟩)))
      obtain ⟨n1, n2, n3, n4⟩ := h8
      refine ⟨?_, fun k k1 k2 => ?_, ?_, ?_, ⟨v4, hv2, ?_⟩, ?_⟩
      · rw [e9]
        exact n1.trans q2
      · rw [e9, gb_sun k1, n2 k k1, qn k k2]
      · rw [e9, gb_sus, pk_un (by decide), n3 2 (by decide) (by decide), q106]
      · rw [e9, gb_sus, pk_us]
        exact e3
      · rw [e9, gb_sun (by decide), n2 107 (by decide), q107]
      · have z107 : s9.1 107 = s7.1 107 := by rw [e9, gb_sun (by decide), n2 107 (by decide)]
        rw [z107, if_neg hcan, e9, gb_sus, pk_un (by decide), pk_un (by decide), n4, q106]
    · have hcan : gb_can l i (gb_val T a (p - a)) (s7.1 107 0).toInt := by
        rcases h7 with z | z
        · exact z.2
        · exact absurd z.1 g
      refine ⟨?_, fun k k1 k2 => ?_, ?_, ?_, ⟨v4, hv2, ?_⟩, ?_⟩
      · rw [e8]
        exact q2
      · rw [e8, gb_sun k1, qn k k2]
      · rw [e8, gb_sus, pk_un (by decide), q106]
      · rw [e8, gb_sus, pk_us]
        exact e3
      · rw [e8, gb_sun (by decide), q107]
      · have z107 : s8.1 107 = s7.1 107 := by rw [e8, gb_sun (by decide)]
        rw [z107, if_pos hcan, e8, gb_sus, pk_un (by decide), pk_un (by decide), q106]
  · have := run_uq he hrun
    have := gi_nle d
    omega
theorem ch_tn8 {n : Nat} {T : Nat → Int32} {N l i a : Nat} {σ : gb_S} {v1 v2 : Int32} (hx : gb_rc T N σ) (e1 : v1.toInt = l) (hl : l < 18) (e2 : v2.toInt = i) (hi : i < 5) (ha : (σ.1 106 3).toInt = a) : ∀ (mm : Nat) (v3 v4 : Int32) (p : Nat), v3.toInt = p → a ≤ p → p ≤ N → (∀ j, a ≤ j → j < p → gb_di T N j) → (p - a ≤ 3 → v4.toInt = gb_val T a (p - a)) → gb_hc (cs_Reader_takeNumber_8 n mm σ v1 v2 v3 v4) (fun σ2 r => gb_tnp T N σ σ2 l i a r) := by
  have hN := hx.2.2.1
  have hlen := hx.2.1
  have c48 : (48 : Int32).toInt = 48 := by decide
  have c57 : (57 : Int32).toInt = 57 := by decide
  have c10 : (10 : Int32).toInt = 10 := by decide
  intro mm
  induction mm with
  | zero =>
    intros
    exact hc_none
  | succ mm ih =>
    intro v3 v4 p e3 hap hp hD hv
    rw [cs_Reader_takeNumber_8]
    have stop : ¬ gb_di T N p → gb_hc (cs_Reader_takeNumber_61 n σ v1 v2 v3 v4) (fun σ2 r => gb_tnp T N σ σ2 l i a r) := fun hn => ch_tn61 hN e1 hl e2 hi ha e3 hap hp ⟨hap, hD, hn⟩ hv
    refine hc_if (fun c => stop (fun z => ?_)) (fun c => ?_)
    · have := gi_le c
      have := z.1
      omega
    · have hpN : p < N := by
        have := gi_nle c
        omega
      have hb := hx.2.2.2 p hpN
      have rg := byr_rg (lo := 48) (hi := 57) hb (by decide) (by decide)
      rw [hx.1, gi_tn e3]
      refine hc_kk (fun _ => hc_ck (fun _ _ => hc_lt (fun x ex => ?_)))
      subst ex
      refine hc_if (fun d => stop (fun z => ?_)) (fun d => ?_)
      · have := gi_lt d
        have := (rg.mpr z.2).1
        omega
      · refine hc_kk (fun _ => hc_ck (fun _ _ => hc_lt (fun x ex => ?_)))
        subst ex
        refine hc_if (fun g => stop (fun z => ?_)) (fun g => ?_)
        · have := gi_lt g
          have := (rg.mpr z.2).2
          omega
        · have h1 := gi_nlt d
          have h2 := gi_nlt g
          have hdp : gb_di T N p := ⟨hpN, rg.mp ⟨by omega, by omega⟩⟩
          have eb : T p = σ.1 23 p := byr_in hb (by have := hdp.2; omega)
          refine hc_kk (fun _ => hc_ck (fun _ _ => hc_lt (fun x ex => hc_lt (fun y ey => hc_lt (fun z ez => ?_)))))
          subst ex
          refine ih z y (p + 1) (by rw [ez]; exact gi_s1 e3 (by omega)) (by omega) (by omega) (fun j j1 j2 => ?_) (fun h3 => ?_)
          · by_cases q : j = p
            · rw [q]; exact hdp
            · exact hD j j1 (by omega)
          · have hv2 := hv (by omega)
            have bd := val_b (T := T) (q := a) (p - a) (fun j hj => (hD (a + j) (by omega) (by omega)).2)
            have p3 : (10 : Int) ^ (p - a) ≤ 100 := by
              have : p - a = 0 ∨ p - a = 1 ∨ p - a = 2 := by omega
              rcases this with q | q | q <;> (rw [q]; decide)
            have e4 : p + 1 - a = (p - a) + 1 := by omega
            have e5 : a + (p - a) = p := by omega
            have m1 : (v4 * 10).toInt = gb_val T a (p - a) * 10 := by
              rw [gb_tmul (by rw [hv2, c10]; omega) (by rw [hv2, c10]; omega), hv2, c10]
            have m2 : (σ.1 23 p - 48).toInt = (T p).toInt - 48 := by
              rw [gb_tsub (by omega) (by omega), c48, eb]
            have tp := hdp.2
            have m3 : (v4 * 10 + (σ.1 23 p - 48)).toInt = gb_val T a (p - a) * 10 + ((T p).toInt - 48) := by
              rw [gb_tadd (by rw [m1, m2]; omega) (by rw [m1, m2]; omega), m1, m2]
            rw [ey, m3, e4]
            show _ = 10 * gb_val T a (p - a) + (T (a + (p - a))).toInt - 48
            rw [e5]
            omega
theorem ch_takeNumber {n : Nat} {T : Nat → Int32} {N l i a : Nat} {σ : gb_S} {p1 p2 : Int32} (hx : gb_rc T N σ) (e1 : p1.toInt = l) (hl : l < 18) (e2 : p2.toInt = i) (hi : i < 5) (ha : (σ.1 106 3).toInt = a) (haN : a ≤ N) : gb_hc (cs_Reader_takeNumber n σ p1 p2) (fun σ2 r => gb_tnp T N σ σ2 l i a r) := by
  unfold cs_Reader_takeNumber
  refine hc_lt (fun x ex => ch_tn8 hx e1 hl e2 hi ha n x 0 a (by rw [ex]; exact ha) (Nat.le_refl _) haN (fun j a b => absurd b (by omega)) (fun _ => ?_))
  rw [Nat.sub_self]
  rfl
/-! what a line adds to a sheet -/
def gb_wid (s : Nat) : Nat := if s = 1 then 4 else 3
def gb_mst (s : Nat) : Int := if s = 1 then 24 else if s = 2 then 8 else 5
def gb_room (s l : Nat) (G : Nat → Int32) : Prop := if s = 0 then (l = 2 ∨ (l = 0 ∧ (G 0).toInt < 5) ∨ (l = 1 ∧ (G 1).toInt < 8)) else (G 0).toInt < gb_mst s
def gb_addB (l : Nat) (V G G2 : Nat → Int32) : Prop := (l = 2 ∧ G2 = upd G 2 (V 0)) ∨ (l = 0 ∧ G2 = upd (va_cpy V G 0 (3 + 3 * (G 0).toInt.toNat) 3) 0 (G 0 + 1)) ∨ (l = 1 ∧ G2 = upd (va_cpy V G 0 (18 + 5 * (G 1).toInt.toNat) 5) 1 (G 1 + 1))
def gb_addL (s l : Nat) (V G G2 : Nat → Int32) (i : Nat) : Prop := G2 0 = G 0 ∧ (G2 (1 + gb_wid s * (G 0).toInt.toNat)).toInt = (l : Int) - gb_fl s ∧ (∀ j, j < i → G2 (2 + gb_wid s * (G 0).toInt.toNat + j) = if j < gb_kn l then V j else -1) ∧ ∀ j, j ≠ 0 → (j < 1 + gb_wid s * (G 0).toInt.toNat ∨ 1 + gb_wid s * (G 0).toInt.toNat + gb_wid s ≤ j) → G2 j = G j
def gb_added (s l : Nat) (V G G2 : Nat → Int32) : Prop := (¬ gb_room s l G ∧ G2 = G) ∨ (gb_room s l G ∧ ((s = 0 ∧ gb_addB l V G G2) ∨ (s ≠ 0 ∧ ∃ G1, gb_addL s l V G G1 (gb_wid s - 1) ∧ G2 = upd G1 0 (G 0 + 1))))
theorem gb_knt : ∀ l : Fin 18, (gb_tb1 l.val).toInt = gb_kn l.val ∧ gb_kn l.val ≤ 5 := by decide +kernel
theorem gb_knE {v : Int32} {l : Nat} (e : v.toInt = l) (hl : l < 18) : (gb_tb1 (Int32.toNatClampNeg v)).toInt = gb_kn l := by
  rw [gi_tn e]
  exact (gb_knt ⟨l, hl⟩).1
theorem gb_kn5 {l : Nat} (hl : l < 18) : gb_kn l ≤ 5 := (gb_knt ⟨l, hl⟩).2
theorem ch_roomB {n : Nat} {σ : gb_S} {k0 : Nat} {p1 : Int32} {l : Nat} (e1 : p1.toInt = l) (hl : l < 3) : gb_hc (cs_Border_hasRoomFor_B n σ k0 p1) (fun s r => s = σ ∧ ((r = 1 ∧ gb_room 0 l (σ.1 (k0 + 1))) ∨ (r = 0 ∧ ¬ gb_room 0 l (σ.1 (k0 + 1))))) := by
  unfold cs_Border_hasRoomFor_B
  have c0 : (0 : Int32).toInt = 0 := by decide
  have c2 : (2 : Int32).toInt = 2 := by decide
  have c5 : (5 : Int32).toInt = 5 := by decide
  have c8 : (8 : Int32).toInt = 8 := by decide
  have rE : gb_room 0 l (σ.1 (k0 + 1)) ↔ (l = 2 ∨ (l = 0 ∧ (σ.1 (k0 + 1) 0).toInt < 5) ∨ (l = 1 ∧ (σ.1 (k0 + 1) 1).toInt < 8)) := by
    unfold gb_room
    rw [if_pos rfl]
  rw [rE]
  refine hc_kk (fun _ => hc_if (fun c => hc_some ⟨rfl, Or.inl ⟨rfl, Or.inl ?_⟩⟩) (fun c => hc_if (fun d => ?_) (fun d => ?_)))
  · rw [c] at e1
    omega
  · refine hc_cd (P := fun s r => s = σ ∧ r = σ.1 (k0 + 1) 0) ?_ (fun s r h => ?_)
    · unfold cs_Border_paths_B
      exact hc_kk (fun _ => hc_lt (fun x ex => hc_some ⟨rfl, ex⟩))
    · obtain ⟨rfl, rfl⟩ := h
      rw [d] at e1
      refine hc_if (fun g => hc_some ⟨rfl, Or.inr ⟨rfl, ?_⟩⟩) (fun g => hc_some ⟨rfl, Or.inl ⟨rfl, ?_⟩⟩)
      · have := gi_le g
        omega
      · have := gi_nle g
        omega
  · refine hc_cd (P := fun s r => s = σ ∧ r = σ.1 (k0 + 1) 1) ?_ (fun s r h => ?_)
    · unfold cs_Border_geese_B
      exact hc_kk (fun _ => hc_lt (fun x ex => hc_some ⟨rfl, ex⟩))
    · obtain ⟨rfl, rfl⟩ := h
      have l1 : l = 1 := by
        have a : l ≠ 2 := fun q => c (gi_eq e1 (by rw [q]; decide))
        have b : l ≠ 0 := fun q => d (gi_eq e1 (by rw [q]; decide))
        omega
      refine hc_if (fun g => hc_some ⟨rfl, Or.inr ⟨rfl, ?_⟩⟩) (fun g => hc_some ⟨rfl, Or.inl ⟨rfl, ?_⟩⟩)
      · have := gi_le g
        omega
      · have := gi_nle g
        omega
def gb_dD (σ σ2 : gb_S) (D : Nat) : Prop := σ2.2 = σ.2 ∧ ∀ k, k ≠ D → σ2.1 k = σ.1 k
set_option maxHeartbeats 2000000 in
theorem ch_addB {n : Nat} {σ : gb_S} {k0 : Nat} {p1 : Int32} {l : Nat} (hk : k0 ≠ 106) (e1 : p1.toInt = l) (hl : l < 3) (h0 : 0 ≤ (σ.1 (k0 + 1) 0).toInt) (h1 : 0 ≤ (σ.1 (k0 + 1) 1).toInt) : gb_hc (cs_Border_addLine_B_c107 n σ k0 p1) (fun s _ => gb_dD σ s (k0 + 1) ∧ gb_added 0 l (σ.1 107) (σ.1 (k0 + 1)) (s.1 (k0 + 1))) := by
  unfold cs_Border_addLine_B_c107
  have c0 : (0 : Int32).toInt = 0 := by decide
  have c1 : (1 : Int32).toInt = 1 := by decide
  have c2 : (2 : Int32).toInt = 2 := by decide
  have c3 : (3 : Int32).toInt = 3 := by decide
  have c5 : (5 : Int32).toInt = 5 := by decide
  have c18 : (18 : Int32).toInt = 18 := by decide
  have t0 : Int32.toNatClampNeg 0 = 0 := by decide
  have t1 : Int32.toNatClampNeg 1 = 1 := by decide
  have t2 : Int32.toNatClampNeg 2 = 2 := by decide
  have t3 : Int32.toNatClampNeg 3 = 3 := by decide
  have t5 : Int32.toNatClampNeg 5 = 5 := by decide
  rw [t0, t1, t2, t3, t5]
  refine hc_kk (fun _ => hc_cd (ch_roomB e1 hl) (fun s r h => ?_))
  obtain ⟨rfl, h⟩ := h
  refine hc_if (fun c => hc_some ⟨⟨rfl, fun _ _ => rfl⟩, Or.inl ⟨?_, rfl⟩⟩) (fun c => ?_)
  · rcases h with z | z
    · rw [c] at z
      exact absurd z.1 (by decide)
    · exact z.2
  · have hr : gb_room 0 l (s.1 (k0 + 1)) := by
      rcases h with z | z
      · exact z.2
      · exact absurd z.1 c
    have hr2 : l = 2 ∨ (l = 0 ∧ (s.1 (k0 + 1) 0).toInt < 5) ∨ (l = 1 ∧ (s.1 (k0 + 1) 1).toInt < 8) := by
      have := hr
      unfold gb_room at this
      rw [if_pos rfl] at this
      exact this
    refine hc_if (fun d => hc_lt (fun x ex => hc_lt (fun s2 e2 => hc_some ⟨⟨by rw [e2]; rfl, fun k hk => by rw [e2]; exact gb_sun hk⟩, Or.inr ⟨hr, Or.inl ⟨rfl, Or.inl ⟨?_, ?_⟩⟩⟩⟩))) (fun d => hc_if (fun g => ?_) (fun g => hc_if (fun g2 => ?_) (fun g2 => ?_)))
    · rw [d] at e1
      omega
    · rw [e2, gb_sus, ex]
    · rw [g] at e1
      have l0 : l = 0 := by omega
      refine hc_cd (P := fun s2 r => s2 = s ∧ r = s.1 (k0 + 1) 0) ?_ (fun s2 r h2 => ?_)
      · unfold cs_Border_paths_B
        exact hc_kk (fun _ => hc_lt (fun x ex => hc_some ⟨rfl, by rw [ex, t0]⟩))
      · obtain ⟨rfl, rfl⟩ := h2
        have m1 : (s2.1 (k0 + 1) 0 * 3).toInt = ((3 * (s2.1 (k0 + 1) 0).toInt.toNat : Nat) : Int) := by
          rw [gb_tmul (by rw [c3]; omega) (by rw [c3]; omega), c3]
          omega
        have m2 : ((3 : Int32) + s2.1 (k0 + 1) 0 * 3).toInt = ((3 + 3 * (s2.1 (k0 + 1) 0).toInt.toNat : Nat) : Int) := by
          rw [gb_tadd (by rw [m1, c3]; omega) (by rw [m1, c3]; omega), m1, c3]
          omega
        rw [gi_tn m2]
        refine hc_ac (hc_lt (fun s3 e3 => hc_lt (fun x ex => hc_lt (fun s4 e4 => hc_some ⟨⟨by rw [e4, e3]; rfl, fun k hk => by rw [e4, gb_sun hk, e3, gb_sun hk]⟩, Or.inr ⟨hr, Or.inl ⟨rfl, Or.inr (Or.inl ⟨l0, ?_⟩)⟩⟩⟩))))
        have x0 : x = s2.1 (k0 + 1) 0 := by
          rw [ex, e3, gb_sus]
          unfold va_cpy
          rw [if_neg (by omega)]
        rw [e4, gb_sus, e3, gb_sus, x0]
    · rw [g2] at e1
      have l0 : l = 1 := by omega
      refine hc_cd (P := fun s2 r => s2 = s ∧ r = s.1 (k0 + 1) 1) ?_ (fun s2 r h2 => ?_)
      · unfold cs_Border_geese_B
        exact hc_kk (fun _ => hc_lt (fun x ex => hc_some ⟨rfl, by rw [ex, t1]⟩))
      · obtain ⟨rfl, rfl⟩ := h2
        have m1 : (s2.1 (k0 + 1) 1 * 5).toInt = ((5 * (s2.1 (k0 + 1) 1).toInt.toNat : Nat) : Int) := by
          rw [gb_tmul (by rw [c5]; omega) (by rw [c5]; omega), c5]
          omega
        have m2 : ((18 : Int32) + s2.1 (k0 + 1) 1 * 5).toInt = ((18 + 5 * (s2.1 (k0 + 1) 1).toInt.toNat : Nat) : Int) := by
          rw [gb_tadd (by rw [m1, c18]; omega) (by rw [m1, c18]; omega), m1, c18]
          omega
        rw [gi_tn m2]
        refine hc_ac (hc_lt (fun s3 e3 => hc_lt (fun x ex => hc_lt (fun s4 e4 => hc_some ⟨⟨by rw [e4, e3]; rfl, fun k hk => by rw [e4, gb_sun hk, e3, gb_sun hk]⟩, Or.inr ⟨hr, Or.inl ⟨rfl, Or.inr (Or.inr ⟨l0, ?_⟩)⟩⟩⟩))))
        have x0 : x = s2.1 (k0 + 1) 1 := by
          rw [ex, e3, gb_sus]
          unfold va_cpy
          rw [if_neg (by omega)]
        rw [e4, gb_sus, e3, gb_sus, x0]
    · have a : l ≠ 0 := fun q => g (gi_eq e1 (by rw [q]; decide))
      have b : l ≠ 1 := fun q => g2 (gi_eq e1 (by rw [q]; decide))
      have b2 : l ≠ 2 := fun q => d (gi_eq e1 (by rw [q]; decide))
      omega
theorem ch_roomN {n : Nat} {σ : gb_S} {k0 : Nat} {p1 : Int32} {l : Nat} : gb_hc (cs_Lines_hasRoomFor_N n σ k0 p1) (fun s r => s = σ ∧ ((r = 1 ∧ gb_room 1 l (σ.1 (k0 + 1))) ∨ (r = 0 ∧ ¬ gb_room 1 l (σ.1 (k0 + 1))))) := by
  unfold cs_Lines_hasRoomFor_N
  have cm : (24 : Int32).toInt = 24 := by decide
  have rE : gb_room 1 l (σ.1 (k0 + 1)) ↔ (σ.1 (k0 + 1) 0).toInt < 24 := Iff.rfl
  rw [rE]
  refine hc_kk (fun _ => hc_cd (P := fun s r => s = σ ∧ r = σ.1 (k0 + 1) 0) ?_ (fun s r h => ?_))
  · unfold cs_Lines_size_N
    exact hc_kk (fun _ => hc_lt (fun x ex => hc_some ⟨rfl, ex⟩))
  · obtain ⟨rfl, rfl⟩ := h
    refine hc_if (fun g => hc_some ⟨rfl, Or.inr ⟨rfl, ?_⟩⟩) (fun g => hc_some ⟨rfl, Or.inl ⟨rfl, ?_⟩⟩)
    · have := gi_le g
      omega
    · have := gi_nle g
      omega
set_option maxHeartbeats 2000000 in
theorem ch_add48N {n : Nat} {σ0 : gb_S} {k0 l c : Nat} {v1 v3 : Int32} (hk : k0 ≠ 106) (e1 : v1.toInt = l) (hl : l < 18) (hc : (σ0.1 (k0 + 1) 0).toInt.toNat = c) (hc2 : c < 24) (e3 : v3.toInt = ((1 + 4 * c : Nat) : Int)) : ∀ (mm : Nat) (σ : gb_S) (v4 : Int32) (i : Nat), v4.toInt = i → i ≤ 3 → gb_dD σ0 σ (k0 + 1) → gb_addL 1 l (σ0.1 107) (σ0.1 (k0 + 1)) (σ.1 (k0 + 1)) i → gb_hc (cs_Lines_addLine_N_c107_48 n mm σ k0 v1 v3 v4) (fun s _ => gb_dD σ0 s (k0 + 1) ∧ ∃ G1, gb_addL 1 l (σ0.1 107) (σ0.1 (k0 + 1)) G1 3 ∧ s.1 (k0 + 1) = upd G1 0 (σ0.1 (k0 + 1) 0 + 1)) := by
  have c1 : (1 : Int32).toInt = 1 := by decide
  have cn : (3 : Int32).toInt = 3 := by decide
  have t0 : Int32.toNatClampNeg 0 = 0 := by decide
  have h107 : (107 : Nat) ≠ k0 + 1 := by omega
  have wE : gb_wid 1 = 4 := rfl
  intro mm
  induction mm with
  | zero =>
    intros
    exact hc_none
  | succ mm ih =>
    intro σ v4 i e4 hi hD hA
    rw [cs_Lines_addLine_N_c107_48]
    have kE := gb_knE e1 hl
    obtain ⟨a1, a2, a3, a4⟩ := hA
    rw [wE, hc] at a2 a3 a4
    refine hc_kk (fun _ => hc_if (fun g => ?_) (fun g => ?_))
    · have := gi_le g
      have hin : i = 3 := by omega
      subst hin
      rw [t0]
      refine hc_lt (fun x ex => hc_lt (fun s es => hc_some ⟨⟨by rw [es]; exact hD.1, fun k hk => by rw [es, gb_sun hk]; exact hD.2 k hk⟩, σ.1 (k0 + 1), ⟨a1, by rw [wE, hc]; exact a2, by rw [wE, hc]; exact a3, by rw [wE, hc]; exact a4⟩, ?_⟩))
      rw [es, gb_sus, ex, a1]
    · have hi2 : i < 3 := by
        have := gi_nle g
        omega
      have m1 : (v3 + 1).toInt = ((2 + 4 * c : Nat) : Int) := by
        rw [gb_tadd (by omega) (by omega), c1, e3]
        omega
      have m2 : ((v3 + 1) + v4).toInt = ((2 + 4 * c + i : Nat) : Int) := by
        rw [gb_tadd (by omega) (by omega), m1, e4]
        omega
      rw [gi_tn m2, gi_tn e4]
      have step : ∀ (u : Int32) (s : gb_S) (x : Int32), u = (if i < gb_kn l then σ0.1 107 i else -1) → s = gb_su σ (k0 + 1) (upd (σ.1 (k0 + 1)) (2 + 4 * c + i) u) → x = v4 + 1 → gb_hc (cs_Lines_addLine_N_c107_48 n mm s k0 v1 v3 x) (fun s _ => gb_dD σ0 s (k0 + 1) ∧ ∃ G1, gb_addL 1 l (σ0.1 107) (σ0.1 (k0 + 1)) G1 3 ∧ s.1 (k0 + 1) = upd G1 0 (σ0.1 (k0 + 1) 0 + 1)) := by
        intro u s x eu es ex
        refine ih s x (i + 1) (by rw [ex]; exact gi_s1 e4 (by omega)) (by omega) ⟨by rw [es]; exact hD.1, fun k hk => by rw [es, gb_sun hk]; exact hD.2 k hk⟩ ⟨?_, ?_, fun j hj => ?_, fun j h1 h2 => ?_⟩
        · rw [es, gb_sus, pk_un (by omega)]
          exact a1
        · rw [wE, hc, es, gb_sus, pk_un (by omega)]
          exact a2
        · rw [wE, hc, es, gb_sus]
          by_cases q : j = i
          · rw [q, pk_us, eu]
          · rw [pk_un (by omega)]
            exact a3 j (by omega)
        · rw [wE, hc] at h2
          rw [es, gb_sus, pk_un (by omega)]
          exact a4 j h1 h2
      refine hc_ck (fun _ _ => hc_lt (fun x ex => ?_))
      rw [← ex] at kE
      refine hc_if (fun d => hc_ck (fun _ _ => hc_lt (fun s es => hc_lt (fun y ey => step (-1) s y ?_ es ey)))) (fun d => hc_ck (fun _ _ => hc_lt (fun u eu => hc_ck (fun _ _ => hc_lt (fun s es => hc_lt (fun y ey => step u s y ?_ es ey))))))
      · have := gi_le d
        rw [if_neg (by omega)]
      · have := gi_nle d
        rw [if_pos (by omega), eu, hD.2 107 h107]
set_option maxHeartbeats 2000000 in
theorem ch_addN {n : Nat} {σ : gb_S} {k0 : Nat} {p1 : Int32} {l : Nat} (hk : k0 ≠ 106) (e1 : p1.toInt = l) (hl : l < 18) (h0 : 0 ≤ (σ.1 (k0 + 1) 0).toInt) : gb_hc (cs_Lines_addLine_N_c107 n σ k0 p1) (fun s _ => gb_dD σ s (k0 + 1) ∧ gb_added 1 l (σ.1 107) (σ.1 (k0 + 1)) (s.1 (k0 + 1))) := by
  unfold cs_Lines_addLine_N_c107
  have c0 : (0 : Int32).toInt = 0 := by decide
  have c1 : (1 : Int32).toInt = 1 := by decide
  have cw : ((3 : Int32) + 1).toInt = 4 := by decide
  have c18 : (18 : Int32).toInt = 18 := by decide
  have cf : (3 : Int32).toInt = 3 := by decide
  refine hc_kk (fun _ => hc_cd (ch_roomN (l := l)) (fun s r h => ?_))
  obtain ⟨rfl, h⟩ := h
  refine hc_if (fun c => hc_some ⟨⟨rfl, fun _ _ => rfl⟩, Or.inl ⟨?_, rfl⟩⟩) (fun c => ?_)
  · rcases h with z | z
    · rw [c] at z
      exact absurd z.1 (by decide)
    · exact z.2
  · have hr : gb_room 1 l (s.1 (k0 + 1)) := by
      rcases h with z | z
      · exact z.2
      · exact absurd z.1 c
    have hr2 : (s.1 (k0 + 1) 0).toInt < 24 := hr
    refine hc_if (fun d => ?_) (fun d => hc_if (fun g => ?_) (fun g => ?_))
    · have := gi_lt d
      omega
    · refine hc_cd (P := fun s2 r => s2 = s ∧ r = s.1 (k0 + 1) 0) ?_ (fun s2 r h2 => ?_)
      · unfold cs_Lines_size_N
        exact hc_kk (fun _ => hc_lt (fun x ex => hc_some ⟨rfl, ex⟩))
      · obtain ⟨rfl, rfl⟩ := h2
        have m1 : (s2.1 (k0 + 1) 0 * ((3 : Int32) + 1)).toInt = ((4 * (s2.1 (k0 + 1) 0).toInt.toNat : Nat) : Int) := by
          rw [gb_tmul (by rw [cw]; omega) (by rw [cw]; omega), cw]
          omega
        have m2 : ((1 : Int32) + s2.1 (k0 + 1) 0 * ((3 : Int32) + 1)).toInt = ((1 + 4 * (s2.1 (k0 + 1) 0).toInt.toNat : Nat) : Int) := by
          rw [gb_tadd (by rw [m1, c1]; omega) (by rw [m1, c1]; omega), m1, c1]
          omega
        refine hc_lt (fun x ex => hc_ck (fun _ _ => hc_lt (fun s3 e3 => ?_)))
        rw [← ex] at m2
        rw [gi_tn m2] at e3
        refine hc_mono (ch_add48N (σ0 := s2) hk e1 hl rfl (by omega) m2 n s3 0 0 c0 (Nat.zero_le _) ⟨by rw [e3]; rfl, fun k hk => by rw [e3]; exact gb_sun hk⟩ ⟨?_, ?_, fun j hj => absurd hj (Nat.not_lt_zero _), fun j h1 h2 => ?_⟩) (fun s4 _ h4 => ⟨h4.1, Or.inr ⟨hr, Or.inr ⟨by decide, h4.2⟩⟩⟩)
        · rw [e3, gb_sus, pk_un (by omega)]
        · show (s3.1 (k0 + 1) (1 + 4 * _)).toInt = (l : Int) - (3 : Nat)
          rw [e3, gb_sus, pk_us, gb_tsub (by rw [cf]; omega) (by rw [cf]; omega), e1, cf]
          rfl
        · have h2' : j < 1 + 4 * (s2.1 (k0 + 1) 0).toInt.toNat ∨ 1 + 4 * (s2.1 (k0 + 1) 0).toInt.toNat + 4 ≤ j := h2
          rw [e3, gb_sus, pk_un (by omega)]
    · have := gi_nlt g
      omega
theorem ch_roomL {n : Nat} {σ : gb_S} {k0 : Nat} {p1 : Int32} {l : Nat} : gb_hc (cs_Lines_hasRoomFor_L n σ k0 p1) (fun s r => s = σ ∧ ((r = 1 ∧ gb_room 2 l (σ.1 (k0 + 1))) ∨ (r = 0 ∧ ¬ gb_room 2 l (σ.1 (k0 + 1))))) := by
  unfold cs_Lines_hasRoomFor_L
  have cm : (8 : Int32).toInt = 8 := by decide
  have rE : gb_room 2 l (σ.1 (k0 + 1)) ↔ (σ.1 (k0 + 1) 0).toInt < 8 := Iff.rfl
  rw [rE]
  refine hc_kk (fun _ => hc_cd (P := fun s r => s = σ ∧ r = σ.1 (k0 + 1) 0) ?_ (fun s r h => ?_))
  · unfold cs_Lines_size_L
    exact hc_kk (fun _ => hc_lt (fun x ex => hc_some ⟨rfl, ex⟩))
  · obtain ⟨rfl, rfl⟩ := h
    refine hc_if (fun g => hc_some ⟨rfl, Or.inr ⟨rfl, ?_⟩⟩) (fun g => hc_some ⟨rfl, Or.inl ⟨rfl, ?_⟩⟩)
    · have := gi_le g
      omega
    · have := gi_nle g
      omega
set_option maxHeartbeats 2000000 in
theorem ch_add48L {n : Nat} {σ0 : gb_S} {k0 l c : Nat} {v1 v3 : Int32} (hk : k0 ≠ 106) (e1 : v1.toInt = l) (hl : l < 18) (hc : (σ0.1 (k0 + 1) 0).toInt.toNat = c) (hc2 : c < 24) (e3 : v3.toInt = ((1 + 3 * c : Nat) : Int)) : ∀ (mm : Nat) (σ : gb_S) (v4 : Int32) (i : Nat), v4.toInt = i → i ≤ 2 → gb_dD σ0 σ (k0 + 1) → gb_addL 2 l (σ0.1 107) (σ0.1 (k0 + 1)) (σ.1 (k0 + 1)) i → gb_hc (cs_Lines_addLine_L_c107_48 n mm σ k0 v1 v3 v4) (fun s _ => gb_dD σ0 s (k0 + 1) ∧ ∃ G1, gb_addL 2 l (σ0.1 107) (σ0.1 (k0 + 1)) G1 2 ∧ s.1 (k0 + 1) = upd G1 0 (σ0.1 (k0 + 1) 0 + 1)) := by
  have c1 : (1 : Int32).toInt = 1 := by decide
  have cn : (2 : Int32).toInt = 2 := by decide
  have t0 : Int32.toNatClampNeg 0 = 0 := by decide
  have h107 : (107 : Nat) ≠ k0 + 1 := by omega
  have wE : gb_wid 2 = 3 := rfl
  intro mm
  induction mm with
  | zero =>
    intros
    exact hc_none
  | succ mm ih =>
    intro σ v4 i e4 hi hD hA
    rw [cs_Lines_addLine_L_c107_48]
    have kE := gb_knE e1 hl
    obtain ⟨a1, a2, a3, a4⟩ := hA
    rw [wE, hc] at a2 a3 a4
    refine hc_kk (fun _ => hc_if (fun g => ?_) (fun g => ?_))
    · have := gi_le g
      have hin : i = 2 := by omega
      subst hin
      rw [t0]
      refine hc_lt (fun x ex => hc_lt (fun s es => hc_some ⟨⟨by rw [es]; exact hD.1, fun k hk => by rw [es, gb_sun hk]; exact hD.2 k hk⟩, σ.1 (k0 + 1), ⟨a1, by rw [wE, hc]; exact a2, by rw [wE, hc]; exact a3, by rw [wE, hc]; exact a4⟩, ?_⟩))
      rw [es, gb_sus, ex, a1]
    · have hi2 : i < 2 := by
        have := gi_nle g
        omega
      have m1 : (v3 + 1).toInt = ((2 + 3 * c : Nat) : Int) := by
        rw [gb_tadd (by omega) (by omega), c1, e3]
        omega
      have m2 : ((v3 + 1) + v4).toInt = ((2 + 3 * c + i : Nat) : Int) := by
        rw [gb_tadd (by omega) (by omega), m1, e4]
        omega
      rw [gi_tn m2, gi_tn e4]
      have step : ∀ (u : Int32) (s : gb_S) (x : Int32), u = (if i < gb_kn l then σ0.1 107 i else -1) → s = gb_su σ (k0 + 1) (upd (σ.1 (k0 + 1)) (2 + 3 * c + i) u) → x = v4 + 1 → gb_hc (cs_Lines_addLine_L_c107_48 n mm s k0 v1 v3 x) (fun s _ => gb_dD σ0 s (k0 + 1) ∧ ∃ G1, gb_addL 2 l (σ0.1 107) (σ0.1 (k0 + 1)) G1 2 ∧ s.1 (k0 + 1) = upd G1 0 (σ0.1 (k0 + 1) 0 + 1)) := by
        intro u s x eu es ex
        refine ih s x (i + 1) (by rw [ex]; exact gi_s1 e4 (by omega)) (by omega) ⟨by rw [es]; exact hD.1, fun k hk => by rw [es, gb_sun hk]; exact hD.2 k hk⟩ ⟨?_, ?_, fun j hj => ?_, fun j h1 h2 => ?_⟩
        · rw [es, gb_sus, pk_un (by omega)]
          exact a1
        · rw [wE, hc, es, gb_sus, pk_un (by omega)]
          exact a2
        · rw [wE, hc, es, gb_sus]
          by_cases q : j = i
          · rw [q, pk_us, eu]
          · rw [pk_un (by omega)]
            exact a3 j (by omega)
        · rw [wE, hc] at h2
          rw [es, gb_sus, pk_un (by omega)]
          exact a4 j h1 h2
      refine hc_ck (fun _ _ => hc_lt (fun x ex => ?_))
      rw [← ex] at kE
      refine hc_if (fun d => hc_ck (fun _ _ => hc_lt (fun s es => hc_lt (fun y ey => step (-1) s y ?_ es ey)))) (fun d => hc_ck (fun _ _ => hc_lt (fun u eu => hc_ck (fun _ _ => hc_lt (fun s es => hc_lt (fun y ey => step u s y ?_ es ey))))))
      · have := gi_le d
        rw [if_neg (by omega)]
      · have := gi_nle d
        rw [if_pos (by omega), eu, hD.2 107 h107]
set_option maxHeartbeats 2000000 in
theorem ch_addL {n : Nat} {σ : gb_S} {k0 : Nat} {p1 : Int32} {l : Nat} (hk : k0 ≠ 106) (e1 : p1.toInt = l) (hl : l < 18) (h0 : 0 ≤ (σ.1 (k0 + 1) 0).toInt) : gb_hc (cs_Lines_addLine_L_c107 n σ k0 p1) (fun s _ => gb_dD σ s (k0 + 1) ∧ gb_added 2 l (σ.1 107) (σ.1 (k0 + 1)) (s.1 (k0 + 1))) := by
  unfold cs_Lines_addLine_L_c107
  have c0 : (0 : Int32).toInt = 0 := by decide
  have c1 : (1 : Int32).toInt = 1 := by decide
  have cw : ((2 : Int32) + 1).toInt = 3 := by decide
  have c18 : (18 : Int32).toInt = 18 := by decide
  have cf : (12 : Int32).toInt = 12 := by decide
  refine hc_kk (fun _ => hc_cd (ch_roomL (l := l)) (fun s r h => ?_))
  obtain ⟨rfl, h⟩ := h
  refine hc_if (fun c => hc_some ⟨⟨rfl, fun _ _ => rfl⟩, Or.inl ⟨?_, rfl⟩⟩) (fun c => ?_)
  · rcases h with z | z
    · rw [c] at z
      exact absurd z.1 (by decide)
    · exact z.2
  · have hr : gb_room 2 l (s.1 (k0 + 1)) := by
      rcases h with z | z
      · exact z.2
      · exact absurd z.1 c
    have hr2 : (s.1 (k0 + 1) 0).toInt < 8 := hr
    refine hc_if (fun d => ?_) (fun d => hc_if (fun g => ?_) (fun g => ?_))
    · have := gi_lt d
      omega
    · refine hc_cd (P := fun s2 r => s2 = s ∧ r = s.1 (k0 + 1) 0) ?_ (fun s2 r h2 => ?_)
      · unfold cs_Lines_size_L
        exact hc_kk (fun _ => hc_lt (fun x ex => hc_some ⟨rfl, ex⟩))
      · obtain ⟨rfl, rfl⟩ := h2
        have m1 : (s2.1 (k0 + 1) 0 * ((2 : Int32) + 1)).toInt = ((3 * (s2.1 (k0 + 1) 0).toInt.toNat : Nat) : Int) := by
          rw [gb_tmul (by rw [cw]; omega) (by rw [cw]; omega), cw]
          omega
        have m2 : ((1 : Int32) + s2.1 (k0 + 1) 0 * ((2 : Int32) + 1)).toInt = ((1 + 3 * (s2.1 (k0 + 1) 0).toInt.toNat : Nat) : Int) := by
          rw [gb_tadd (by rw [m1, c1]; omega) (by rw [m1, c1]; omega), m1, c1]
          omega
        refine hc_lt (fun x ex => hc_ck (fun _ _ => hc_lt (fun s3 e3 => ?_)))
        rw [← ex] at m2
        rw [gi_tn m2] at e3
        refine hc_mono (ch_add48L (σ0 := s2) hk e1 hl rfl (by omega) m2 n s3 0 0 c0 (Nat.zero_le _) ⟨by rw [e3]; rfl, fun k hk => by rw [e3]; exact gb_sun hk⟩ ⟨?_, ?_, fun j hj => absurd hj (Nat.not_lt_zero _), fun j h1 h2 => ?_⟩) (fun s4 _ h4 => ⟨h4.1, Or.inr ⟨hr, Or.inr ⟨by decide, h4.2⟩⟩⟩)
        · rw [e3, gb_sus, pk_un (by omega)]
        · show (s3.1 (k0 + 1) (1 + 3 * _)).toInt = (l : Int) - (12 : Nat)
          rw [e3, gb_sus, pk_us, gb_tsub (by rw [cf]; omega) (by rw [cf]; omega), e1, cf]
          rfl
        · have h2' : j < 1 + 3 * (s2.1 (k0 + 1) 0).toInt.toNat ∨ 1 + 3 * (s2.1 (k0 + 1) 0).toInt.toNat + 3 ≤ j := h2
          rw [e3, gb_sus, pk_un (by omega)]
    · have := gi_nlt g
      omega
theorem ch_roomD {n : Nat} {σ : gb_S} {k0 : Nat} {p1 : Int32} {l : Nat} : gb_hc (cs_Lines_hasRoomFor_D n σ k0 p1) (fun s r => s = σ ∧ ((r = 1 ∧ gb_room 3 l (σ.1 (k0 + 1))) ∨ (r = 0 ∧ ¬ gb_room 3 l (σ.1 (k0 + 1))))) := by
  unfold cs_Lines_hasRoomFor_D
  have cm : (5 : Int32).toInt = 5 := by decide
  have rE : gb_room 3 l (σ.1 (k0 + 1)) ↔ (σ.1 (k0 + 1) 0).toInt < 5 := Iff.rfl
  rw [rE]
  refine hc_kk (fun _ => hc_cd (P := fun s r => s = σ ∧ r = σ.1 (k0 + 1) 0) ?_ (fun s r h => ?_))
  · unfold cs_Lines_size_D
    exact hc_kk (fun _ => hc_lt (fun x ex => hc_some ⟨rfl, ex⟩))
  · obtain ⟨rfl, rfl⟩ := h
    refine hc_if (fun g => hc_some ⟨rfl, Or.inr ⟨rfl, ?_⟩⟩) (fun g => hc_some ⟨rfl, Or.inl ⟨rfl, ?_⟩⟩)
    · have := gi_le g
      omega
    · have := gi_nle g
      omega
set_option maxHeartbeats 2000000 in
theorem ch_add48D {n : Nat} {σ0 : gb_S} {k0 l c : Nat} {v1 v3 : Int32} (hk : k0 ≠ 106) (e1 : v1.toInt = l) (hl : l < 18) (hc : (σ0.1 (k0 + 1) 0).toInt.toNat = c) (hc2 : c < 24) (e3 : v3.toInt = ((1 + 3 * c : Nat) : Int)) : ∀ (mm : Nat) (σ : gb_S) (v4 : Int32) (i : Nat), v4.toInt = i → i ≤ 2 → gb_dD σ0 σ (k0 + 1) → gb_addL 3 l (σ0.1 107) (σ0.1 (k0 + 1)) (σ.1 (k0 + 1)) i → gb_hc (cs_Lines_addLine_D_c107_48 n mm σ k0 v1 v3 v4) (fun s _ => gb_dD σ0 s (k0 + 1) ∧ ∃ G1, gb_addL 3 l (σ0.1 107) (σ0.1 (k0 + 1)) G1 2 ∧ s.1 (k0 + 1) = upd G1 0 (σ0.1 (k0 + 1) 0 + 1)) := by
  have c1 : (1 : Int32).toInt = 1 := by decide
  have cn : (2 : Int32).toInt = 2 := by decide
  have t0 : Int32.toNatClampNeg 0 = 0 := by decide
  have h107 : (107 : Nat) ≠ k0 + 1 := by omega
  have wE : gb_wid 3 = 3 := rfl
  intro mm
  induction mm with
  | zero =>
    intros
    exact hc_none
  | succ mm ih =>
    intro σ v4 i e4 hi hD hA
    rw [cs_Lines_addLine_D_c107_48]
    have kE := gb_knE e1 hl
    obtain ⟨a1, a2, a3, a4⟩ := hA
    rw [wE, hc] at a2 a3 a4
    refine hc_kk (fun _ => hc_if (fun g => ?_) (fun g => ?_))
    · have := gi_le g
      have hin : i = 2 := by omega
      subst hin
      rw [t0]
      refine hc_lt (fun x ex => hc_lt (fun s es => hc_some ⟨⟨by rw [es]; exact hD.1, fun k hk => by rw [es, gb_sun hk]; exact hD.2 k hk⟩, σ.1 (k0 + 1), ⟨a1, by rw [wE, hc]; exact a2, by rw [wE, hc]; exact a3, by rw [wE, hc]; exact a4⟩, ?_⟩))
      rw [es, gb_sus, ex, a1]
    · have hi2 : i < 2 := by
        have := gi_nle g
        omega
      have m1 : (v3 + 1).toInt = ((2 + 3 * c : Nat) : Int) := by
        rw [gb_tadd (by omega) (by omega), c1, e3]
        omega
      have m2 : ((v3 + 1) + v4).toInt = ((2 + 3 * c + i : Nat) : Int) := by
        rw [gb_tadd (by omega) (by omega), m1, e4]
        omega
      rw [gi_tn m2, gi_tn e4]
      have step : ∀ (u : Int32) (s : gb_S) (x : Int32), u = (if i < gb_kn l then σ0.1 107 i else -1) → s = gb_su σ (k0 + 1) (upd (σ.1 (k0 + 1)) (2 + 3 * c + i) u) → x = v4 + 1 → gb_hc (cs_Lines_addLine_D_c107_48 n mm s k0 v1 v3 x) (fun s _ => gb_dD σ0 s (k0 + 1) ∧ ∃ G1, gb_addL 3 l (σ0.1 107) (σ0.1 (k0 + 1)) G1 2 ∧ s.1 (k0 + 1) = upd G1 0 (σ0.1 (k0 + 1) 0 + 1)) := by
        intro u s x eu es ex
        refine ih s x (i + 1) (by rw [ex]; exact gi_s1 e4 (by omega)) (by omega) ⟨by rw [es]; exact hD.1, fun k hk => by rw [es, gb_sun hk]; exact hD.2 k hk⟩ ⟨?_, ?_, fun j hj => ?_, fun j h1 h2 => ?_⟩
        · rw [es, gb_sus, pk_un (by omega)]
          exact a1
        · rw [wE, hc, es, gb_sus, pk_un (by omega)]
          exact a2
        · rw [wE, hc, es, gb_sus]
          by_cases q : j = i
          · rw [q, pk_us, eu]
          · rw [pk_un (by omega)]
            exact a3 j (by omega)
        · rw [wE, hc] at h2
          rw [es, gb_sus, pk_un (by omega)]
          exact a4 j h1 h2
      refine hc_ck (fun _ _ => hc_lt (fun x ex => ?_))
      rw [← ex] at kE
      refine hc_if (fun d => hc_ck (fun _ _ => hc_lt (fun s es => hc_lt (fun y ey => step (-1) s y ?_ es ey)))) (fun d => hc_ck (fun _ _ => hc_lt (fun u eu => hc_ck (fun _ _ => hc_lt (fun s es => hc_lt (fun y ey => step u s y ?_ es ey))))))
      · have := gi_le d
        rw [if_neg (by omega)]
      · have := gi_nle d
        rw [if_pos (by omega), eu, hD.2 107 h107]
set_option maxHeartbeats 2000000 in
theorem ch_addD {n : Nat} {σ : gb_S} {k0 : Nat} {p1 : Int32} {l : Nat} (hk : k0 ≠ 106) (e1 : p1.toInt = l) (hl : l < 18) (h0 : 0 ≤ (σ.1 (k0 + 1) 0).toInt) : gb_hc (cs_Lines_addLine_D_c107 n σ k0 p1) (fun s _ => gb_dD σ s (k0 + 1) ∧ gb_added 3 l (σ.1 107) (σ.1 (k0 + 1)) (s.1 (k0 + 1))) := by
  unfold cs_Lines_addLine_D_c107
  have c0 : (0 : Int32).toInt = 0 := by decide
  have c1 : (1 : Int32).toInt = 1 := by decide
  have cw : ((2 : Int32) + 1).toInt = 3 := by decide
  have c18 : (18 : Int32).toInt = 18 := by decide
  have cf : (17 : Int32).toInt = 17 := by decide
  refine hc_kk (fun _ => hc_cd (ch_roomD (l := l)) (fun s r h => ?_))
  obtain ⟨rfl, h⟩ := h
  refine hc_if (fun c => hc_some ⟨⟨rfl, fun _ _ => rfl⟩, Or.inl ⟨?_, rfl⟩⟩) (fun c => ?_)
  · rcases h with z | z
    · rw [c] at z
      exact absurd z.1 (by decide)
    · exact z.2
  · have hr : gb_room 3 l (s.1 (k0 + 1)) := by
      rcases h with z | z
      · exact z.2
      · exact absurd z.1 c
    have hr2 : (s.1 (k0 + 1) 0).toInt < 5 := hr
    refine hc_if (fun d => ?_) (fun d => hc_if (fun g => ?_) (fun g => ?_))
    · have := gi_lt d
      omega
    · refine hc_cd (P := fun s2 r => s2 = s ∧ r = s.1 (k0 + 1) 0) ?_ (fun s2 r h2 => ?_)
      · unfold cs_Lines_size_D
        exact hc_kk (fun _ => hc_lt (fun x ex => hc_some ⟨rfl, ex⟩))
      · obtain ⟨rfl, rfl⟩ := h2
        have m1 : (s2.1 (k0 + 1) 0 * ((2 : Int32) + 1)).toInt = ((3 * (s2.1 (k0 + 1) 0).toInt.toNat : Nat) : Int) := by
          rw [gb_tmul (by rw [cw]; omega) (by rw [cw]; omega), cw]
          omega
        have m2 : ((1 : Int32) + s2.1 (k0 + 1) 0 * ((2 : Int32) + 1)).toInt = ((1 + 3 * (s2.1 (k0 + 1) 0).toInt.toNat : Nat) : Int) := by
          rw [gb_tadd (by rw [m1, c1]; omega) (by rw [m1, c1]; omega), m1, c1]
          omega
        refine hc_lt (fun x ex => hc_ck (fun _ _ => hc_lt (fun s3 e3 => ?_)))
        rw [← ex] at m2
        rw [gi_tn m2] at e3
        refine hc_mono (ch_add48D (σ0 := s2) hk e1 hl rfl (by omega) m2 n s3 0 0 c0 (Nat.zero_le _) ⟨by rw [e3]; rfl, fun k hk => by rw [e3]; exact gb_sun hk⟩ ⟨?_, ?_, fun j hj => absurd hj (Nat.not_lt_zero _), fun j h1 h2 => ?_⟩) (fun s4 _ h4 => ⟨h4.1, Or.inr ⟨hr, Or.inr ⟨by decide, h4.2⟩⟩⟩)
        · rw [e3, gb_sus, pk_un (by omega)]
        · show (s3.1 (k0 + 1) (1 + 3 * _)).toInt = (l : Int) - (17 : Nat)
          rw [e3, gb_sus, pk_us, gb_tsub (by rw [cf]; omega) (by rw [cf]; omega), e1, cf]
          rfl
        · have h2' : j < 1 + 3 * (s2.1 (k0 + 1) 0).toInt.toNat ∨ 1 + 3 * (s2.1 (k0 + 1) 0).toInt.toNat + 3 ≤ j := h2
          rw [e3, gb_sus, pk_un (by omega)]
    · have := gi_nlt g
      omega
/-! THE CLASS's Reader: a line -/
theorem ff_cg {l : Nat} {qs qt : Nat → Nat} {vs vt : Nat → Int} {fp : Int32 × Int32} : ∀ i, (∀ j, j < i → qs j = qt j ∧ vs j = vt j) → gb_ff l qs vs fp i = gb_ff l qt vt fp i := by
  intro i
  induction i with
  | zero =>
    intro _
    rfl
  | succ i ih =>
    intro h
    have a := ih (fun j hj => h j (by omega))
    have b := h i (by omega)
    have c := h 0 (by omega)
    show (if gb_can l i (vs i) (vs 0) then gb_ff l qs vs fp i else gb_note (gb_ff l qs vs fp i) 2 (qs i)) = (if gb_can l i (vt i) (vt 0) then gb_ff l qt vt fp i else gb_note (gb_ff l qt vt fp i) 2 (qt i))
    rw [a, b.1, b.2, c.2]
def gb_rfr (s : Nat) (σ σ2 : gb_S) : Prop := σ2.2 = σ.2 ∧ (∀ k, k ≠ 106 → k ≠ 107 → k ≠ 96 + 2 * s + 1 → σ2.1 k = σ.1 k) ∧ σ2.1 106 2 = σ.1 106 2
def gb_lp (T : Nat → Int32) (N l : Nat) (σ0 : gb_S) (fp : Int32 × Int32) (e0 : Nat) (ps qs : Nat → Nat) (vs : Nat → Int) (i : Nat) (σ : gb_S) : Prop := gb_rc T N σ ∧ ps 0 = e0 ∧ (σ.1 106 3).toInt = ps i ∧ ps i ≤ N ∧ gb_nums T N ps qs vs i ∧ (∀ j, j < i → (σ.1 107 j).toInt = vs j) ∧ (σ.1 106 4, σ.1 106 5) = gb_ff l qs vs fp i ∧ (σ.2 = σ0.2 ∧ (∀ k, k ≠ 106 → k ≠ 107 → σ.1 k = σ0.1 k) ∧ σ.1 106 2 = σ0.1 106 2)
def gb_rl2 (T : Nat → Int32) (N s l : Nat) (σ0 : gb_S) (fp : Int32 × Int32) (e0 : Nat) (σ2 : gb_S) (r : Int32) : Prop :=
  (r = 0 ∧ ∃ (q : Nat) (ps qs : Nat → Nat) (vs : Nat → Int) (i : Nat), ps 0 = e0 ∧ gb_nums T N ps qs vs i ∧ ((i < gb_kn l ∧ gb_nonum T N (ps i) q) ∨ (i = gb_kn l ∧ gb_nosemi T N (ps i) q)) ∧ (σ2.1 106 3).toInt = q ∧ q ≤ N ∧ gb_rfr s σ0 σ2) ∨
  (r = 1 ∧ ∃ (ps qs : Nat → Nat) (vs : Nat → Int) (q : Nat) (V : Nat → Int32), ps 0 = e0 ∧ gb_nums T N ps qs vs (gb_kn l) ∧ gb_semi T N (ps (gb_kn l)) q ∧ (σ2.1 106 3).toInt = ((q + 1 : Nat) : Int) ∧ gb_rfr s σ0 σ2 ∧ (∀ j, j < gb_kn l → (V j).toInt = vs j) ∧ gb_added s l V (σ0.1 (96 + 2 * s + 1)) (σ2.1 (96 + 2 * s + 1)) ∧ (σ2.1 106 4, σ2.1 106 5) = gb_ff l qs vs fp (gb_kn l))
theorem gb_kind {s : Nat} (hs : s ≤ 3) : (s = 0 ∧ gb_kB (96 + 2 * s) = true) ∨ (s = 1 ∧ gb_kN (96 + 2 * s) = true) ∨ (s = 2 ∧ gb_kL (96 + 2 * s) = true) ∨ (s = 3 ∧ gb_kD (96 + 2 * s) = true) := by
  have : s = 0 ∨ s = 1 ∨ s = 2 ∨ s = 3 := by omega
  rcases this with rfl | rfl | rfl | rfl
  · exact Or.inl ⟨rfl, by decide⟩
  · exact Or.inr (Or.inl ⟨rfl, by decide⟩)
  · exact Or.inr (Or.inr (Or.inl ⟨rfl, by decide⟩))
  · exact Or.inr (Or.inr (Or.inr ⟨rfl, by decide⟩))
set_option maxHeartbeats 4000000 in
theorem ch_rl38 {n : Nat} {T : Nat → Int32} {N s l e0 : Nat} {σ0 : gb_S} {fp : Int32 × Int32} {v4 : Int32} (hs : s ≤ 3) (hl : gb_fl s ≤ l ∧ l < gb_fl (s + 1)) (e4 : v4.toInt = l) (h0 : 0 ≤ (σ0.1 (96 + 2 * s + 1) 0).toInt) (h1 : s = 0 → 0 ≤ (σ0.1 (96 + 2 * s + 1) 1).toInt) : ∀ (mm : Nat) (σ : gb_S) (v5 : Int32) (ps qs : Nat → Nat) (vs : Nat → Int) (i : Nat), v5.toInt = i → i ≤ gb_kn l → gb_lp T N l σ0 fp e0 ps qs vs i σ → gb_hc (cs_Reader_readLine_S_38 n mm σ (96 + 2 * s) v4 v5) (fun σ2 r => gb_rl2 T N s l σ0 fp e0 σ2 r) := by
  have hl18 : l < 18 := by
    have := gb_fl18 (s := s + 1) (by omega)
    omega
  have kE := gb_knE e4 hl18
  have k5 := gb_kn5 hl18
  intro mm
  induction mm with
  | zero =>
    intros
    exact hc_none
  | succ mm ih =>
    intro σ v5 ps qs vs i e5 hi hP
    rw [cs_Reader_readLine_S_38]
    obtain ⟨hx, p0, h3, hpN, hns, hV, hF, f1, f2, f3⟩ := hP
    have hN := hx.2.2.1
    refine hc_ck (fun _ _ => hc_lt (fun x ex => ?_))
    rw [← ex] at kE
    refine hc_if (fun c => ?_) (fun c => ?_)
    · have hik : i = gb_kn l := by
        have := gi_le c
        omega
      subst hik
      refine hc_cd (ch_skip hx h3 hpN) (fun s1 _ g1 => ?_)
      obtain ⟨q, r1, r2, a1⟩ := g1
      have hx1 := rc_at hx a1
      have frb : gb_rfr s σ0 s1 := ⟨a1.1.trans f1, fun k k1 k2 k3 => (a1.2.1 k k1).trans (f2 k k1 k2), (a1.2.2.1 2 (by decide)).trans f3⟩
      have bad : ¬ (q < N ∧ T q = 59) → gb_rl2 T N s l σ0 fp e0 s1 0 := fun z => Or.inl ⟨rfl, q, ps, qs, vs, gb_kn l, p0, hns, Or.inr ⟨rfl, r1, z⟩, a1.2.2.2, r2, frb⟩
      refine hc_if (fun d => hc_some (bad (fun z => ?_))) (fun d => ?_)
      · have := gi_le d
        have := a1.2.2.2
        have := hx1.2.1
        omega
      · have hqN : q < N := by
          have := gi_nle d
          have := a1.2.2.2
          have := hx1.2.1
          omega
        have hb := hx1.2.2.2 q hqN
        rw [hx1.1, gi_tn a1.2.2.2]
        refine hc_kk (fun _ => hc_ck (fun _ _ => hc_lt (fun y ey => ?_)))
        subst ey
        refine hc_if (fun d2 => ?_) (fun d2 => hc_some (bad (fun z => d2 ((byr_eq hb (by decide) (by decide)).mpr z.2))))
        have hT := (byr_eq hb (by decide) (by decide)).mp d2
        refine hc_lt (fun s2 es2 => ?_)
        have a2 : gb_at1 s1 (q + 1) s2 := by
          rw [es2]
          exact at_u (gi_s1 a1.2.2.2 (by omega))
        have a12 := at_t a1 a2
        have nD : 96 + 2 * s + 1 ≠ 106 ∧ 96 + 2 * s + 1 ≠ 107 := by omega
        have qD : s2.1 (96 + 2 * s + 1) = σ0.1 (96 + 2 * s + 1) := (a12.2.1 _ nD.1).trans (f2 _ nD.1 nD.2)
        have fin : ∀ s3 : gb_S, gb_dD s2 s3 (96 + 2 * s + 1) → gb_added s l (s2.1 107) (s2.1 (96 + 2 * s + 1)) (s3.1 (96 + 2 * s + 1)) → gb_rl2 T N s l σ0 fp e0 s3 1 := by
          intro s3 hd ha
          have z106 : s3.1 106 = s2.1 106 := hd.2 106 (by omega)
          refine Or.inr ⟨rfl, ps, qs, vs, q, s2.1 107, p0, hns, ⟨r1, hqN, hT⟩, ?_, ⟨hd.1.trans (a12.1.trans f1), fun k k1 k2 k3 => (hd.2 k k3).trans ((a12.2.1 k k1).trans (f2 k k1 k2)), ?_⟩, fun j hj => ?_, by rw [← qD]; exact ha, ?_⟩
          · rw [z106]
            exact a2.2.2.2
          · rw [z106, a12.2.2.1 2 (by decide)]
            exact f3
          · rw [a12.2.1 107 (by decide)]
            exact hV j hj
          · rw [z106, a12.2.2.1 4 (by decide), a12.2.2.1 5 (by decide)]
            exact hF
        have h0' : 0 ≤ (s2.1 (96 + 2 * s + 1) 0).toInt := by rw [qD]; exact h0
        rcases gb_kind hs with ⟨hs0, hk⟩ | ⟨hs0, hk⟩ | ⟨hs0, hk⟩ | ⟨hs0, hk⟩
        · rw [if_pos hk]
          subst hs0
          have hl3 : l < 3 := hl.2
          exact hc_cd (ch_addB (by decide) e4 hl3 h0' (by rw [qD]; exact h1 rfl)) (fun s3 _ g => hc_some (fin s3 g.1 g.2))
        · rw [if_neg (gc_BN hk), if_pos hk]
          subst hs0
          exact hc_cd (ch_addN (by decide) e4 hl18 h0') (fun s3 _ g => hc_some (fin s3 g.1 g.2))
        · rw [if_neg (gc_BL hk).1, if_neg (gc_BL hk).2, if_pos hk]
          subst hs0
          exact hc_cd (ch_addL (by decide) e4 hl18 h0') (fun s3 _ g => hc_some (fin s3 g.1 g.2))
        · rw [if_neg (gc_BD hk).1, if_neg (gc_BD hk).2.1, if_neg (gc_BD hk).2.2, if_pos hk]
          subst hs0
          exact hc_cd (ch_addD (by decide) e4 hl18 h0') (fun s3 _ g => hc_some (fin s3 g.1 g.2))
    · have hik : i < gb_kn l := by
        have := gi_nle c
        omega
      refine hc_cd (ch_skip hx h3 hpN) (fun s1 _ g1 => ?_)
      obtain ⟨q, r1, r2, a1⟩ := g1
      have hx1 := rc_at hx a1
      refine hc_cd (ch_takeNumber hx1 e4 hl18 e5 (by omega) a1.2.2.2 r2) (fun s2 r g2 => ?_)
      rcases g2 with ⟨rz, es, hno⟩ | ⟨rz, e, v, t1, t2, t3, t4, t5, t6⟩
      · subst es
        rw [if_pos rz]
        refine hc_some (Or.inl ⟨rfl, q, ps, qs, vs, i, p0, hns, Or.inl ⟨hik, r1, hno⟩, a1.2.2.2, r2, ⟨a1.1.trans f1, fun k k1 k2 k3 => (a1.2.1 k k1).trans (f2 k k1 k2), (a1.2.2.1 2 (by decide)).trans f3⟩⟩)
      · rw [if_neg (by rw [rz]; decide)]
        obtain ⟨u1, u2, u3, u4, ⟨wd, uw, u5⟩, u6⟩ := t6
        refine hc_lt (fun y ey => ih s2 y (fun j => if j = i + 1 then e else ps j) (fun j => if j = i then q else qs j) (fun j => if j = i then v else vs j) (i + 1) (by rw [ey]; exact gi_s1 e5 (by omega)) (by omega) ?_)
        have w107 : ∀ j, j < i → s2.1 107 j = σ.1 107 j := fun j hj => by
          rw [u5, pk_un (by omega), a1.2.1 107 (by decide)]
        refine ⟨⟨?_, ?_, hN, fun j hj => ?_⟩, ?_, ?_, ?_, fun j hj => ?_, fun j hj => ?_, ?_, ?_, fun k k1 k2 => ?_, ?_⟩
        · rw [u1]
          exact hx1.1
        · rw [u3]
          exact hx1.2.1
        · rw [u2 23 (by decide) (by decide)]
          exact hx1.2.2.2 j hj
        · show (if 0 = i + 1 then e else ps 0) = e0
          rw [if_neg (by omega)]
          exact p0
        · show _ = (((if i + 1 = i + 1 then e else ps (i + 1)) : Nat) : Int)
          rw [if_pos rfl]
          exact u4
        · show (if i + 1 = i + 1 then e else ps (i + 1)) ≤ N
          rw [if_pos rfl]
          exact t5
        · show gb_num T N (if j = i + 1 then e else ps j) (if j = i then q else qs j) (if j + 1 = i + 1 then e else ps (j + 1)) (if j = i then v else vs j)
          by_cases z : j = i
          · rw [if_neg (by omega), if_pos z, if_pos (by omega), if_pos z, z]
            exact ⟨r1, t1, t2, t3, t4⟩
          · rw [if_neg (by omega), if_neg z, if_neg (by omega), if_neg z]
            exact hns j (by omega)
        · show _ = (if j = i then v else vs j)
          by_cases z : j = i
          · rw [if_pos z, z, u5, pk_us]
            exact uw
          · rw [if_neg z, w107 j (by omega)]
            exact hV j (by omega)
        · have v0E : (s2.1 107 0).toInt = (if 0 = i then v else vs 0) := by
            by_cases z : 0 = i
            · rw [if_pos z, u5, z, pk_us]
              exact uw
            · rw [if_neg z, w107 0 (by omega)]
              exact hV 0 (by omega)
          rw [u6, v0E, a1.2.2.1 4 (by decide), a1.2.2.1 5 (by decide), hF]
          have cg := ff_cg (l := l) (fp := fp) (qs := qs) (qt := fun j => if j = i then q else qs j) (vs := vs) (vt := fun j => if j = i then v else vs j) i (fun j hj => ⟨(if_neg (by omega)).symm, (if_neg (by omega)).symm⟩)
          rw [cg]
          show _ = (if gb_can l i (if i = i then v else vs i) (if 0 = i then v else vs 0) then _ else gb_note _ 2 (if i = i then q else qs i))
          rw [if_pos (rfl : i = i), if_pos (rfl : i = i)]
        · exact u1.trans (a1.1.trans f1)
        · exact (u2 k k1 k2).trans ((a1.2.1 k k1).trans (f2 k k1 k2))
        · exact u3.trans ((a1.2.2.1 2 (by decide)).trans f3)
/-- a line of the class -/
def gb_rln (T : Nat → Int32) (N s a : Nat) (σ σ2 : gb_S) (r : Int32) : Prop :=
  (r = 0 ∧ ∃ q : Nat, gb_bad T N s a q ∧ (σ2.1 106 3).toInt = q ∧ q ≤ N ∧ gb_rfr s σ σ2) ∨
  (r = 1 ∧ ∃ (l : Nat) (ps qs : Nat → Nat) (vs : Nat → Int) (e : Nat) (V : Nat → Int32) (fp : Int32 × Int32), gb_goodl T N s a l ps qs vs e ∧ (σ2.1 106 3).toInt = e ∧ gb_rfr s σ σ2 ∧ (∀ j, j < gb_kn l → (V j).toInt = vs j) ∧ gb_added s l V (σ.1 (96 + 2 * s + 1)) (σ2.1 (96 + 2 * s + 1)) ∧ ((gb_room s l (σ.1 (96 + 2 * s + 1)) ∧ fp = (σ.1 106 4, σ.1 106 5)) ∨ (¬ gb_room s l (σ.1 (96 + 2 * s + 1)) ∧ fp = gb_note (σ.1 106 4, σ.1 106 5) 3 a)) ∧ (σ2.1 106 4, σ2.1 106 5) = gb_ff l qs vs fp (gb_kn l))
set_option maxHeartbeats 4000000 in
theorem ch_readLine {n : Nat} {T : Nat → Int32} {N s a : Nat} {σ : gb_S} {p1 : Int32} (hx : gb_rc T N σ) (e1 : p1.toInt = s) (hs : s ≤ 3) (ha : (σ.1 106 3).toInt = a) (haN : a ≤ N) (h0 : 0 ≤ (σ.1 (96 + 2 * s + 1) 0).toInt) (h1 : s = 0 → 0 ≤ (σ.1 (96 + 2 * s + 1) 1).toInt) : gb_hc (cs_Reader_readLine_S n σ p1 (96 + 2 * s)) (fun σ2 r => gb_rln T N s a σ σ2 r) := by
  unfold cs_Reader_readLine_S
  have hN := hx.2.2.1
  refine hc_lt (fun x ex => hc_cd (ch_takeWord hx e1 hs ha haN) (fun s1 r g1 => ?_))
  rcases g1 with ⟨rz, es, hno⟩ | ⟨l, e, rl, hw, heN, a1⟩
  · rw [if_pos rz]
    subst es
    exact hc_some (Or.inl ⟨rfl, a, Or.inl ⟨rfl, hno⟩, ha, haN, rfl, fun _ _ _ _ => rfl, rfl⟩)
  · have hr1 : ¬ r = -1 := fun q => by
      have : (-1 : Int32).toInt = -1 := by decide
      rw [q] at rl
      omega
    rw [if_neg hr1]
    have hx1 := rc_at hx a1
    have hl18 : l < 18 := by
      have := gb_fl18 (s := s + 1) (by omega)
      have := hw.2.1
      omega
    have nD : 96 + 2 * s + 1 ≠ 106 ∧ 96 + 2 * s + 1 ≠ 107 := by omega
    have qD : s1.1 (96 + 2 * s + 1) = σ.1 (96 + 2 * s + 1) := a1.2.1 _ nD.1
    have z0 : (0 : Int32).toInt = ((0 : Nat) : Int) := by decide
    have go : ∀ (s2 : gb_S) (fp : Int32 × Int32), s2.2 = s1.2 → (∀ k, k ≠ 106 → s2.1 k = s1.1 k) → (∀ j, j ≠ 4 → j ≠ 5 → s2.1 106 j = s1.1 106 j) → (s2.1 106 4, s2.1 106 5) = fp → ((gb_room s l (σ.1 (96 + 2 * s + 1)) ∧ fp = (σ.1 106 4, σ.1 106 5)) ∨ (¬ gb_room s l (σ.1 (96 + 2 * s + 1)) ∧ fp = gb_note (σ.1 106 4, σ.1 106 5) 3 a)) → gb_hc (cs_Reader_readLine_S_38 n n s2 (96 + 2 * s) r 0) (fun σ2 r => gb_rln T N s a σ σ2 r) := by
      intro s2 fp q1 q2 q3 q4 q5
      have qD2 : s2.1 (96 + 2 * s + 1) = σ.1 (96 + 2 * s + 1) := (q2 _ nD.1).trans qD
      have hx2 : gb_rc T N s2 := ⟨by rw [q1]; exact hx1.1, by rw [q3 2 (by decide) (by decide)]; exact hx1.2.1, hN, fun i hi => by rw [q2 23 (by decide)]; exact hx1.2.2.2 i hi⟩
      have frm : ∀ σ3 : gb_S, gb_rfr s s2 σ3 → gb_rfr s σ σ3 := fun σ3 g => ⟨g.1.trans (q1.trans a1.1), fun k k1 k2 k3 => (g.2.1 k k1 k2 k3).trans ((q2 k k1).trans (a1.2.1 k k1)), g.2.2.trans ((q3 2 (by decide) (by decide)).trans (a1.2.2.1 2 (by decide)))⟩
      refine hc_mono (ch_rl38 (T := T) (N := N) (σ0 := s2) (fp := fp) (e0 := e) hs ⟨hw.1, hw.2.1⟩ rl (by rw [qD2]; exact h0) (fun q => by rw [qD2]; exact h1 q) n s2 0 (fun _ => e) (fun _ => 0) (fun _ => 0) 0 z0 (Nat.zero_le _) ⟨hx2, rfl, by rw [q3 3 (by decide) (by decide)]; exact a1.2.2.2, heN, fun i hi => absurd hi (Nat.not_lt_zero _), fun i hi => absurd hi (Nat.not_lt_zero _), q4, rfl, fun _ _ _ => rfl, rfl⟩) (fun σ3 r3 g => ?_)
      rcases g with ⟨g0, q, ps, qs, vs, i, g1, g2, g3, g4, g5, g6⟩ | ⟨g0, ps, qs, vs, q, V, g1, g2, g3, g4, g5, g6, g7, g8⟩
      · exact Or.inl ⟨g0, q, Or.inr ⟨l, ps, qs, vs, i, by rw [g1]; exact hw, g2, g3⟩, g4, g5, frm σ3 g6⟩
      · exact Or.inr ⟨g0, l, ps, qs, vs, q + 1, V, fp, ⟨by rw [g1]; exact hw, g2, q, g3, rfl⟩, g4, frm σ3 g5, g6, by rw [← qD2]; exact g7, q5, g8⟩
    have yes : ∀ s2 : gb_S, s2 = s1 → gb_room s l (s1.1 (96 + 2 * s + 1)) → gb_hc (cs_Reader_readLine_S_38 n n s2 (96 + 2 * s) r 0) (fun σ2 r => gb_rln T N s a σ σ2 r) := fun s2 es hr => by
      subst es
      exact go s2 (σ.1 106 4, σ.1 106 5) rfl (fun _ _ => rfl) (fun _ _ _ => rfl) (by rw [a1.2.2.1 4 (by decide), a1.2.2.1 5 (by decide)]) (Or.inl ⟨by rw [← qD]; exact hr, rfl⟩)
    have no : ∀ s2 : gb_S, s2 = s1 → ¬ gb_room s l (s1.1 (96 + 2 * s + 1)) → gb_hc (gb_cd (cs_Reader_note n s2 3 x) (fun s_56 _ => cs_Reader_readLine_S_38 n n s_56 (96 + 2 * s) r 0)) (fun σ2 r => gb_rln T N s a σ σ2 r) := fun s2 es hr => by
      subst es
      refine hc_cd (ch_note (q := a) (by rw [ex]; exact ha) (by omega)) (fun s3 _ g => ?_)
      obtain ⟨n1, n2, n3, n4⟩ := g
      refine go s3 _ n1 n2 n3 n4 (Or.inr ⟨by rw [← qD]; exact hr, ?_⟩)
      rw [a1.2.2.1 4 (by decide), a1.2.2.1 5 (by decide)]
    have pick : ∀ (s2 : gb_S) (r2 : Int32), s2 = s1 ∧ ((r2 = 1 ∧ gb_room s l (s1.1 (96 + 2 * s + 1))) ∨ (r2 = 0 ∧ ¬ gb_room s l (s1.1 (96 + 2 * s + 1)))) → gb_hc (if r2 = 0 then gb_cd (cs_Reader_note n s2 3 x) (fun s_56 _ => cs_Reader_readLine_S_38 n n s_56 (96 + 2 * s) r 0) else cs_Reader_readLine_S_38 n n s2 (96 + 2 * s) r 0) (fun σ2 r => gb_rln T N s a σ σ2 r) := fun s2 r2 h => by
      obtain ⟨h1, h2⟩ := h
      refine hc_if (fun c => no s2 h1 ?_) (fun c => yes s2 h1 ?_)
      · rcases h2 with z | z
        · rw [c] at z
          exact absurd z.1 (by decide)
        · exact z.2
      · rcases h2 with z | z
        · exact z.2
        · exact absurd z.1 c
    rcases gb_kind hs with ⟨hs0, hk⟩ | ⟨hs0, hk⟩ | ⟨hs0, hk⟩ | ⟨hs0, hk⟩
    · rw [if_pos hk]
      subst hs0
      have hl3 : l < 3 := hw.2.1
      exact hc_cd (ch_roomB rl hl3) (fun s2 r2 g => pick s2 r2 g)
    · rw [if_neg (gc_BN hk), if_pos hk]
      subst hs0
      exact hc_cd (ch_roomN (l := l)) (fun s2 r2 g => pick s2 r2 g)
    · rw [if_neg (gc_BL hk).1, if_neg (gc_BL hk).2, if_pos hk]
      subst hs0
      exact hc_cd (ch_roomL (l := l)) (fun s2 r2 g => pick s2 r2 g)
    · rw [if_neg (gc_BD hk).1, if_neg (gc_BD hk).2.1, if_neg (gc_BD hk).2.2, if_pos hk]
      subst hs0
      exact hc_cd (ch_roomD (l := l)) (fun s2 r2 g => pick s2 r2 g)
/-! THE REFERENCE's reading of numbers: S, what stands behind so many of them -/
def gb_rs (T : Nat → Int32) (N : Nat) (f : gb_F) (p : Nat) : Prop := gb_cx T N f ∧ ∃ q, gb_run (gb_bl T N) p q ∧ gb_tk T N f q
/-- what reading leaves: all but the lexer's fields, the fault and its place -/
def gb_ke (f f2 : gb_F) : Prop := f2 3 = f 3 ∧ f2 2 = f 2 ∧ f2 0 9 = f 0 9 ∧ f2 0 2 = f 0 2 ∧ ∀ j, j ≠ 5 → j ≠ 6 → f2 1 j = f 1 j
theorem ke_r {f : gb_F} : gb_ke f f := ⟨rfl, rfl, rfl, rfl, fun _ _ _ => rfl⟩
theorem ke_t {f g h : gb_F} (a : gb_ke f g) (b : gb_ke g h) : gb_ke f h := ⟨b.1.trans a.1, b.2.1.trans a.2.1, b.2.2.1.trans a.2.2.1, b.2.2.2.1.trans a.2.2.2.1, fun j x y => (b.2.2.2.2 j x y).trans (a.2.2.2.2 j x y)⟩
theorem ke_v {f g : gb_F} (a : gb_vf f g) : gb_ke f g := ⟨a.2.2.1, a.2.1, a.2.2.2.2.1, a.2.2.2.2.2, fun j _ _ => by rw [a.1]⟩
theorem cx_k {T : Nat → Int32} {N : Nat} {f f2 : gb_F} (h : gb_cx T N f) (g : gb_ke f f2) : gb_cx T N f2 := by
  obtain ⟨h1, h2, h3, h4⟩ := h
  exact ⟨by rw [g.2.2.2.1]; exact h1, h2, fun i hi => by rw [g.2.2.2.2 _ (by omega) (by omega)]; exact h3 i hi, h4⟩
theorem mh_ends0 {n : Nat} {f : gb_F} {w : Int64} {q : Nat} (h8 : f 0 8 = 0) (h4 : (f 0 4).toInt = q) (hq : q ≤ 600) : gb_hm (ms_ends n f w) (fun f2 _ _ => gb_ke f f2 ∧ ¬ f2 0 8 = 0 ∧ f2 1 5 = 1 ∧ f2 1 6 = nI q) := by
  unfold ms_ends
  have t5 : Int32.toNatClampNeg 5 = 5 := by decide
  have t6 : Int32.toNatClampNeg 6 = 6 := by decide
  rw [if_pos h8, t5, t6]
  refine hm_lt (fun g1 e1 => hm_lt (fun g2 e2 => hm_lt (fun g3 e3 => hm_some ?_)))
  have a0 : g3 0 = upd (f 0) 8 1 := by rw [e3, gb_un (by decide), e2, gb_un (by decide), e1, gb_us]
  have b0 : g2 0 = upd (f 0) 8 1 := by rw [e2, gb_un (by decide), e1, gb_us]
  have a1 : g3 1 = upd (upd (f 1) 5 1) 6 (f 0 4) := by
    rw [e3, gb_us, b0, pk_un (by decide), e2, gb_us, e1, gb_un (by decide)]
  refine ⟨⟨?_, ?_, ?_, ?_, fun j x y => ?_⟩, ?_, ?_, ?_⟩
  · rw [e3, gb_un (by decide), e2, gb_un (by decide), e1, gb_un (by decide)]
  · rw [e3, gb_un (by decide), e2, gb_un (by decide), e1, gb_un (by decide)]
  · rw [a0, pk_un (by decide)]
  · rw [a0, pk_un (by decide)]
  · rw [a1, pk_un y, pk_un x]
  · rw [a0, pk_us]
    decide
  · rw [a1, pk_un (by decide), pk_us]
  · rw [a1, pk_us]
    exact gb_ieq (by rw [h4, nI_toInt (by omega)])
theorem mh_ends1 {n : Nat} {f : gb_F} {w : Int64} (h8 : ¬ f 0 8 = 0) : gb_hm (ms_ends n f w) (fun f2 w2 _ => f2 = f ∧ w2 = w) := by
  unfold ms_ends
  rw [if_neg h8]
  exact hm_some ⟨rfl, rfl⟩
theorem mh_also0 {n : Nat} {f : gb_F} {w : Int64} {k v : Int32} {q : Nat} (h8 : f 0 8 = 0) (e : v.toInt = q) (hq : q ≤ 600) (hp : ¬ f 1 5 = 0 → (f 1 6).toInt < q ∨ ((f 1 6).toInt = q ∧ (f 1 5).toInt ≤ k.toInt)) : gb_hm (ms_also n f w k v) (fun f2 _ _ => (∀ j, j ≠ 1 → f2 j = f j) ∧ (∀ j, j ≠ 5 → j ≠ 6 → f2 1 j = f 1 j) ∧ (f2 1 5, f2 1 6) = gb_note (f 1 5, f 1 6) k q) := by
  unfold ms_also
  have t5 : Int32.toNatClampNeg 5 = 5 := by decide
  have t6 : Int32.toNatClampNeg 6 = 6 := by decide
  have ev : v = nI q := gb_ieq (by rw [e, nI_toInt (by omega)])
  have keep : ¬ f 1 5 = 0 → (∀ j, j ≠ 1 → f j = f j) ∧ (∀ j, j ≠ 5 → j ≠ 6 → f 1 j = f 1 j) ∧ (f 1 5, f 1 6) = gb_note (f 1 5, f 1 6) k q := fun z => ⟨fun _ _ => rfl, fun _ _ _ => rfl, by unfold gb_note; rw [if_neg z]⟩
  rw [if_pos h8, t5, t6]
  refine hm_lt (fun x ex => hm_if (fun c => hm_lt (fun g1 e1 => hm_lt (fun g2 e2 => hm_some ⟨fun j hj => ?_, fun j a b => ?_, ?_⟩))) (fun c => ?_))
  · rw [e2, gb_un hj, e1, gb_un hj]
  · rw [e2, gb_us, pk_un b, e1, gb_us, pk_un a]
  · unfold gb_note
    rw [ex] at c
    rw [if_pos c, e2, gb_us, pk_us, pk_un (by decide), e1, gb_us, pk_us, ev]
  · rw [ex] at c
    have hp2 := hp c
    refine hm_lt (fun y ey => hm_if (fun d => hm_some (keep c)) (fun d => hm_lt (fun z ez => hm_if (fun d2 => hm_lt (fun u eu => hm_if (fun d3 => ?_) (fun d3 => hm_some (keep c)))) (fun d2 => ?_))))
    · exfalso
      have h3 := gi_lt d3
      have h4 := gi_nlt d
      rw [eu] at h3
      rw [ey] at h4
      omega
    · exfalso
      have h4 := gi_nlt d
      rw [ey] at h4
      rw [ez] at d2
      rcases hp2 with q1 | q1
      · omega
      · exact d2 (gb_ieq (by rw [e]; exact q1.1))
theorem mh_also1 {n : Nat} {f : gb_F} {w : Int64} {k v : Int32} (h8 : ¬ f 0 8 = 0) : gb_hm (ms_also n f w k v) (fun f2 w2 _ => f2 = f ∧ w2 = w) := by
  unfold ms_also
  rw [if_neg h8]
  exact hm_some ⟨rfl, rfl⟩
/-- the same token, the tape and the lexer's fields as they were -/
theorem rs_same {T : Nat → Int32} {N p : Nat} {f f2 : gb_F} (h : gb_rs T N f p) (h0 : f2 0 = f 0) (h1 : ∀ j, j ≠ 5 → j ≠ 6 → f2 1 j = f 1 j) : gb_rs T N f2 p := by
  obtain ⟨⟨c1, c2, c3, c4⟩, q, r, t⟩ := h
  refine ⟨⟨by rw [h0]; exact c1, c2, fun i hi => by rw [h1 _ (by omega) (by omega)]; exact c3 i hi, c4⟩, q, r, ?_⟩
  unfold gb_tk
  rw [h0]
  exact t
def gb_S1 (T : Nat → Int32) (N : Nat) (ps qs : Nat → Nat) (M Qb : Nat) (i : Nat) (fp : Int32 × Int32) (f : gb_F) : Prop :=
  (¬ f 0 8 = 0 ∧ M < i ∧ f 1 5 = 1 ∧ f 1 6 = nI Qb) ∨ (f 0 8 = 0 ∧ i ≤ M ∧ gb_rs T N f (ps i) ∧ (f 1 5, f 1 6) = fp ∧ (¬ fp.1 = 0 → fp.2.toInt < ps i ∨ (i < M ∧ fp.2.toInt = qs i ∧ fp.1.toInt ≤ 2)))
theorem note_pl {fp : Int32 × Int32} {k : Int32} {q p : Nat} (h : ¬ fp.1 = 0 → fp.2.toInt < p) (hq : q < p) (hp : p ≤ 601) : ¬ (gb_note fp k q).1 = 0 → (gb_note fp k q).2.toInt < p := by
  unfold gb_note
  intro z
  by_cases c : fp.1 = 0
  · rw [if_pos c]
    show (nI q).toInt < p
    rw [nI_toInt (by omega)]
    omega
  · rw [if_neg c]
    exact h c
theorem num_le {T : Nat → Int32} {N p q e : Nat} {v : Int} (h : gb_num T N p q e v) : p ≤ q ∧ q < e ∧ e ≤ N := by
  obtain ⟨h1, h2, h3, h4, h5⟩ := h
  have := (h2.2.1 (e - 1) (by omega) (by omega)).1
  exact ⟨h1.1, h3, by omega⟩
theorem di_nb {T : Nat → Int32} {N q : Nat} (h : gb_di T N q) : ¬ gb_lt1 T N q := fun z => by
  have := h.2
  have := z.2
  omega
set_option maxHeartbeats 2000000 in
theorem mh_num {n : Nat} {T : Nat → Int32} {N : Nat} {ps qs : Nat → Nat} {vs : Nat → Int} {M Qb i : Nat} {fp : Int32 × Int32} {f : gb_F} {w : Int64} {p1 p2 : Int32} {lo hi : Int} (hns : gb_nums T N ps qs vs M) (hB : i = M → gb_nonum T N (ps M) Qb) (e1 : p1.toInt = lo) (e2 : p2.toInt = hi) (h : gb_S1 T N ps qs M Qb i fp f) : gb_hm (ms_numbered n f w p1 p2) (fun f2 _ r => gb_S1 T N ps qs M Qb (i + 1) (if lo ≤ vs i ∧ vs i ≤ hi then fp else gb_note fp 2 (qs i)) f2 ∧ (i < M → r.toInt = if lo ≤ vs i ∧ vs i ≤ hi then vs i else lo) ∧ gb_ke f f2) := by
  unfold ms_numbered
  rcases h with ⟨w1, w2, w3, w4⟩ | ⟨g1, g2, g3, g4, g5⟩
  · rw [if_neg w1]
    refine hm_bd (mh_ends1 w1) (fun f2 w2' _ h => hm_some ?_)
    obtain ⟨rfl, rfl⟩ := h
    exact ⟨Or.inl ⟨w1, by omega, w3, w4⟩, fun z => absurd z (by omega), ke_r⟩
  · rw [if_pos g1]
    obtain ⟨hx, q, hr, ht⟩ := g3
    have hN := hx.2.1
    obtain ⟨t1, t2, t3, t4⟩ := ht
    by_cases hiM : i < M
    · have nm := hns i hiM
      obtain ⟨n1, n2, n3, n4, n5⟩ := nm
      have nle := num_le (hns i hiM)
      have eq := run_uq hr n1
      subst eq
      have hdq : gb_di T N (qs i) := n2.2.1 _ (Nat.le_refl _) n3
      obtain ⟨f5, f3, f6⟩ : f 0 5 = 1 ∧ (f 0 3).toInt = ps (i + 1) ∧ (f 0 6).toInt = vs i := by
        rcases t4 with z | z | z | z
        · have := hdq.1
          omega
        · obtain ⟨e, y1, y2, -⟩ := z
          exact absurd (y1.2.1 _ (Nat.le_refl _) y2) (di_nb hdq)
        · obtain ⟨e, y1, y2, y3, y4⟩ := z
          have := run_uq y1 n2
          subst this
          rcases y4 with y4 | y4
          · omega
          · exact ⟨y4.2.1, y3, by rw [y4.2.2, n5]⟩
        · exact absurd hdq z.2.2.1
      rw [if_pos f5]
      have pl : ¬ f 1 5 = 0 → (f 1 6).toInt < qs i ∨ ((f 1 6).toInt = qs i ∧ (f 1 5).toInt ≤ (2 : Int32).toInt) := fun z => by
        have z2 : ¬ fp.1 = 0 := by rw [← g4]; exact z
        have c2 : (2 : Int32).toInt = 2 := by decide
        rcases g5 z2 with y | y
        · left
          rw [← g4] at y
          have y' : (f 1 6).toInt < ps i := y
          omega
        · right
          rw [← g4] at y
          have y1 : (f 1 6).toInt = qs i := y.2.1
          have y2 : (f 1 5).toInt ≤ 2 := y.2.2
          exact ⟨y1, by rw [c2]; exact y2⟩
      have pl2 : ¬ fp.1 = 0 → fp.2.toInt < ps (i + 1) := fun z => by
        rcases g5 z with y | y
        · omega
        · omega
      -- the advance and the end
      have fin : ∀ (g : gb_F) (u : Int64) (x : Int32), x = f 0 6 → (∀ j, j ≠ 1 → g j = f j) → (∀ j, j ≠ 5 → j ≠ 6 → g 1 j = f 1 j) → (g 1 5, g 1 6) = (if lo ≤ vs i ∧ vs i ≤ hi then fp else gb_note fp 2 (qs i)) → gb_hm (gb_bd (ms_advance n g u) (fun f_15 wl_16 _ => gb_bd (ms_isIn n f_15 wl_16 x p1 p2) (fun f_20 wl_21 r_22 => (if r_22 = 0 then some (f_20, wl_21, p1) else some (f_20, wl_21, x))))) (fun f2 _ r => gb_S1 T N ps qs M Qb (i + 1) (if lo ≤ vs i ∧ vs i ≤ hi then fp else gb_note fp 2 (qs i)) f2 ∧ (i < M → r.toInt = if lo ≤ vs i ∧ vs i ≤ hi then vs i else lo) ∧ gb_ke f f2) := by
        intro g u x exx k0 k1 k2
        have kfg : gb_ke f g := ⟨by rw [k0 3 (by decide)], by rw [k0 2 (by decide)], by rw [k0 0 (by decide)], by rw [k0 0 (by decide)], k1⟩
        have hxg := cx_k hx kfg
        refine hm_bd (mh_advance hxg (p := ps (i + 1)) (by rw [k0 0 (by decide)]; exact f3) nle.2.2) (fun f2 w2 _ hA => ?_)
        obtain ⟨hv, q2, hr2, ht2⟩ := hA
        have S2 : gb_S1 T N ps qs M Qb (i + 1) (if lo ≤ vs i ∧ vs i ≤ hi then fp else gb_note fp 2 (qs i)) f2 := by
          refine Or.inr ⟨by rw [hv.2.2.2.1, k0 0 (by decide)]; exact g1, by omega, ⟨cx_v hxg hv, q2, hr2, ht2⟩, by rw [hv.1]; exact k2, fun z => Or.inl ?_⟩
          by_cases c : lo ≤ vs i ∧ vs i ≤ hi
          · rw [if_pos c] at z ⊢
            exact pl2 z
          · rw [if_neg c] at z ⊢
            exact note_pl pl2 nle.2.1 (by omega) z
        refine hm_bd mh_isIn (fun f4 w4 r4 h4 => ?_)
        obtain ⟨rfl, rfl, h4⟩ := h4
        rw [exx, f6, e1, e2] at h4
        refine hm_if (fun c => hm_some ⟨S2, fun _ => ?_, ke_t kfg (ke_v hv)⟩) (fun c => hm_some ⟨S2, fun _ => ?_, ke_t kfg (ke_v hv)⟩)
        · rcases h4 with z | z
          · rw [c] at z
            exact absurd z.1 (by decide)
          · rw [if_neg (by omega)]
            exact e1
        · rcases h4 with z | z
          · rw [if_pos z.2, exx]
            exact f6
          · exact absurd z.1 c
      refine hm_lt (fun x ex => hm_bd mh_isIn (fun f1 w1 r1 h1 => ?_))
      obtain ⟨rfl, rfl, h1⟩ := h1
      rw [ex, f6, e1, e2] at h1
      refine hm_if (fun c => ?_) (fun c => ?_)
      · have nin : ¬ (lo ≤ vs i ∧ vs i ≤ hi) := by
          rcases h1 with z | z
          · rw [c] at z
            exact absurd z.1 (by decide)
          · omega
        refine hm_bd (mh_also0 g1 t1 (by omega) pl) (fun g u _ hg => ?_)
        refine fin g u x ex hg.1 hg.2.1 ?_
        rw [if_neg nin, hg.2.2, g4]
      · have yin : lo ≤ vs i ∧ vs i ≤ hi := by
          rcases h1 with z | z
          · exact z.2
          · exact absurd z.1 c
        refine fin f1 _ x ex (fun _ _ => rfl) (fun _ _ _ => rfl) ?_
        rw [if_pos yin]
        exact g4
    · have hi : i = M := by omega
      subst hi
      obtain ⟨b1, b2⟩ := hB rfl
      have eq := run_uq hr b1
      subst eq
      have f5 : ¬ f 0 5 = 1 := fun z => by
        rcases t4 with y | y | y | y
        · rw [z] at y
          exact absurd y.2 (by decide)
        · obtain ⟨e, -, -, -, y4⟩ := y
          rcases y4 with y4 | y4
          · obtain ⟨l, -, -, y5, -⟩ := y4
            rw [z] at y5
            exact absurd y5 (by decide)
          · rw [z] at y4
            exact absurd y4.2 (by decide)
        · obtain ⟨e, y1, y2, -, y4⟩ := y
          rcases y4 with y4 | y4
          · rw [z] at y4
            exact absurd y4.2 (by decide)
          · have := b2 e y1
            omega
        · rcases y.2.2.2.2 with y4 | y4
          · rw [z] at y4
            exact absurd y4.2 (by decide)
          · rw [z] at y4
            exact absurd y4.2 (by decide)
      rw [if_neg f5]
      refine hm_bd (mh_ends0 g1 t1 (by omega)) (fun f2 w2 _ h => hm_some ⟨Or.inl ⟨h.2.1, by omega, h.2.2.1, h.2.2.2⟩, fun z => absurd z hiM, h.1⟩)
theorem mh_endsL {n : Nat} {T : Nat → Int32} {N : Nat} {ps qs : Nat → Nat} {M Qb K : Nat} {fp : Int32 × Int32} {f : gb_F} {w : Int64} (h : gb_S1 T N ps qs M Qb K fp f) (hM : M ≤ K) : gb_hm (ms_endsLine n f w) (fun f2 _ _ => gb_ke f f2 ∧ ((M < K ∧ ¬ f2 0 8 = 0 ∧ f2 1 5 = 1 ∧ f2 1 6 = nI Qb) ∨ (M = K ∧ ((∃ q, gb_semi T N (ps K) q ∧ f2 0 8 = 0 ∧ gb_rs T N f2 (q + 1) ∧ (f2 1 5, f2 1 6) = fp ∧ (¬ fp.1 = 0 → fp.2.toInt < ((q + 1 : Nat) : Int))) ∨ (∃ q, gb_nosemi T N (ps K) q ∧ ¬ f2 0 8 = 0 ∧ f2 1 5 = 1 ∧ f2 1 6 = nI q))))) := by
  unfold ms_endsLine
  rcases h with ⟨w1, w2, w3, w4⟩ | ⟨g1, g2, g3, g4, g5⟩
  · rw [if_neg w1]
    refine hm_bd (mh_ends1 w1) (fun f2 w2' _ h => hm_some ?_)
    obtain ⟨rfl, rfl⟩ := h
    exact ⟨ke_r, Or.inl ⟨w2, w1, w3, w4⟩⟩
  · rw [if_pos g1]
    have hMK : M = K := by omega
    subst hMK
    obtain ⟨hx, q, hr, ht⟩ := g3
    have hN := hx.2.1
    obtain ⟨t1, t2, t3, t4⟩ := ht
    by_cases hsm : q < N ∧ T q = 59
    · have nl : ¬ gb_lt1 T N q := fun z => by
        have := z.2
        rw [hsm.2] at this
        exact absurd this (by decide)
      have nd : ¬ gb_di T N q := fun z => by
        have := z.2
        rw [hsm.2] at this
        exact absurd this (by decide)
      obtain ⟨f5, f3⟩ : f 0 5 = 2 ∧ (f 0 3).toInt = ((q + 1 : Nat) : Int) := by
        rcases t4 with z | z | z | z
        · omega
        · obtain ⟨e, y1, y2, -⟩ := z
          exact absurd (y1.2.1 _ (Nat.le_refl _) y2) nl
        · obtain ⟨e, y1, y2, -⟩ := z
          exact absurd (y1.2.1 _ (Nat.le_refl _) y2) nd
        · rcases z.2.2.2.2 with y | y
          · exact ⟨y.2, z.2.2.2.1⟩
          · exact absurd hsm.2 y.1
      rw [if_pos f5]
      refine hm_bd (mh_advance hx f3 (by omega)) (fun f2 w2 _ hA => hm_some ?_)
      obtain ⟨hv, q2, hr2, ht2⟩ := hA
      refine ⟨ke_v hv, Or.inr ⟨rfl, Or.inl ⟨q, ⟨hr, hsm⟩, by rw [hv.2.2.2.1]; exact g1, ⟨cx_v hx hv, q2, hr2, ht2⟩, by rw [hv.1]; exact g4, fun z => ?_⟩⟩⟩
      have := hr.1
      rcases g5 z with y | y
      · omega
      · omega
    · have f5 : ¬ f 0 5 = 2 := fun z => by
        rcases t4 with y | y | y | y
        · rw [z] at y
          exact absurd y.2 (by decide)
        · obtain ⟨e, -, -, -, y4⟩ := y
          rcases y4 with y4 | y4
          · obtain ⟨l, -, -, y5, -⟩ := y4
            rw [z] at y5
            exact absurd y5 (by decide)
          · rw [z] at y4
            exact absurd y4.2 (by decide)
        · obtain ⟨e, y1, y2, -, y4⟩ := y
          rcases y4 with y4 | y4
          · rw [z] at y4
            exact absurd y4.2 (by decide)
          · rw [z] at y4
            exact absurd y4.2.1 (by decide)
        · rcases y.2.2.2.2 with y4 | y4
          · exact hsm ⟨y.1, y4.1⟩
          · rw [z] at y4
            exact absurd y4.2 (by decide)
      rw [if_neg f5]
      refine hm_bd (mh_ends0 g1 t1 (by omega)) (fun f2 w2 _ h => hm_some ⟨h.1, Or.inr ⟨rfl, Or.inr ⟨q, ⟨hr, hsm⟩, h.2.1, h.2.2.1, h.2.2.2⟩⟩⟩)
/-- the word of a line -/
theorem mh_takes {n : Nat} {T : Nat → Int32} {N s a : Nat} {f : gb_F} {w : Int64} {p1 p2 : Int32} (hs : s ≤ 3) (e1 : p1.toInt = ((gb_fl s + 1 : Nat) : Int)) (e2 : p2.toInt = gb_fl (s + 1)) (h8 : f 0 8 = 0) (hx : gb_cx T N f) (ht : gb_tk T N f a) : gb_hm (ms_takes n f w p1 p2) (fun f2 _ r => gb_ke f f2 ∧ ((∃ l e : Nat, gb_word T N s a l e ∧ a < e ∧ e ≤ N ∧ r.toInt = ((l + 1 : Nat) : Int) ∧ f2 0 8 = 0 ∧ f2 1 = f 1 ∧ gb_rs T N f2 e) ∨ ((∀ l e, ¬ gb_word T N s a l e) ∧ r = 0 ∧ ¬ f2 0 8 = 0 ∧ f2 1 5 = 1 ∧ f2 1 6 = nI a))) := by
  unfold ms_takes
  rw [if_pos h8]
  have hN := hx.2.1
  obtain ⟨t1, t2, t3, t4⟩ := ht
  have bad : ∀ (g : gb_F) (u : Int64), g = f → (∀ l e, ¬ gb_word T N s a l e) → gb_hm (gb_bd (ms_ends n g u) (fun f_25 wl_26 _ => (some (f_25, wl_26, 0) : gb_MR Int32))) (fun f2 _ r => gb_ke f f2 ∧ ((∃ l e : Nat, gb_word T N s a l e ∧ a < e ∧ e ≤ N ∧ r.toInt = ((l + 1 : Nat) : Int) ∧ f2 0 8 = 0 ∧ f2 1 = f 1 ∧ gb_rs T N f2 e) ∨ ((∀ l e, ¬ gb_word T N s a l e) ∧ r = 0 ∧ ¬ f2 0 8 = 0 ∧ f2 1 5 = 1 ∧ f2 1 6 = nI a))) := by
    intro g u eg hno
    subst eg
    exact hm_bd (mh_ends0 h8 t1 (by omega)) (fun f2 w2 _ h => hm_some ⟨h.1, Or.inr ⟨hno, rfl, h.2.1, h.2.2.1, h.2.2.2⟩⟩)
  have h18 := gb_fl18 (s := s + 1) (by omega)
  by_cases c : f 0 5 = 3
  · rw [if_pos c]
    obtain ⟨e, y1, y2, y3, l, hl, hi, y7⟩ : ∃ e, gb_run (gb_lt1 T N) a e ∧ a < e ∧ (f 0 3).toInt = e ∧ ∃ l : Nat, l < 18 ∧ gb_isw T a e l ∧ (f 0 7).toInt = ((l + 1 : Nat) : Int) := by
      rcases t4 with y | y | y | y
      · rw [c] at y
        exact absurd y.2 (by decide)
      · obtain ⟨e, y1, y2, y3, y4⟩ := y
        rcases y4 with y4 | y4
        · obtain ⟨l, z1, z2, z3, z4⟩ := y4
          exact ⟨e, y1, y2, y3, l, z1, z2, z4⟩
        · rw [c] at y4
          exact absurd y4.2 (by decide)
      · obtain ⟨e, -, -, -, y4⟩ := y
        rcases y4 with y4 | y4
        · rw [c] at y4
          exact absurd y4.2 (by decide)
        · rw [c] at y4
          exact absurd y4.2.1 (by decide)
      · rcases y.2.2.2.2 with y4 | y4
        · rw [c] at y4
          exact absurd y4.2 (by decide)
        · rw [c] at y4
          exact absurd y4.2 (by decide)
    have heN : e ≤ N := by
      have := (y1.2.1 (e - 1) (by omega) (by omega)).1
      omega
    refine hm_bd mh_isIn (fun f1 w1 r1 h1 => ?_)
    obtain ⟨rfl, rfl, h1⟩ := h1
    rw [y7, e1, e2] at h1
    refine hm_if (fun d => bad _ _ rfl (fun l2 e2' hw => ?_)) (fun d => ?_)
    · rcases h1 with z | z
      · rw [d] at z
        exact absurd z.1 (by decide)
      · obtain ⟨v1, v2, v3, v4⟩ := hw
        have := run_uq v3 y1
        subst this
        have := isw_uq hl (by omega) hi v4
        subst this
        omega
    · rcases h1 with z | z
      · refine hm_lt (fun x ex => hm_bd (mh_advance hx y3 heN) (fun f2 w2 _ hA => hm_some ?_))
        obtain ⟨hv, q2, hr2, ht2⟩ := hA
        refine ⟨ke_v hv, Or.inl ⟨l, e, ⟨by omega, by omega, y1, hi⟩, y2, heN, by rw [ex]; exact y7, by rw [hv.2.2.2.1]; exact h8, hv.1, cx_v hx hv, q2, hr2, ht2⟩⟩
      · exact absurd z.1 d
  · rw [if_neg c]
    refine bad _ _ rfl (fun l e hw => ?_)
    obtain ⟨v1, v2, v3, v4⟩ := hw
    have hl : l < 18 := by omega
    have hlt : a < e := by
      have h1 := v4.1
      have h2 := gb_ln_le l hl
      omega
    have hla : gb_lt1 T N a := v3.2.1 _ (Nat.le_refl _) hlt
    rcases t4 with y | y | y | y
    · have := hla.1
      omega
    · obtain ⟨e', y1, -, -, y4⟩ := y
      have := run_uq y1 v3
      subst this
      rcases y4 with y4 | y4
      · obtain ⟨l', -, -, z3, -⟩ := y4
        exact c z3
      · exact y4.1 l hl v4
    · obtain ⟨e', y1, y2, -⟩ := y
      exact di_nb (y1.2.1 _ (Nat.le_refl _) y2) hla
    · exact y.2.1 hla
/-! THE REFERENCE's lines -/
theorem S1_same {T : Nat → Int32} {N : Nat} {ps qs : Nat → Nat} {M Qb i : Nat} {fp : Int32 × Int32} {f f2 : gb_F} (h : gb_S1 T N ps qs M Qb i fp f) (h0 : f2 0 = f 0) (h1 : f2 1 = f 1) : gb_S1 T N ps qs M Qb i fp f2 := by
  rcases h with ⟨w1, w2, w3, w4⟩ | ⟨g1, g2, g3, g4, g5⟩
  · exact Or.inl ⟨by rw [h0]; exact w1, w2, by rw [h1]; exact w3, by rw [h1]; exact w4⟩
  · exact Or.inr ⟨by rw [h0]; exact g1, g2, rs_same g3 h0 (fun j _ _ => by rw [h1]), by rw [h1]; exact g4, g5⟩
theorem S1_9 {T : Nat → Int32} {N : Nat} {ps qs : Nat → Nat} {M Qb i : Nat} {fp : Int32 × Int32} {f f2 : gb_F} {v : Int32} (h : gb_S1 T N ps qs M Qb i fp f) (e : f2 = gb_u f 0 (upd (f 0) 9 v)) : gb_S1 T N ps qs M Qb i fp f2 := by
  have h0 : ∀ j, j ≠ 9 → f2 0 j = f 0 j := fun j hj => by rw [e, gb_us, pk_un hj]
  have h1 : f2 1 = f 1 := by rw [e]; exact gb_un (by decide)
  rcases h with ⟨w1, w2, w3, w4⟩ | ⟨g1, g2, g3, g4, g5⟩
  · exact Or.inl ⟨by rw [h0 8 (by decide)]; exact w1, w2, by rw [h1]; exact w3, by rw [h1]; exact w4⟩
  · refine Or.inr ⟨by rw [h0 8 (by decide)]; exact g1, g2, ?_, by rw [h1]; exact g4, g5⟩
    obtain ⟨⟨c1, c2, c3, c4⟩, q, r, t⟩ := g3
    refine ⟨⟨by rw [h0 2 (by decide)]; exact c1, c2, fun i hi => by rw [h1]; exact c3 i hi, c4⟩, q, r, ?_⟩
    unfold gb_tk at t ⊢
    rw [h0 3 (by decide), h0 4 (by decide), h0 5 (by decide), h0 6 (by decide), h0 7 (by decide)]
    exact t
theorem can_rg {l i : Nat} {v v0 lo hi : Int} (h6 : ¬ (l = 6 ∧ i = 1)) (hlo : (if l = 0 ∧ i = 0 then (1 : Int) else 0) = lo) (hhi : (gb_tb2 (5 * l + i)).toInt = hi) : gb_can l i v v0 ↔ lo ≤ v ∧ v ≤ hi := by
  constructor
  · intro h
    obtain ⟨-, h2, h3⟩ := h
    rw [hlo] at h2
    rw [hhi] at h3
    exact ⟨h2, h3⟩
  · intro h
    refine ⟨fun z => h6 ⟨z.1, z.2.1⟩, ?_, ?_⟩
    · rw [hlo]; exact h.1
    · rw [hhi]; exact h.2
theorem ff_1 {l i : Nat} {qs : Nat → Nat} {vs : Nat → Int} {fp : Int32 × Int32} {lo hi : Int} (h : gb_can l i (vs i) (vs 0) ↔ lo ≤ vs i ∧ vs i ≤ hi) : gb_ff l qs vs fp (i + 1) = if lo ≤ vs i ∧ vs i ≤ hi then gb_ff l qs vs fp i else gb_note (gb_ff l qs vs fp i) 2 (qs i) := by
  show (if gb_can l i (vs i) (vs 0) then gb_ff l qs vs fp i else gb_note (gb_ff l qs vs fp i) 2 (qs i)) = _
  by_cases c : gb_can l i (vs i) (vs 0)
  · rw [if_pos c, if_pos (h.mp c)]
  · rw [if_neg c, if_neg (fun z => c (h.mpr z))]
theorem note_0 {fp : Int32 × Int32} {k : Int32} {q : Nat} (hk : ¬ k = 0) : ¬ (gb_note fp k q).1 = 0 := by
  unfold gb_note
  by_cases c : fp.1 = 0
  · rw [if_pos c]
    exact hk
  · rw [if_neg c]
    exact c
theorem ff_0 {l : Nat} {qs : Nat → Nat} {vs : Nat → Int} {fp : Int32 × Int32} : ∀ i, (gb_ff l qs vs fp i).1 = 0 → fp.1 = 0 ∧ ∀ j, j < i → gb_can l j (vs j) (vs 0) := by
  intro i
  induction i with
  | zero =>
    intro h
    exact ⟨h, fun j hj => absurd hj (Nat.not_lt_zero _)⟩
  | succ i ih =>
    intro h
    have h' : (if gb_can l i (vs i) (vs 0) then gb_ff l qs vs fp i else gb_note (gb_ff l qs vs fp i) 2 (qs i)).1 = 0 := h
    by_cases c : gb_can l i (vs i) (vs 0)
    · rw [if_pos c] at h'
      obtain ⟨a, b⟩ := ih h'
      refine ⟨a, fun j hj => ?_⟩
      by_cases q : j = i
      · rw [q]; exact c
      · exact b j (by omega)
    · rw [if_neg c] at h'
      exact absurd h' (note_0 (by decide))
/-- a number, its bounds those of the table -/
theorem mh_nu {n : Nat} {T : Nat → Int32} {N l : Nat} {ps qs : Nat → Nat} {vs : Nat → Int} {M Qb i : Nat} {fp : Int32 × Int32} {f : gb_F} {w : Int64} {p1 p2 : Int32} {lo hi : Int} (hns : gb_nums T N ps qs vs M) (hB : i = M → gb_nonum T N (ps M) Qb) (e1 : p1.toInt = lo) (e2 : p2.toInt = hi) (hc : ∀ v0, gb_can l i (vs i) v0 ↔ lo ≤ vs i ∧ vs i ≤ hi) (h : gb_S1 T N ps qs M Qb i (gb_ff l qs vs fp i) f) : gb_hm (ms_numbered n f w p1 p2) (fun f2 _ r => gb_S1 T N ps qs M Qb (i + 1) (gb_ff l qs vs fp (i + 1)) f2 ∧ (i < M → gb_can l i (vs i) (vs 0) → r.toInt = vs i) ∧ gb_ke f f2) := by
  refine hm_mono (mh_num hns hB e1 e2 h) (fun f2 _ r g => ⟨?_, fun z z2 => ?_, g.2.2⟩)
  · rw [ff_1 (hc (vs 0))]
    exact g.1
  · rw [g.2.1 z, if_pos ((hc (vs 0)).mp z2)]
/-- the plan of a line: its word, so many numbers, then what can't go on -/
def gb_pl1 (T : Nat → Int32) (N l : Nat) (ps qs : Nat → Nat) (vs : Nat → Int) (M Qb : Nat) : Prop := gb_nums T N ps qs vs M ∧ M ≤ gb_kn l ∧ (M < gb_kn l → gb_nonum T N (ps M) Qb)
def gb_addS (U R R2 : Nat → Int32) : Prop := ∃ R1, R1 (1 + 2 * (R 0).toInt.toNat) = U 0 ∧ R1 (2 + 2 * (R 0).toInt.toNat) = U 1 ∧ (∀ j, j ≠ 0 → (j < 1 + 2 * (R 0).toInt.toNat ∨ 3 + 2 * (R 0).toInt.toNat ≤ j) → R1 j = R j) ∧ R2 = upd R1 0 (R 0 + 1)
def gb_addR (s l : Nat) (U R R2 : Nat → Int32) : Prop := (¬ gb_room s l R ∧ R2 = R) ∨ (gb_room s l R ∧ ((s = 0 ∧ gb_addB l U R R2) ∨ ((s = 1 ∨ s = 2) ∧ ∃ R1, gb_addL s l U R R1 (gb_wid s - 1) ∧ R2 = upd R1 0 (R 0 + 1)) ∨ (s = 3 ∧ gb_addS U R R2)))
/-- behind a line: wrong, or at the next one -/
def gb_ml (T : Nat → Int32) (N s l : Nat) (ps qs : Nat → Nat) (vs : Nat → Int) (M Qb : Nat) (fp : Int32 × Int32) (f f2 : gb_F) : Prop :=
  (M < gb_kn l ∧ ¬ f2 0 8 = 0 ∧ f2 1 5 = 1 ∧ f2 1 6 = nI Qb) ∨
  (M = gb_kn l ∧ ((∃ q, gb_semi T N (ps (gb_kn l)) q ∧ f2 0 8 = 0 ∧ gb_rs T N f2 (q + 1) ∧ (f2 1 5, f2 1 6) = gb_ff l qs vs fp (gb_kn l) ∧ (¬ (gb_ff l qs vs fp (gb_kn l)).1 = 0 → (gb_ff l qs vs fp (gb_kn l)).2.toInt < ((q + 1 : Nat) : Int)) ∧ ∃ U : Nat → Int32, ((gb_ff l qs vs fp (gb_kn l)).1 = 0 → ∀ j, j < gb_kn l → (U j).toInt = vs j) ∧ gb_addR s l U (f 3) (f2 3) ∧ ((s ≠ 3 ∧ f2 0 9 = f 0 9) ∨ (s = 3 ∧ (¬ f2 0 9 = 0 ↔ (¬ f 0 9 = 0 ∨ ∃ k, k < (f 3 0).toInt.toNat ∧ f 3 (1 + 2 * k) = U 0))))) ∨ (∃ q, gb_nosemi T N (ps (gb_kn l)) q ∧ ¬ f2 0 8 = 0 ∧ f2 1 5 = 1 ∧ f2 1 6 = nI q)))
/-- the end of a line, its row written -/
theorem mh_fin {n : Nat} {T : Nat → Int32} {N s l : Nat} {ps qs : Nat → Nat} {vs : Nat → Int} {M Qb : Nat} {fp : Int32 × Int32} {f0 f : gb_F} {w : Int64} {U : Nat → Int32} (hM : M ≤ gb_kn l) (h : gb_S1 T N ps qs M Qb (gb_kn l) (gb_ff l qs vs fp (gb_kn l)) f) (hU : M = gb_kn l → (gb_ff l qs vs fp (gb_kn l)).1 = 0 → ∀ j, j < gb_kn l → (U j).toInt = vs j) (hA : gb_addR s l U (f0 3) (f 3)) (h9 : (s ≠ 3 ∧ f 0 9 = f0 0 9) ∨ (s = 3 ∧ (¬ f 0 9 = 0 ↔ (¬ f0 0 9 = 0 ∨ ∃ k, k < (f0 3 0).toInt.toNat ∧ f0 3 (1 + 2 * k) = U 0)))) : gb_hm (gb_bd (ms_endsLine n f w) (fun f_45 wl_46 _ => (some (f_45, wl_46, ()) : gb_MR Unit))) (fun f2 _ _ => gb_ml T N s l ps qs vs M Qb fp f0 f2) := by
  refine hm_bd (mh_endsL h hM) (fun f2 w2 _ g => hm_some ?_)
  obtain ⟨k, g⟩ := g
  rcases g with g | ⟨g0, g | g⟩
  · exact Or.inl g
  · obtain ⟨q, q1, q2, q3, q4, q5⟩ := g
    refine Or.inr ⟨g0, Or.inl ⟨q, q1, q2, q3, q4, q5, U, hU g0, by rw [k.1]; exact hA, ?_⟩⟩
    rw [k.2.2.1]
    exact h9
  · exact Or.inr ⟨g0, Or.inr g⟩
theorem mh_inY {n : Nat} {f : gb_F} {w : Int64} {p1 p2 p3 : Int32} (h1 : p2.toInt ≤ p1.toInt) (h2 : p1.toInt ≤ p3.toInt) : gb_hm (ms_isIn n f w p1 p2 p3) (fun f2 w2 r => f2 = f ∧ w2 = w ∧ r = 1) := hm_mono mh_isIn (fun f2 w2 r h => ⟨h.1, h.2.1, by
  rcases h.2.2 with z | z
  · exact z.1
  · omega⟩)
theorem mh_inN {n : Nat} {f : gb_F} {w : Int64} {p1 p2 p3 : Int32} (h : p1.toInt < p2.toInt ∨ p3.toInt < p1.toInt) : gb_hm (ms_isIn n f w p1 p2 p3) (fun f2 w2 r => f2 = f ∧ w2 = w ∧ r = 0) := hm_mono mh_isIn (fun f2 w2 r g => ⟨g.1, g.2.1, by
  rcases g.2.2 with z | z
  · omega
  · exact z.1⟩)
/-! rows that are added -/
set_option maxHeartbeats 2000000 in
theorem mh_adds2 {n : Nat} {f : gb_F} {w : Int64} {a b c d : Int32} {m : Int32} {mi : Int} (em : m.toInt = mi) (hm : mi ≤ 24) (h0 : 0 ≤ (f 3 0).toInt) : gb_hm (ms_adds n f w m 2 a b c d) (fun f2 _ _ => (∀ q, q ≠ 3 → f2 q = f q) ∧ ((¬ (f 3 0).toInt < mi ∧ f2 3 = f 3) ∨ ((f 3 0).toInt < mi ∧ f2 3 = upd (upd (upd (f 3) (1 + 2 * (f 3 0).toInt.toNat) a) (2 + 2 * (f 3 0).toInt.toNat) b) 0 (f 3 0 + 1)))) := by
  unfold ms_adds
  have t0 : Int32.toNatClampNeg 0 = 0 := by decide
  have c1 : (1 : Int32).toInt = 1 := by decide
  have c2 : (2 : Int32).toInt = 2 := by decide
  have c3 : (3 : Int32).toInt = 3 := by decide
  have ck : (2 : Int32).toInt = 2 := by decide
  rw [t0]
  refine hm_lt (fun x ex => hm_if (fun z => ?_) (fun z => hm_some ⟨fun _ _ => rfl, Or.inl ⟨by have := gi_nlt z; rw [ex] at this; omega, rfl⟩⟩))
  have hlt := gi_lt z
  rw [ex, em] at hlt
  refine hm_lt (fun y ey => hm_lt (fun p ep => ?_))
  have m1 : (2 * y).toInt = ((2 * (f 3 0).toInt.toNat : Nat) : Int) := by
    rw [ey, gb_tmul (by rw [ck]; omega) (by rw [ck]; omega), ck]
    omega
  have p0 : p.toInt = ((1 + 2 * (f 3 0).toInt.toNat : Nat) : Int) := by
    rw [ep, gb_tadd (by rw [m1, c1]; omega) (by rw [m1, c1]; omega), m1, c1]
    omega
  have p1 : (p + 1).toInt = ((2 + 2 * (f 3 0).toInt.toNat : Nat) : Int) := by
    rw [gb_tadd (by omega) (by omega), c1, p0]
    omega
  refine hm_ck (fun _ _ => hm_lt (fun f1 e1 => hm_ck (fun _ _ => hm_lt (fun f2 e2 => ?_))))
  have q2 : f2 3 = upd (upd (f 3) (1 + 2 * (f 3 0).toInt.toNat) a) (2 + 2 * (f 3 0).toInt.toNat) b := by rw [e2, gb_us, e1, gb_us, gi_tn p0, gi_tn p1]
  have n2 : ∀ q, q ≠ 3 → f2 q = f q := fun q hq => by rw [e2, gb_un hq, e1, gb_un hq]
  rw [if_pos (by decide)]
  unfold ms_adds_58
  rw [if_pos (by decide), t0]
  refine hm_lt (fun u eu => hm_lt (fun f3 e3 => hm_some ⟨fun q hq => by rw [e3, gb_un hq]; exact n2 q hq, Or.inr ⟨hlt, ?_⟩⟩))
  rw [e3, gb_us, eu, q2, pk_un (j := 0) (by omega), pk_un (j := 0) (by omega)]
set_option maxHeartbeats 2000000 in
theorem mh_adds3 {n : Nat} {f : gb_F} {w : Int64} {a b c d : Int32} {m : Int32} {mi : Int} (em : m.toInt = mi) (hm : mi ≤ 24) (h0 : 0 ≤ (f 3 0).toInt) : gb_hm (ms_adds n f w m 3 a b c d) (fun f2 _ _ => (∀ q, q ≠ 3 → f2 q = f q) ∧ ((¬ (f 3 0).toInt < mi ∧ f2 3 = f 3) ∨ ((f 3 0).toInt < mi ∧ f2 3 = upd (upd (upd (upd (f 3) (1 + 3 * (f 3 0).toInt.toNat) a) (2 + 3 * (f 3 0).toInt.toNat) b) (3 + 3 * (f 3 0).toInt.toNat) c) 0 (f 3 0 + 1)))) := by
  unfold ms_adds
  have t0 : Int32.toNatClampNeg 0 = 0 := by decide
  have c1 : (1 : Int32).toInt = 1 := by decide
  have c2 : (2 : Int32).toInt = 2 := by decide
  have c3 : (3 : Int32).toInt = 3 := by decide
  have ck : (3 : Int32).toInt = 3 := by decide
  rw [t0]
  refine hm_lt (fun x ex => hm_if (fun z => ?_) (fun z => hm_some ⟨fun _ _ => rfl, Or.inl ⟨by have := gi_nlt z; rw [ex] at this; omega, rfl⟩⟩))
  have hlt := gi_lt z
  rw [ex, em] at hlt
  refine hm_lt (fun y ey => hm_lt (fun p ep => ?_))
  have m1 : (3 * y).toInt = ((3 * (f 3 0).toInt.toNat : Nat) : Int) := by
    rw [ey, gb_tmul (by rw [ck]; omega) (by rw [ck]; omega), ck]
    omega
  have p0 : p.toInt = ((1 + 3 * (f 3 0).toInt.toNat : Nat) : Int) := by
    rw [ep, gb_tadd (by rw [m1, c1]; omega) (by rw [m1, c1]; omega), m1, c1]
    omega
  have p1 : (p + 1).toInt = ((2 + 3 * (f 3 0).toInt.toNat : Nat) : Int) := by
    rw [gb_tadd (by omega) (by omega), c1, p0]
    omega
  have p2 : (p + 2).toInt = ((3 + 3 * (f 3 0).toInt.toNat : Nat) : Int) := by
    rw [gb_tadd (by omega) (by omega), c2, p0]
    omega
  refine hm_ck (fun _ _ => hm_lt (fun f1 e1 => hm_ck (fun _ _ => hm_lt (fun f2 e2 => ?_))))
  have q2 : f2 3 = upd (upd (f 3) (1 + 3 * (f 3 0).toInt.toNat) a) (2 + 3 * (f 3 0).toInt.toNat) b := by rw [e2, gb_us, e1, gb_us, gi_tn p0, gi_tn p1]
  have n2 : ∀ q, q ≠ 3 → f2 q = f q := fun q hq => by rw [e2, gb_un hq, e1, gb_un hq]
  rw [if_neg (by decide)]
  refine hm_ck (fun _ _ => hm_lt (fun f3 e3 => ?_))
  have q3 : f3 3 = upd (f2 3) (3 + 3 * (f 3 0).toInt.toNat) c := by rw [e3, gb_us, gi_tn p2]
  have n3 : ∀ q, q ≠ 3 → f3 q = f q := fun q hq => by rw [e3, gb_un hq]; exact n2 q hq
  unfold ms_adds_58
  rw [if_pos (by decide), t0]
  refine hm_lt (fun u eu => hm_lt (fun f4 e4 => hm_some ⟨fun q hq => by rw [e4, gb_un hq]; exact n3 q hq, Or.inr ⟨hlt, ?_⟩⟩))
  rw [e4, gb_us, eu, q3, q2, pk_un (j := 0) (by omega), pk_un (j := 0) (by omega), pk_un (j := 0) (by omega)]
set_option maxHeartbeats 2000000 in
theorem mh_adds4 {n : Nat} {f : gb_F} {w : Int64} {a b c d : Int32} {m : Int32} {mi : Int} (em : m.toInt = mi) (hm : mi ≤ 24) (h0 : 0 ≤ (f 3 0).toInt) : gb_hm (ms_adds n f w m 4 a b c d) (fun f2 _ _ => (∀ q, q ≠ 3 → f2 q = f q) ∧ ((¬ (f 3 0).toInt < mi ∧ f2 3 = f 3) ∨ ((f 3 0).toInt < mi ∧ f2 3 = upd (upd (upd (upd (upd (f 3) (1 + 4 * (f 3 0).toInt.toNat) a) (2 + 4 * (f 3 0).toInt.toNat) b) (3 + 4 * (f 3 0).toInt.toNat) c) (4 + 4 * (f 3 0).toInt.toNat) d) 0 (f 3 0 + 1)))) := by
  unfold ms_adds
  have t0 : Int32.toNatClampNeg 0 = 0 := by decide
  have c1 : (1 : Int32).toInt = 1 := by decide
  have c2 : (2 : Int32).toInt = 2 := by decide
  have c3 : (3 : Int32).toInt = 3 := by decide
  have ck : (4 : Int32).toInt = 4 := by decide
  rw [t0]
  refine hm_lt (fun x ex => hm_if (fun z => ?_) (fun z => hm_some ⟨fun _ _ => rfl, Or.inl ⟨by have := gi_nlt z; rw [ex] at this; omega, rfl⟩⟩))
  have hlt := gi_lt z
  rw [ex, em] at hlt
  refine hm_lt (fun y ey => hm_lt (fun p ep => ?_))
  have m1 : (4 * y).toInt = ((4 * (f 3 0).toInt.toNat : Nat) : Int) := by
    rw [ey, gb_tmul (by rw [ck]; omega) (by rw [ck]; omega), ck]
    omega
  have p0 : p.toInt = ((1 + 4 * (f 3 0).toInt.toNat : Nat) : Int) := by
    rw [ep, gb_tadd (by rw [m1, c1]; omega) (by rw [m1, c1]; omega), m1, c1]
    omega
  have p1 : (p + 1).toInt = ((2 + 4 * (f 3 0).toInt.toNat : Nat) : Int) := by
    rw [gb_tadd (by omega) (by omega), c1, p0]
    omega
  have p2 : (p + 2).toInt = ((3 + 4 * (f 3 0).toInt.toNat : Nat) : Int) := by
    rw [gb_tadd (by omega) (by omega), c2, p0]
    omega
  have p3 : (p + 3).toInt = ((4 + 4 * (f 3 0).toInt.toNat : Nat) : Int) := by
    rw [gb_tadd (by omega) (by omega), c3, p0]
    omega
  refine hm_ck (fun _ _ => hm_lt (fun f1 e1 => hm_ck (fun _ _ => hm_lt (fun f2 e2 => ?_))))
  have q2 : f2 3 = upd (upd (f 3) (1 + 4 * (f 3 0).toInt.toNat) a) (2 + 4 * (f 3 0).toInt.toNat) b := by rw [e2, gb_us, e1, gb_us, gi_tn p0, gi_tn p1]
  have n2 : ∀ q, q ≠ 3 → f2 q = f q := fun q hq => by rw [e2, gb_un hq, e1, gb_un hq]
  rw [if_neg (by decide)]
  refine hm_ck (fun _ _ => hm_lt (fun f3 e3 => ?_))
  have q3 : f3 3 = upd (f2 3) (3 + 4 * (f 3 0).toInt.toNat) c := by rw [e3, gb_us, gi_tn p2]
  have n3 : ∀ q, q ≠ 3 → f3 q = f q := fun q hq => by rw [e3, gb_un hq]; exact n2 q hq
  unfold ms_adds_58
  rw [if_neg (by decide), t0]
  refine hm_ck (fun _ _ => hm_lt (fun f4 e4 => ?_))
  have q4 : f4 3 = upd (f3 3) (4 + 4 * (f 3 0).toInt.toNat) d := by rw [e4, gb_us, gi_tn p3]
  have n4 : ∀ q, q ≠ 3 → f4 q = f q := fun q hq => by rw [e4, gb_un hq]; exact n3 q hq
  refine hm_lt (fun u eu => hm_lt (fun f5 e5 => hm_some ⟨fun q hq => by rw [e5, gb_un hq]; exact n4 q hq, Or.inr ⟨hlt, ?_⟩⟩))
  rw [e5, gb_us, eu, q4, q3, q2, pk_un (j := 0) (by omega), pk_un (j := 0) (by omega), pk_un (j := 0) (by omega), pk_un (j := 0) (by omega)]
theorem room_0 {s l : Nat} {R : Nat → Int32} (h : s ≠ 0) : gb_room s l R ↔ (R 0).toInt < gb_mst s := by
  unfold gb_room
  rw [if_neg h]
/-- what adds leaves: a deed, a term -/
theorem addR_1 {l : Nat} {U R R2 : Nat → Int32} {a b c d : Int32} (ha : a.toInt = (l : Int) - 3) (hb : b = if 0 < gb_kn l then U 0 else -1) (hc : c = if 1 < gb_kn l then U 1 else -1) (hd : d = if 2 < gb_kn l then U 2 else -1) (h : (¬ (R 0).toInt < 24 ∧ R2 = R) ∨ ((R 0).toInt < 24 ∧ R2 = upd (upd (upd (upd (upd R (1 + 4 * (R 0).toInt.toNat) a) (2 + 4 * (R 0).toInt.toNat) b) (3 + 4 * (R 0).toInt.toNat) c) (4 + 4 * (R 0).toInt.toNat) d) 0 (R 0 + 1))) : gb_addR 1 l U R R2 := by
  rcases h with h | h
  · exact Or.inl ⟨h.1, h.2⟩
  · refine Or.inr ⟨h.1, Or.inr (Or.inl ⟨Or.inl rfl, _, ⟨?_, ?_, fun j hj => ?_, fun j h1 h2 => ?_⟩, h.2⟩)⟩
    · rw [pk_un (by omega), pk_un (by omega), pk_un (by omega), pk_un (by omega)]
    · show (upd _ _ _ (1 + 4 * _)).toInt = (l : Int) - (3 : Nat)
      rw [pk_un (by omega), pk_un (by omega), pk_un (by omega), pk_us]
      exact ha
    · show upd _ _ _ (2 + 4 * _ + j) = _
      have hj' : j < 3 := hj
      have : j = 0 ∨ j = 1 ∨ j = 2 := by omega
      rcases this with rfl | rfl | rfl
      · rw [Nat.add_zero, pk_un (by omega), pk_un (by omega), pk_us]
        exact hb
      · rw [pk_un (by omega), show 2 + 4 * (R 0).toInt.toNat + 1 = 3 + 4 * (R 0).toInt.toNat by omega, pk_us]
        exact hc
      · rw [show 2 + 4 * (R 0).toInt.toNat + 2 = 4 + 4 * (R 0).toInt.toNat by omega, pk_us]
        exact hd
    · have h2' : j < 1 + 4 * (R 0).toInt.toNat ∨ 1 + 4 * (R 0).toInt.toNat + 4 ≤ j := h2
      rw [pk_un (by omega), pk_un (by omega), pk_un (by omega), pk_un (by omega)]
theorem addR_2 {l : Nat} {U R R2 : Nat → Int32} {a b c : Int32} (ha : a.toInt = (l : Int) - 12) (hb : b = if 0 < gb_kn l then U 0 else -1) (hc : c = if 1 < gb_kn l then U 1 else -1) (h : (¬ (R 0).toInt < 8 ∧ R2 = R) ∨ ((R 0).toInt < 8 ∧ R2 = upd (upd (upd (upd R (1 + 3 * (R 0).toInt.toNat) a) (2 + 3 * (R 0).toInt.toNat) b) (3 + 3 * (R 0).toInt.toNat) c) 0 (R 0 + 1))) : gb_addR 2 l U R R2 := by
  rcases h with h | h
  · exact Or.inl ⟨h.1, h.2⟩
  · refine Or.inr ⟨h.1, Or.inr (Or.inl ⟨Or.inr rfl, _, ⟨?_, ?_, fun j hj => ?_, fun j h1 h2 => ?_⟩, h.2⟩)⟩
    · rw [pk_un (by omega), pk_un (by omega), pk_un (by omega)]
    · show (upd _ _ _ (1 + 3 * _)).toInt = (l : Int) - (12 : Nat)
      rw [pk_un (by omega), pk_un (by omega), pk_us]
      exact ha
    · show upd _ _ _ (2 + 3 * _ + j) = _
      have hj' : j < 2 := hj
      have : j = 0 ∨ j = 1 := by omega
      rcases this with rfl | rfl
      · rw [Nat.add_zero, pk_un (by omega), pk_us]
        exact hb
      · rw [show 2 + 3 * (R 0).toInt.toNat + 1 = 3 + 3 * (R 0).toInt.toNat by omega, pk_us]
        exact hc
    · have h2' : j < 1 + 3 * (R 0).toInt.toNat ∨ 1 + 3 * (R 0).toInt.toNat + 3 ≤ j := h2
      rw [pk_un (by omega), pk_un (by omega), pk_un (by omega)]
theorem addR_3 {l : Nat} {U R R2 : Nat → Int32} {a b : Int32} (ha : a = U 0) (hb : b = U 1) (h : (¬ (R 0).toInt < 5 ∧ R2 = R) ∨ ((R 0).toInt < 5 ∧ R2 = upd (upd (upd R (1 + 2 * (R 0).toInt.toNat) a) (2 + 2 * (R 0).toInt.toNat) b) 0 (R 0 + 1))) : gb_addR 3 l U R R2 := by
  rcases h with h | h
  · exact Or.inl ⟨h.1, h.2⟩
  · refine Or.inr ⟨h.1, Or.inr (Or.inr ⟨rfl, _, ?_, ?_, fun j h1 h2 => ?_, h.2⟩)⟩
    · rw [pk_un (by omega), pk_us]
      exact ha
    · rw [pk_us]
      exact hb
    · rw [pk_un (by omega), pk_un (by omega)]
/-- a fault at the line's first token -/
theorem mh_al3 {n : Nat} {T : Nat → Int32} {N : Nat} {ps qs : Nat → Nat} {M Qb a : Nat} {fp : Int32 × Int32} {f : gb_F} {w : Int64} {v : Int32} (h : gb_S1 T N ps qs M Qb 0 fp f) (ev : v.toInt = a) (ha : a < ps 0) (hpN : ps 0 ≤ 600) (hp : ¬ fp.1 = 0 → fp.2.toInt < a) : gb_hm (ms_also n f w 3 v) (fun f2 _ _ => gb_S1 T N ps qs M Qb 0 (gb_note fp 3 a) f2 ∧ f2 3 = f 3 ∧ f2 0 = f 0) := by
  rcases h with ⟨w1, w2, w3, w4⟩ | ⟨g1, g2, g3, g4, g5⟩
  · exact absurd w2 (Nat.not_lt_zero _)
  · refine hm_mono (mh_also0 g1 ev (by omega) (fun z => Or.inl ?_)) (fun f2 _ _ g => ⟨Or.inr ⟨by rw [g.1 0 (by decide)]; exact g1, g2, rs_same g3 (g.1 0 (by decide)) g.2.1, by rw [g.2.2, g4], fun z => Or.inl ?_⟩, g.1 3 (by decide), g.1 0 (by decide)⟩)
    · have := hp (by rw [← g4]; exact z)
      rw [← g4] at this
      exact this
    · exact note_pl (fun y => by have := hp y; omega) ha (by omega) z
/-! THE REFERENCE: each line -/
theorem mh_gooseTold {n : Nat} {T : Nat → Int32} {N l : Nat} {ps qs : Nat → Nat} {vs : Nat → Int} {M Qb i : Nat} {fp : Int32 × Int32} {f : gb_F} {w : Int64} (hns : gb_nums T N ps qs vs M) (hB : i = M → gb_nonum T N (ps M) Qb) (hc : ∀ v0, gb_can l i (vs i) v0 ↔ 0 ≤ vs i ∧ vs i ≤ 7) (h : gb_S1 T N ps qs M Qb i (gb_ff l qs vs fp i) f) : gb_hm (ms_gooseTold n f w) (fun f2 _ r => gb_S1 T N ps qs M Qb (i + 1) (gb_ff l qs vs fp (i + 1)) f2 ∧ (i < M → gb_can l i (vs i) (vs 0) → r.toInt = vs i) ∧ gb_ke f f2) := by
  unfold ms_gooseTold
  exact hm_bd (mh_nu hns hB (by decide) (by decide) hc h) (fun f2 w2 r g => hm_some g)
theorem mh_pathTold {n : Nat} {T : Nat → Int32} {N l : Nat} {ps qs : Nat → Nat} {vs : Nat → Int} {M Qb i : Nat} {fp : Int32 × Int32} {f : gb_F} {w : Int64} (hns : gb_nums T N ps qs vs M) (hB : i = M → gb_nonum T N (ps M) Qb) (hc : ∀ v0, gb_can l i (vs i) v0 ↔ 0 ≤ vs i ∧ vs i ≤ 4) (h : gb_S1 T N ps qs M Qb i (gb_ff l qs vs fp i) f) : gb_hm (ms_pathTold n f w) (fun f2 _ r => gb_S1 T N ps qs M Qb (i + 1) (gb_ff l qs vs fp (i + 1)) f2 ∧ (i < M → gb_can l i (vs i) (vs 0) → r.toInt = vs i) ∧ gb_ke f f2) := by
  unfold ms_pathTold
  exact hm_bd (mh_nu hns hB (by decide) (by decide) hc h) (fun f2 w2 r g => hm_some g)
set_option maxHeartbeats 4000000 in
theorem mh_path26 {n : Nat} {T : Nat → Int32} {N : Nat} {ps qs : Nat → Nat} {vs : Nat → Int} {M Qb : Nat} {fp : Int32 × Int32} {f : gb_F} {w : Int64} {v2 : Int32} (hP : gb_pl1 T N 0 ps qs vs M Qb) (h : gb_S1 T N ps qs M Qb 0 fp f) (h0 : 0 ≤ (f 3 0).toInt) (hv : (v2 = 0 ∧ ¬ gb_room 0 0 (f 3)) ∨ (v2 = 1 ∧ gb_room 0 0 (f 3))) : gb_hm (ms_pathLine_26 n f w v2) (fun f2 _ _ => gb_S1 T N ps qs M Qb 3 (gb_ff 0 qs vs fp 3) f2 ∧ f2 0 9 = f 0 9 ∧ ∃ U : Nat → Int32, (M = gb_kn 0 → (gb_ff 0 qs vs fp (gb_kn 0)).1 = 0 → ∀ j, j < gb_kn 0 → (U j).toInt = vs j) ∧ gb_addR 0 0 U (f 3) (f2 3)) := by
  unfold ms_pathLine_26
  have t0 : Int32.toNatClampNeg 0 = 0 := by decide
  rw [t0]
  refine hm_bd (mh_nu (l := 0) (i := 0) (fp := fp) (lo := 1) (hi := 20) hP.1 (fun z => hP.2.2 (by rw [← z]; decide)) (by decide) (by decide) (fun _ => can_rg (by decide) (by decide) (by decide)) h) (fun f1 u1 r0 g1 => ?_)
  obtain ⟨s1, v0, k1⟩ := g1
  refine hm_bd (mh_nu (l := 0) (i := 1) (fp := fp) (lo := 0) (hi := 9) hP.1 (fun z => hP.2.2 (by rw [← z]; decide)) (by decide) (by decide) (fun _ => can_rg (by decide) (by decide) (by decide)) s1) (fun f2 u2 r1 g2 => ?_)
  obtain ⟨s2, v1, k2⟩ := g2
  refine hm_bd (mh_nu (l := 0) (i := 2) (fp := fp) (lo := 0) (hi := 9) hP.1 (fun z => hP.2.2 (by rw [← z]; decide)) (by decide) (by decide) (fun _ => can_rg (by decide) (by decide) (by decide)) s2) (fun f3 u3 r2 g3 => ?_)
  obtain ⟨s3, v2, k3⟩ := g3
  have hU : M = gb_kn 0 → (gb_ff 0 qs vs fp (gb_kn 0)).1 = 0 → ∀ j, j < gb_kn 0 → ((fun j => if j = 0 then r0 else if j = 1 then r1 else r2) j).toInt = vs j := fun hM hz j hj => by
    have cc := (ff_0 _ hz).2
    have hM2 : M = 3 := hM
    have hj2 : j < 3 := hj
    have : j = 0 ∨ j = 1 ∨ j = 2 := by omega
    rcases this with rfl | rfl | rfl
    · exact v0 (by omega) (cc 0 (by decide))
    · exact v1 (by omega) (cc 1 (by decide))
    · exact v2 (by omega) (cc 2 (by decide))
  have kk : gb_ke f f3 := ke_t (ke_t (k1) k2) k3
  refine hm_if (fun c => hm_some ⟨s3, kk.2.2.1, _, hU, Or.inl ⟨?_, kk.1⟩⟩) (fun c => ?_)
  · rcases hv with z | z
    · exact z.2
    · rw [z.1] at c
      exact absurd c (by decide)
  · have hr : gb_room 0 0 (f 3) := by
      rcases hv with z | z
      · exact absurd z.1 c
      · exact z.2
    have hr2 : (f 3 0).toInt < 5 := by
      have := hr
      unfold gb_room at this
      rw [if_pos rfl] at this
      omega
    have c1 : (1 : Int32).toInt = 1 := by decide
    have c2 : (2 : Int32).toInt = 2 := by decide
    have c3 : (3 : Int32).toInt = 3 := by decide
    have c4 : (4 : Int32).toInt = 4 := by decide
    have c5 : (5 : Int32).toInt = 5 := by decide
    have c18 : (18 : Int32).toInt = 18 := by decide
    refine hm_lt (fun x ex => hm_lt (fun p ep => ?_))
    rw [kk.1] at ex
    have m1 : (3 * x).toInt = ((3 * (f 3 0).toInt.toNat : Nat) : Int) := by
      rw [ex, gb_tmul (by rw [c3]; omega) (by rw [c3]; omega), c3]
      omega
    have p0 : p.toInt = ((3 + 3 * (f 3 0).toInt.toNat : Nat) : Int) := by
      rw [ep, gb_tadd (by rw [m1, c3]; omega) (by rw [m1, c3]; omega), m1, c3]
      omega
    have p0' : (p + 0).toInt = ((3 + 3 * (f 3 0).toInt.toNat : Nat) : Int) := by
      have : p + 0 = p := Int32.add_zero p
      rw [this]
      exact p0
    have p1 : (p + 1).toInt = ((3 + 3 * (f 3 0).toInt.toNat + 1 : Nat) : Int) := by
      rw [gb_tadd (by omega) (by omega), c1, p0]
      omega
    have p2 : (p + 2).toInt = ((3 + 3 * (f 3 0).toInt.toNat + 2 : Nat) : Int) := by
      rw [gb_tadd (by omega) (by omega), c2, p0]
      omega
    refine hm_ck (fun _ _ => hm_lt (fun a0 e0 => hm_ck (fun _ _ => hm_lt (fun a1 e1 => hm_ck (fun _ _ => hm_lt (fun a2 e2 => hm_lt (fun y ey => hm_lt (fun b eb => hm_some ?_))))))))
    have q3 : a2 3 = upd (upd (upd (f 3) (3 + 3 * (f 3 0).toInt.toNat) r0) (3 + 3 * (f 3 0).toInt.toNat + 1) r1) (3 + 3 * (f 3 0).toInt.toNat + 2) r2 := by rw [e2, gb_us, gi_tn p2, e1, gb_us, gi_tn p1, e0, gb_us, gi_tn p0', kk.1]
    have qn : ∀ q, q ≠ 3 → a2 q = f3 q := fun q hq => by rw [e2, gb_un hq, e1, gb_un hq, e0, gb_un hq]
    have y0 : y = f 3 0 := by rw [ey, q3, pk_un (by omega), pk_un (by omega), pk_un (by omega)]
    have b0 : b 0 = f3 0 := by rw [eb, gb_un (by decide)]; exact qn 0 (by decide)
    have b1 : b 1 = f3 1 := by rw [eb, gb_un (by decide)]; exact qn 1 (by decide)
    refine ⟨S1_same s3 b0 b1, by rw [b0]; exact kk.2.2.1, _, hU, Or.inr ⟨hr, Or.inl ⟨rfl, Or.inr (Or.inl ⟨rfl, ?_⟩)⟩⟩⟩
    rw [eb, gb_us, y0, q3]
    congr 1
    funext j
    unfold va_cpy
    by_cases hj : 3 + 3 * (f 3 0).toInt.toNat ≤ j ∧ j < 3 + 3 * (f 3 0).toInt.toNat + 3
    · rw [if_pos hj]
      have : j = 3 + 3 * (f 3 0).toInt.toNat ∨ j = 3 + 3 * (f 3 0).toInt.toNat + 1 ∨ j = 3 + 3 * (f 3 0).toInt.toNat + 2 := by omega
      rcases this with z | z | z
      · rw [show 0 + (j - (3 + 3 * (f 3 0).toInt.toNat)) = 0 by omega, z, pk_un (by omega), pk_un (by omega), pk_us]
        rfl
      · rw [show 0 + (j - (3 + 3 * (f 3 0).toInt.toNat)) = 1 by omega, z, pk_un (by omega), pk_us]
        rfl
      · rw [show 0 + (j - (3 + 3 * (f 3 0).toInt.toNat)) = 2 by omega, z, pk_us]
        rfl
    · rw [if_neg hj, pk_un (by omega), pk_un (by omega), pk_un (by omega)]
set_option maxHeartbeats 2000000 in
theorem mh_pathLine {n : Nat} {T : Nat → Int32} {N : Nat} {ps qs : Nat → Nat} {vs : Nat → Int} {M Qb : Nat} {fp : Int32 × Int32} {f : gb_F} {w : Int64} {p1 : Int32} {a : Nat} {fp2 : Int32 × Int32} (hP : gb_pl1 T N 0 ps qs vs M Qb) (h : gb_S1 T N ps qs M Qb 0 fp f) (h0 : 0 ≤ (f 3 0).toInt) (e1 : p1.toInt = a) (ha : a < ps 0) (hpN : ps 0 ≤ 600) (hp : ¬ fp.1 = 0 → fp.2.toInt < a) (hf : (gb_room 0 0 (f 3) ∧ fp2 = fp) ∨ (¬ gb_room 0 0 (f 3) ∧ fp2 = gb_note fp 3 a)) : gb_hm (ms_pathLine n f w p1) (fun f2 _ _ => gb_S1 T N ps qs M Qb 3 (gb_ff 0 qs vs fp2 3) f2 ∧ f2 0 9 = f 0 9 ∧ ∃ U : Nat → Int32, (M = gb_kn 0 → (gb_ff 0 qs vs fp2 (gb_kn 0)).1 = 0 → ∀ j, j < gb_kn 0 → (U j).toInt = vs j) ∧ gb_addR 0 0 U (f 3) (f2 3)) := by
  unfold ms_pathLine
  have t0 : Int32.toNatClampNeg 0 = 0 := by decide
  have cm : (5 : Int32).toInt = 5 := by decide
  have rE : gb_room 0 0 (f 3) ↔ (f 3 0).toInt < 5 := by
    unfold gb_room
    rw [if_pos rfl]
    omega
  rw [t0]
  refine hm_lt (fun x ex => hm_if (fun c => ?_) (fun c => ?_))
  · have nr : ¬ gb_room 0 0 (f 3) := fun z => by
      have := gi_le c
      have := rE.mp z
      rw [ex] at *
      omega
    have f2E : fp2 = gb_note fp 3 a := by
      rcases hf with z | z
      · exact absurd z.1 nr
      · exact z.2
    unfold ms_pathLine_15
    rw [if_pos rfl]
    refine hm_bd (mh_al3 h e1 ha hpN hp) (fun g u _ hg => ?_)
    rw [f2E]
    refine hm_mono (mh_path26 hP hg.1 (by rw [hg.2.1]; exact h0) (Or.inl ⟨rfl, by rw [hg.2.1]; exact nr⟩)) (fun f2 _ _ k => ?_)
    rw [hg.2.1, hg.2.2] at k
    exact k
  · have yr : gb_room 0 0 (f 3) := rE.mpr (by
      have := gi_nle c
      rw [ex] at this
      omega)
    have f2E : fp2 = fp := by
      rcases hf with z | z
      · exact z.2
      · exact absurd yr z.1
    unfold ms_pathLine_15
    rw [if_neg (by decide), f2E]
    exact mh_path26 hP h h0 (Or.inr ⟨rfl, yr⟩)
set_option maxHeartbeats 4000000 in
theorem mh_goose27 {n : Nat} {T : Nat → Int32} {N : Nat} {ps qs : Nat → Nat} {vs : Nat → Int} {M Qb : Nat} {fp : Int32 × Int32} {f : gb_F} {w : Int64} {v2 : Int32} (hP : gb_pl1 T N 1 ps qs vs M Qb) (h : gb_S1 T N ps qs M Qb 0 fp f) (h0 : 0 ≤ (f 3 1).toInt) (hv : (v2 = 0 ∧ ¬ gb_room 0 1 (f 3)) ∨ (v2 = 1 ∧ gb_room 0 1 (f 3))) : gb_hm (ms_gooseLine_27 n f w v2) (fun f2 _ _ => gb_S1 T N ps qs M Qb 5 (gb_ff 1 qs vs fp 5) f2 ∧ f2 0 9 = f 0 9 ∧ ∃ U : Nat → Int32, (M = gb_kn 1 → (gb_ff 1 qs vs fp (gb_kn 1)).1 = 0 → ∀ j, j < gb_kn 1 → (U j).toInt = vs j) ∧ gb_addR 0 1 U (f 3) (f2 3)) := by
  unfold ms_gooseLine_27
  have t0 : Int32.toNatClampNeg 1 = 1 := by decide
  rw [t0]
  refine hm_bd (mh_nu (l := 1) (i := 0) (fp := fp) (lo := 0) (hi := 4) hP.1 (fun z => hP.2.2 (by rw [← z]; decide)) (by decide) (by decide) (fun _ => can_rg (by decide) (by decide) (by decide)) h) (fun f1 u1 r0 g1 => ?_)
  obtain ⟨s1, v0, k1⟩ := g1
  refine hm_bd (mh_nu (l := 1) (i := 1) (fp := fp) (lo := 0) (hi := 4) hP.1 (fun z => hP.2.2 (by rw [← z]; decide)) (by decide) (by decide) (fun _ => can_rg (by decide) (by decide) (by decide)) s1) (fun f2 u2 r1 g2 => ?_)
  obtain ⟨s2, v1, k2⟩ := g2
  refine hm_bd (mh_nu (l := 1) (i := 2) (fp := fp) (lo := 0) (hi := 60) hP.1 (fun z => hP.2.2 (by rw [← z]; decide)) (by decide) (by decide) (fun _ => can_rg (by decide) (by decide) (by decide)) s2) (fun f3 u3 r2 g3 => ?_)
  obtain ⟨s3, v2, k3⟩ := g3
  refine hm_bd (mh_nu (l := 1) (i := 3) (fp := fp) (lo := 0) (hi := 1) hP.1 (fun z => hP.2.2 (by rw [← z]; decide)) (by decide) (by decide) (fun _ => can_rg (by decide) (by decide) (by decide)) s3) (fun f4 u4 r3 g4 => ?_)
  obtain ⟨s4, v3, k4⟩ := g4
  refine hm_bd (mh_nu (l := 1) (i := 4) (fp := fp) (lo := 0) (hi := 99) hP.1 (fun z => hP.2.2 (by rw [← z]; decide)) (by decide) (by decide) (fun _ => can_rg (by decide) (by decide) (by decide)) s4) (fun f5 u5 r4 g5 => ?_)
  obtain ⟨s5, v4, k5⟩ := g5
  have hU : M = gb_kn 1 → (gb_ff 1 qs vs fp (gb_kn 1)).1 = 0 → ∀ j, j < gb_kn 1 → ((fun j => if j = 0 then r0 else if j = 1 then r1 else if j = 2 then r2 else if j = 3 then r3 else r4) j).toInt = vs j := fun hM hz j hj => by
    have cc := (ff_0 _ hz).2
    have hM2 : M = 5 := hM
    have hj2 : j < 5 := hj
    have : j = 0 ∨ j = 1 ∨ j = 2 ∨ j = 3 ∨ j = 4 := by omega
    rcases this with rfl | rfl | rfl | rfl | rfl
    · exact v0 (by omega) (cc 0 (by decide))
    · exact v1 (by omega) (cc 1 (by decide))
    · exact v2 (by omega) (cc 2 (by decide))
    · exact v3 (by omega) (cc 3 (by decide))
    · exact v4 (by omega) (cc 4 (by decide))
  have kk : gb_ke f f5 := ke_t (ke_t (ke_t (ke_t (k1) k2) k3) k4) k5
  refine hm_if (fun c => hm_some ⟨s5, kk.2.2.1, _, hU, Or.inl ⟨?_, kk.1⟩⟩) (fun c => ?_)
  · rcases hv with z | z
    · exact z.2
    · rw [z.1] at c
      exact absurd c (by decide)
  · have hr : gb_room 0 1 (f 3) := by
      rcases hv with z | z
      · exact absurd z.1 c
      · exact z.2
    have hr2 : (f 3 1).toInt < 8 := by
      have := hr
      unfold gb_room at this
      rw [if_pos rfl] at this
      omega
    have c1 : (1 : Int32).toInt = 1 := by decide
    have c2 : (2 : Int32).toInt = 2 := by decide
    have c3 : (3 : Int32).toInt = 3 := by decide
    have c4 : (4 : Int32).toInt = 4 := by decide
    have c5 : (5 : Int32).toInt = 5 := by decide
    have c18 : (18 : Int32).toInt = 18 := by decide
    refine hm_lt (fun x ex => hm_lt (fun p ep => ?_))
    rw [kk.1] at ex
    have m1 : (5 * x).toInt = ((5 * (f 3 1).toInt.toNat : Nat) : Int) := by
      rw [ex, gb_tmul (by rw [c5]; omega) (by rw [c5]; omega), c5]
      omega
    have p0 : p.toInt = ((18 + 5 * (f 3 1).toInt.toNat : Nat) : Int) := by
      rw [ep, gb_tadd (by rw [m1, c18]; omega) (by rw [m1, c18]; omega), m1, c18]
      omega
    have p1 : (p + 1).toInt = ((18 + 5 * (f 3 1).toInt.toNat + 1 : Nat) : Int) := by
      rw [gb_tadd (by omega) (by omega), c1, p0]
      omega
    have p2 : (p + 2).toInt = ((18 + 5 * (f 3 1).toInt.toNat + 2 : Nat) : Int) := by
      rw [gb_tadd (by omega) (by omega), c2, p0]
      omega
    have p3 : (p + 3).toInt = ((18 + 5 * (f 3 1).toInt.toNat + 3 : Nat) : Int) := by
      rw [gb_tadd (by omega) (by omega), c3, p0]
      omega
    have p4 : (p + 4).toInt = ((18 + 5 * (f 3 1).toInt.toNat + 4 : Nat) : Int) := by
      rw [gb_tadd (by omega) (by omega), c4, p0]
      omega
    refine hm_ck (fun _ _ => hm_lt (fun a0 e0 => hm_ck (fun _ _ => hm_lt (fun a1 e1 => hm_ck (fun _ _ => hm_lt (fun a2 e2 => hm_ck (fun _ _ => hm_lt (fun a3 e3 => hm_ck (fun _ _ => hm_lt (fun a4 e4 => hm_lt (fun y ey => hm_lt (fun b eb => hm_some ?_))))))))))))
    have q3 : a4 3 = upd (upd (upd (upd (upd (f 3) (18 + 5 * (f 3 1).toInt.toNat) r0) (18 + 5 * (f 3 1).toInt.toNat + 1) r1) (18 + 5 * (f 3 1).toInt.toNat + 2) r2) (18 + 5 * (f 3 1).toInt.toNat + 3) r3) (18 + 5 * (f 3 1).toInt.toNat + 4) r4 := by rw [e4, gb_us, gi_tn p4, e3, gb_us, gi_tn p3, e2, gb_us, gi_tn p2, e1, gb_us, gi_tn p1, e0, gb_us, gi_tn p0, kk.1]
    have qn : ∀ q, q ≠ 3 → a4 q = f5 q := fun q hq => by rw [e4, gb_un hq, e3, gb_un hq, e2, gb_un hq, e1, gb_un hq, e0, gb_un hq]
    have y0 : y = f 3 1 := by rw [ey, q3, pk_un (by omega), pk_un (by omega), pk_un (by omega), pk_un (by omega), pk_un (by omega)]
    have b0 : b 0 = f5 0 := by rw [eb, gb_un (by decide)]; exact qn 0 (by decide)
    have b1 : b 1 = f5 1 := by rw [eb, gb_un (by decide)]; exact qn 1 (by decide)
    refine ⟨S1_same s5 b0 b1, by rw [b0]; exact kk.2.2.1, _, hU, Or.inr ⟨hr, Or.inl ⟨rfl, Or.inr (Or.inr ⟨rfl, ?_⟩)⟩⟩⟩
    rw [eb, gb_us, y0, q3]
    congr 1
    funext j
    unfold va_cpy
    by_cases hj : 18 + 5 * (f 3 1).toInt.toNat ≤ j ∧ j < 18 + 5 * (f 3 1).toInt.toNat + 5
    · rw [if_pos hj]
      have : j = 18 + 5 * (f 3 1).toInt.toNat ∨ j = 18 + 5 * (f 3 1).toInt.toNat + 1 ∨ j = 18 + 5 * (f 3 1).toInt.toNat + 2 ∨ j = 18 + 5 * (f 3 1).toInt.toNat + 3 ∨ j = 18 + 5 * (f 3 1).toInt.toNat + 4 := by omega
      rcases this with z | z | z | z | z
      · rw [show 0 + (j - (18 + 5 * (f 3 1).toInt.toNat)) = 0 by omega, z, pk_un (by omega), pk_un (by omega), pk_un (by omega), pk_un (by omega), pk_us]
        rfl
      · rw [show 0 + (j - (18 + 5 * (f 3 1).toInt.toNat)) = 1 by omega, z, pk_un (by omega), pk_un (by omega), pk_un (by omega), pk_us]
        rfl
      · rw [show 0 + (j - (18 + 5 * (f 3 1).toInt.toNat)) = 2 by omega, z, pk_un (by omega), pk_un (by omega), pk_us]
        rfl
      · rw [show 0 + (j - (18 + 5 * (f 3 1).toInt.toNat)) = 3 by omega, z, pk_un (by omega), pk_us]
        rfl
      · rw [show 0 + (j - (18 + 5 * (f 3 1).toInt.toNat)) = 4 by omega, z, pk_us]
        rfl
    · rw [if_neg hj, pk_un (by omega), pk_un (by omega), pk_un (by omega), pk_un (by omega), pk_un (by omega)]
set_option maxHeartbeats 2000000 in
theorem mh_gooseLine {n : Nat} {T : Nat → Int32} {N : Nat} {ps qs : Nat → Nat} {vs : Nat → Int} {M Qb : Nat} {fp : Int32 × Int32} {f : gb_F} {w : Int64} {p1 : Int32} {a : Nat} {fp2 : Int32 × Int32} (hP : gb_pl1 T N 1 ps qs vs M Qb) (h : gb_S1 T N ps qs M Qb 0 fp f) (h0 : 0 ≤ (f 3 1).toInt) (e1 : p1.toInt = a) (ha : a < ps 0) (hpN : ps 0 ≤ 600) (hp : ¬ fp.1 = 0 → fp.2.toInt < a) (hf : (gb_room 0 1 (f 3) ∧ fp2 = fp) ∨ (¬ gb_room 0 1 (f 3) ∧ fp2 = gb_note fp 3 a)) : gb_hm (ms_gooseLine n f w p1) (fun f2 _ _ => gb_S1 T N ps qs M Qb 5 (gb_ff 1 qs vs fp2 5) f2 ∧ f2 0 9 = f 0 9 ∧ ∃ U : Nat → Int32, (M = gb_kn 1 → (gb_ff 1 qs vs fp2 (gb_kn 1)).1 = 0 → ∀ j, j < gb_kn 1 → (U j).toInt = vs j) ∧ gb_addR 0 1 U (f 3) (f2 3)) := by
  unfold ms_gooseLine
  have t0 : Int32.toNatClampNeg 1 = 1 := by decide
  have cm : (8 : Int32).toInt = 8 := by decide
  have rE : gb_room 0 1 (f 3) ↔ (f 3 1).toInt < 8 := by
    unfold gb_room
    rw [if_pos rfl]
    omega
  rw [t0]
  refine hm_lt (fun x ex => hm_if (fun c => ?_) (fun c => ?_))
  · have nr : ¬ gb_room 0 1 (f 3) := fun z => by
      have := gi_le c
      have := rE.mp z
      rw [ex] at *
      omega
    have f2E : fp2 = gb_note fp 3 a := by
      rcases hf with z | z
      · exact absurd z.1 nr
      · exact z.2
    unfold ms_gooseLine_16
    rw [if_pos rfl]
    refine hm_bd (mh_al3 h e1 ha hpN hp) (fun g u _ hg => ?_)
    rw [f2E]
    refine hm_mono (mh_goose27 hP hg.1 (by rw [hg.2.1]; exact h0) (Or.inl ⟨rfl, by rw [hg.2.1]; exact nr⟩)) (fun f2 _ _ k => ?_)
    rw [hg.2.1, hg.2.2] at k
    exact k
  · have yr : gb_room 0 1 (f 3) := rE.mpr (by
      have := gi_nle c
      rw [ex] at this
      omega)
    have f2E : fp2 = fp := by
      rcases hf with z | z
      · exact z.2
      · exact absurd yr z.1
    unfold ms_gooseLine_16
    rw [if_neg (by decide), f2E]
    exact mh_goose27 hP h h0 (Or.inr ⟨rfl, yr⟩)
/-! THE REFERENCE: deeds, terms, seen ones -/
theorem note_i {fp : Int32 × Int32} {k : Int32} {q : Nat} (hk : ¬ k = 0) : gb_note (gb_note fp k q) k q = gb_note fp k q := by
  have := note_0 (fp := fp) (k := k) (q := q) hk
  show (if (gb_note fp k q).1 = 0 then (k, nI q) else gb_note fp k q) = gb_note fp k q
  rw [if_neg this]
theorem note_n {fp : Int32 × Int32} {k : Int32} {q : Nat} (h : ¬ fp.1 = 0) : gb_note fp k q = fp := by
  unfold gb_note
  rw [if_neg h]
set_option maxHeartbeats 2000000 in
theorem mh_deed3 {n : Nat} {T : Nat → Int32} {N : Nat} {ps qs : Nat → Nat} {vs : Nat → Int} {M Qb : Nat} {fp : Int32 × Int32} {f : gb_F} {w : Int64} (hP : gb_pl1 T N 3 ps qs vs M Qb) (h : gb_S1 T N ps qs M Qb 0 fp f) (h0 : 0 ≤ (f 3 0).toInt) : gb_hm (ms_deedLine_39 n f w 0) (fun f2 _ _ => gb_ml T N 1 3 ps qs vs M Qb fp f f2) := by
  unfold ms_deedLine_39
  refine hm_bd (mh_inY (by decide) (by decide)) (fun gY uY rY hY => ?_)
  obtain ⟨eY, eW, eR⟩ := hY
  subst eR
  have eY2 := eY.symm
  subst eY2
  rw [if_neg (by decide)]
  refine hm_bd (mh_gooseTold (l := 3) (i := 0) (fp := fp) hP.1 (fun z => hP.2.2 (by rw [← z]; decide)) (fun _ => can_rg (by decide) (by decide) (by decide)) h) (fun f1 u1 r0 g1 => ?_)
  obtain ⟨s1, v0, k1⟩ := g1
  unfold ms_deedLine_61
  refine hm_bd (mh_inY (by decide) (by decide)) (fun gY uY rY hY => ?_)
  obtain ⟨eY, eW, eR⟩ := hY
  subst eR
  have eY2 := eY.symm
  subst eY2
  rw [if_neg (by decide)]
  refine hm_bd (mh_pathTold (l := 3) (i := 1) (fp := fp) hP.1 (fun z => hP.2.2 (by rw [← z]; decide)) (fun _ => can_rg (by decide) (by decide) (by decide)) s1) (fun f2 u2 r1 g2 => ?_)
  obtain ⟨s2, v1, k2⟩ := g2
  unfold ms_deedLine_76
  rw [if_neg (by decide)]
  unfold ms_deedLine_125
  rw [if_neg (by decide)]
  unfold ms_deedLine_139
  rw [if_neg (by decide)]
  unfold ms_deedLine_152
  rw [if_neg (by decide)]
  have kk : gb_ke f f2 := ke_t (k1) k2
  have hU : M = gb_kn 3 → (gb_ff 3 qs vs fp (gb_kn 3)).1 = 0 → ∀ j, j < gb_kn 3 → ((fun j => if j = 0 then r0 else r1) j).toInt = vs j := fun hM hz j hj => by
    have cc := (ff_0 _ hz).2
    have hM2 : M = 2 := hM
    have hj2 : j < 2 := hj
    have : j = 0 ∨ j = 1 := by omega
    rcases this with rfl | rfl
    · exact v0 (by omega) (cc 0 (by decide))
    · exact v1 (by omega) (cc 1 (by decide))
  refine hm_bd (mh_adds4 (mi := 24) (by decide) (by decide) (by rw [kk.1]; exact h0)) (fun ga ua _ ha => ?_)
  obtain ⟨na, ha⟩ := ha
  rw [kk.1] at ha
  exact mh_fin (f0 := f) (U := (fun j => if j = 0 then r0 else r1)) hP.2.1 (S1_same s2 (na 0 (by decide)) (na 1 (by decide))) hU (addR_1 (by decide) rfl rfl rfl ha) (Or.inl ⟨by decide, (by rw [na 0 (by decide)] : ga 0 9 = f2 0 9).trans kk.2.2.1⟩)
set_option maxHeartbeats 2000000 in
theorem mh_deed4 {n : Nat} {T : Nat → Int32} {N : Nat} {ps qs : Nat → Nat} {vs : Nat → Int} {M Qb : Nat} {fp : Int32 × Int32} {f : gb_F} {w : Int64} (hP : gb_pl1 T N 4 ps qs vs M Qb) (h : gb_S1 T N ps qs M Qb 0 fp f) (h0 : 0 ≤ (f 3 0).toInt) : gb_hm (ms_deedLine_39 n f w 1) (fun f2 _ _ => gb_ml T N 1 4 ps qs vs M Qb fp f f2) := by
  unfold ms_deedLine_39
  refine hm_bd (mh_inY (by decide) (by decide)) (fun gY uY rY hY => ?_)
  obtain ⟨eY, eW, eR⟩ := hY
  subst eR
  have eY2 := eY.symm
  subst eY2
  rw [if_neg (by decide)]
  refine hm_bd (mh_gooseTold (l := 4) (i := 0) (fp := fp) hP.1 (fun z => hP.2.2 (by rw [← z]; decide)) (fun _ => can_rg (by decide) (by decide) (by decide)) h) (fun f1 u1 r0 g1 => ?_)
  obtain ⟨s1, v0, k1⟩ := g1
  unfold ms_deedLine_61
  refine hm_bd (mh_inY (by decide) (by decide)) (fun gY uY rY hY => ?_)
  obtain ⟨eY, eW, eR⟩ := hY
  subst eR
  have eY2 := eY.symm
  subst eY2
  rw [if_neg (by decide)]
  refine hm_bd (mh_pathTold (l := 4) (i := 1) (fp := fp) hP.1 (fun z => hP.2.2 (by rw [← z]; decide)) (fun _ => can_rg (by decide) (by decide) (by decide)) s1) (fun f2 u2 r1 g2 => ?_)
  obtain ⟨s2, v1, k2⟩ := g2
  unfold ms_deedLine_76
  rw [if_neg (by decide)]
  unfold ms_deedLine_125
  rw [if_neg (by decide)]
  unfold ms_deedLine_139
  rw [if_neg (by decide)]
  unfold ms_deedLine_152
  rw [if_neg (by decide)]
  have kk : gb_ke f f2 := ke_t (k1) k2
  have hU : M = gb_kn 4 → (gb_ff 4 qs vs fp (gb_kn 4)).1 = 0 → ∀ j, j < gb_kn 4 → ((fun j => if j = 0 then r0 else r1) j).toInt = vs j := fun hM hz j hj => by
    have cc := (ff_0 _ hz).2
    have hM2 : M = 2 := hM
    have hj2 : j < 2 := hj
    have : j = 0 ∨ j = 1 := by omega
    rcases this with rfl | rfl
    · exact v0 (by omega) (cc 0 (by decide))
    · exact v1 (by omega) (cc 1 (by decide))
  refine hm_bd (mh_adds4 (mi := 24) (by decide) (by decide) (by rw [kk.1]; exact h0)) (fun ga ua _ ha => ?_)
  obtain ⟨na, ha⟩ := ha
  rw [kk.1] at ha
  exact mh_fin (f0 := f) (U := (fun j => if j = 0 then r0 else r1)) hP.2.1 (S1_same s2 (na 0 (by decide)) (na 1 (by decide))) hU (addR_1 (by decide) rfl rfl rfl ha) (Or.inl ⟨by decide, (by rw [na 0 (by decide)] : ga 0 9 = f2 0 9).trans kk.2.2.1⟩)
set_option maxHeartbeats 2000000 in
theorem mh_deed5 {n : Nat} {T : Nat → Int32} {N : Nat} {ps qs : Nat → Nat} {vs : Nat → Int} {M Qb : Nat} {fp : Int32 × Int32} {f : gb_F} {w : Int64} (hP : gb_pl1 T N 5 ps qs vs M Qb) (h : gb_S1 T N ps qs M Qb 0 fp f) (h0 : 0 ≤ (f 3 0).toInt) : gb_hm (ms_deedLine_39 n f w 2) (fun f2 _ _ => gb_ml T N 1 5 ps qs vs M Qb fp f f2) := by
  unfold ms_deedLine_39
  refine hm_bd (mh_inY (by decide) (by decide)) (fun gY uY rY hY => ?_)
  obtain ⟨eY, eW, eR⟩ := hY
  subst eR
  have eY2 := eY.symm
  subst eY2
  rw [if_neg (by decide)]
  refine hm_bd (mh_gooseTold (l := 5) (i := 0) (fp := fp) hP.1 (fun z => hP.2.2 (by rw [← z]; decide)) (fun _ => can_rg (by decide) (by decide) (by decide)) h) (fun f1 u1 r0 g1 => ?_)
  obtain ⟨s1, v0, k1⟩ := g1
  unfold ms_deedLine_61
  refine hm_bd (mh_inY (by decide) (by decide)) (fun gY uY rY hY => ?_)
  obtain ⟨eY, eW, eR⟩ := hY
  subst eR
  have eY2 := eY.symm
  subst eY2
  rw [if_neg (by decide)]
  refine hm_bd (mh_pathTold (l := 5) (i := 1) (fp := fp) hP.1 (fun z => hP.2.2 (by rw [← z]; decide)) (fun _ => can_rg (by decide) (by decide) (by decide)) s1) (fun f2 u2 r1 g2 => ?_)
  obtain ⟨s2, v1, k2⟩ := g2
  unfold ms_deedLine_76
  rw [if_neg (by decide)]
  unfold ms_deedLine_125
  rw [if_neg (by decide)]
  unfold ms_deedLine_139
  rw [if_neg (by decide)]
  unfold ms_deedLine_152
  rw [if_neg (by decide)]
  have kk : gb_ke f f2 := ke_t (k1) k2
  have hU : M = gb_kn 5 → (gb_ff 5 qs vs fp (gb_kn 5)).1 = 0 → ∀ j, j < gb_kn 5 → ((fun j => if j = 0 then r0 else r1) j).toInt = vs j := fun hM hz j hj => by
    have cc := (ff_0 _ hz).2
    have hM2 : M = 2 := hM
    have hj2 : j < 2 := hj
    have : j = 0 ∨ j = 1 := by omega
    rcases this with rfl | rfl
    · exact v0 (by omega) (cc 0 (by decide))
    · exact v1 (by omega) (cc 1 (by decide))
  refine hm_bd (mh_adds4 (mi := 24) (by decide) (by decide) (by rw [kk.1]; exact h0)) (fun ga ua _ ha => ?_)
  obtain ⟨na, ha⟩ := ha
  rw [kk.1] at ha
  exact mh_fin (f0 := f) (U := (fun j => if j = 0 then r0 else r1)) hP.2.1 (S1_same s2 (na 0 (by decide)) (na 1 (by decide))) hU (addR_1 (by decide) rfl rfl rfl ha) (Or.inl ⟨by decide, (by rw [na 0 (by decide)] : ga 0 9 = f2 0 9).trans kk.2.2.1⟩)
set_option maxHeartbeats 2000000 in
theorem mh_deed7 {n : Nat} {T : Nat → Int32} {N : Nat} {ps qs : Nat → Nat} {vs : Nat → Int} {M Qb : Nat} {fp : Int32 × Int32} {f : gb_F} {w : Int64} (hP : gb_pl1 T N 7 ps qs vs M Qb) (h : gb_S1 T N ps qs M Qb 0 fp f) (h0 : 0 ≤ (f 3 0).toInt) : gb_hm (ms_deedLine_39 n f w 4) (fun f2 _ _ => gb_ml T N 1 7 ps qs vs M Qb fp f f2) := by
  unfold ms_deedLine_39
  refine hm_bd (mh_inY (by decide) (by decide)) (fun gY uY rY hY => ?_)
  obtain ⟨eY, eW, eR⟩ := hY
  subst eR
  have eY2 := eY.symm
  subst eY2
  rw [if_neg (by decide)]
  refine hm_bd (mh_gooseTold (l := 7) (i := 0) (fp := fp) hP.1 (fun z => hP.2.2 (by rw [← z]; decide)) (fun _ => can_rg (by decide) (by decide) (by decide)) h) (fun f1 u1 r0 g1 => ?_)
  obtain ⟨s1, v0, k1⟩ := g1
  unfold ms_deedLine_61
  refine hm_bd (mh_inN (by decide)) (fun gY uY rY hY => ?_)
  obtain ⟨eY, eW, eR⟩ := hY
  subst eR
  have eY2 := eY.symm
  subst eY2
  rw [if_pos rfl]
  unfold ms_deedLine_76
  rw [if_neg (by decide)]
  unfold ms_deedLine_125
  rw [if_pos rfl]
  refine hm_bd (mh_nu (l := 7) (i := 1) (fp := fp) (lo := 0) (hi := 60) hP.1 (fun z => hP.2.2 (by rw [← z]; decide)) (by decide) (by decide) (fun _ => can_rg (by decide) (by decide) (by decide)) s1) (fun f2 u2 r1 g2 => ?_)
  obtain ⟨s2, v1, k2⟩ := g2
  unfold ms_deedLine_139
  rw [if_neg (by decide)]
  unfold ms_deedLine_152
  rw [if_neg (by decide)]
  have kk : gb_ke f f2 := ke_t (k1) k2
  have hU : M = gb_kn 7 → (gb_ff 7 qs vs fp (gb_kn 7)).1 = 0 → ∀ j, j < gb_kn 7 → ((fun j => if j = 0 then r0 else r1) j).toInt = vs j := fun hM hz j hj => by
    have cc := (ff_0 _ hz).2
    have hM2 : M = 2 := hM
    have hj2 : j < 2 := hj
    have : j = 0 ∨ j = 1 := by omega
    rcases this with rfl | rfl
    · exact v0 (by omega) (cc 0 (by decide))
    · exact v1 (by omega) (cc 1 (by decide))
  refine hm_bd (mh_adds4 (mi := 24) (by decide) (by decide) (by rw [kk.1]; exact h0)) (fun ga ua _ ha => ?_)
  obtain ⟨na, ha⟩ := ha
  rw [kk.1] at ha
  exact mh_fin (f0 := f) (U := (fun j => if j = 0 then r0 else r1)) hP.2.1 (S1_same s2 (na 0 (by decide)) (na 1 (by decide))) hU (addR_1 (by decide) rfl rfl rfl ha) (Or.inl ⟨by decide, (by rw [na 0 (by decide)] : ga 0 9 = f2 0 9).trans kk.2.2.1⟩)
set_option maxHeartbeats 2000000 in
theorem mh_deed8 {n : Nat} {T : Nat → Int32} {N : Nat} {ps qs : Nat → Nat} {vs : Nat → Int} {M Qb : Nat} {fp : Int32 × Int32} {f : gb_F} {w : Int64} (hP : gb_pl1 T N 8 ps qs vs M Qb) (h : gb_S1 T N ps qs M Qb 0 fp f) (h0 : 0 ≤ (f 3 0).toInt) : gb_hm (ms_deedLine_39 n f w 5) (fun f2 _ _ => gb_ml T N 1 8 ps qs vs M Qb fp f f2) := by
  unfold ms_deedLine_39
  refine hm_bd (mh_inN (by decide)) (fun gY uY rY hY => ?_)
  obtain ⟨eY, eW, eR⟩ := hY
  subst eR
  have eY2 := eY.symm
  subst eY2
  rw [if_pos rfl]
  unfold ms_deedLine_61
  refine hm_bd (mh_inN (by decide)) (fun gY uY rY hY => ?_)
  obtain ⟨eY, eW, eR⟩ := hY
  subst eR
  have eY2 := eY.symm
  subst eY2
  rw [if_pos rfl]
  unfold ms_deedLine_76
  rw [if_neg (by decide)]
  unfold ms_deedLine_125
  rw [if_neg (by decide)]
  unfold ms_deedLine_139
  rw [if_pos rfl]
  refine hm_bd (mh_nu (l := 8) (i := 0) (fp := fp) (lo := 0) (hi := 10) hP.1 (fun z => hP.2.2 (by rw [← z]; decide)) (by decide) (by decide) (fun _ => can_rg (by decide) (by decide) (by decide)) h) (fun f1 u1 r0 g1 => ?_)
  obtain ⟨s1, v0, k1⟩ := g1
  unfold ms_deedLine_152
  rw [if_neg (by decide)]
  have kk : gb_ke f f1 := k1
  have hU : M = gb_kn 8 → (gb_ff 8 qs vs fp (gb_kn 8)).1 = 0 → ∀ j, j < gb_kn 8 → ((fun j => r0) j).toInt = vs j := fun hM hz j hj => by
    have cc := (ff_0 _ hz).2
    have hM2 : M = 1 := hM
    have hj2 : j < 1 := hj
    have : j = 0 := by omega
    subst this
    exact v0 (by omega) (cc 0 (by decide))
  refine hm_bd (mh_adds4 (mi := 24) (by decide) (by decide) (by rw [kk.1]; exact h0)) (fun ga ua _ ha => ?_)
  obtain ⟨na, ha⟩ := ha
  rw [kk.1] at ha
  exact mh_fin (f0 := f) (U := (fun j => r0)) hP.2.1 (S1_same s1 (na 0 (by decide)) (na 1 (by decide))) hU (addR_1 (by decide) rfl rfl rfl ha) (Or.inl ⟨by decide, (by rw [na 0 (by decide)] : ga 0 9 = f1 0 9).trans kk.2.2.1⟩)
set_option maxHeartbeats 2000000 in
theorem mh_deed9 {n : Nat} {T : Nat → Int32} {N : Nat} {ps qs : Nat → Nat} {vs : Nat → Int} {M Qb : Nat} {fp : Int32 × Int32} {f : gb_F} {w : Int64} (hP : gb_pl1 T N 9 ps qs vs M Qb) (h : gb_S1 T N ps qs M Qb 0 fp f) (h0 : 0 ≤ (f 3 0).toInt) : gb_hm (ms_deedLine_39 n f w 6) (fun f2 _ _ => gb_ml T N 1 9 ps qs vs M Qb fp f f2) := by
  unfold ms_deedLine_39
  refine hm_bd (mh_inN (by decide)) (fun gY uY rY hY => ?_)
  obtain ⟨eY, eW, eR⟩ := hY
  subst eR
  have eY2 := eY.symm
  subst eY2
  rw [if_pos rfl]
  unfold ms_deedLine_61
  refine hm_bd (mh_inN (by decide)) (fun gY uY rY hY => ?_)
  obtain ⟨eY, eW, eR⟩ := hY
  subst eR
  have eY2 := eY.symm
  subst eY2
  rw [if_pos rfl]
  unfold ms_deedLine_76
  rw [if_neg (by decide)]
  unfold ms_deedLine_125
  rw [if_neg (by decide)]
  unfold ms_deedLine_139
  rw [if_neg (by decide)]
  unfold ms_deedLine_152
  rw [if_neg (by decide)]
  have kk : gb_ke f f := ke_r
  have hU : M = gb_kn 9 → (gb_ff 9 qs vs fp (gb_kn 9)).1 = 0 → ∀ j, j < gb_kn 9 → ((fun j => (0 : Int32)) j).toInt = vs j := fun hM hz j hj => by
    exact absurd hj (Nat.not_lt_zero _)
  refine hm_bd (mh_adds4 (mi := 24) (by decide) (by decide) (by rw [kk.1]; exact h0)) (fun ga ua _ ha => ?_)
  obtain ⟨na, ha⟩ := ha
  rw [kk.1] at ha
  exact mh_fin (f0 := f) (U := (fun j => (0 : Int32))) hP.2.1 (S1_same h (na 0 (by decide)) (na 1 (by decide))) hU (addR_1 (by decide) rfl rfl rfl ha) (Or.inl ⟨by decide, (by rw [na 0 (by decide)] : ga 0 9 = f 0 9).trans kk.2.2.1⟩)
set_option maxHeartbeats 2000000 in
theorem mh_deed10 {n : Nat} {T : Nat → Int32} {N : Nat} {ps qs : Nat → Nat} {vs : Nat → Int} {M Qb : Nat} {fp : Int32 × Int32} {f : gb_F} {w : Int64} (hP : gb_pl1 T N 10 ps qs vs M Qb) (h : gb_S1 T N ps qs M Qb 0 fp f) (h0 : 0 ≤ (f 3 0).toInt) : gb_hm (ms_deedLine_39 n f w 7) (fun f2 _ _ => gb_ml T N 1 10 ps qs vs M Qb fp f f2) := by
  unfold ms_deedLine_39
  refine hm_bd (mh_inN (by decide)) (fun gY uY rY hY => ?_)
  obtain ⟨eY, eW, eR⟩ := hY
  subst eR
  have eY2 := eY.symm
  subst eY2
  rw [if_pos rfl]
  unfold ms_deedLine_61
  refine hm_bd (mh_inN (by decide)) (fun gY uY rY hY => ?_)
  obtain ⟨eY, eW, eR⟩ := hY
  subst eR
  have eY2 := eY.symm
  subst eY2
  rw [if_pos rfl]
  unfold ms_deedLine_76
  rw [if_neg (by decide)]
  unfold ms_deedLine_125
  rw [if_neg (by decide)]
  unfold ms_deedLine_139
  rw [if_neg (by decide)]
  unfold ms_deedLine_152
  rw [if_neg (by decide)]
  have kk : gb_ke f f := ke_r
  have hU : M = gb_kn 10 → (gb_ff 10 qs vs fp (gb_kn 10)).1 = 0 → ∀ j, j < gb_kn 10 → ((fun j => (0 : Int32)) j).toInt = vs j := fun hM hz j hj => by
    exact absurd hj (Nat.not_lt_zero _)
  refine hm_bd (mh_adds4 (mi := 24) (by decide) (by decide) (by rw [kk.1]; exact h0)) (fun ga ua _ ha => ?_)
  obtain ⟨na, ha⟩ := ha
  rw [kk.1] at ha
  exact mh_fin (f0 := f) (U := (fun j => (0 : Int32))) hP.2.1 (S1_same h (na 0 (by decide)) (na 1 (by decide))) hU (addR_1 (by decide) rfl rfl rfl ha) (Or.inl ⟨by decide, (by rw [na 0 (by decide)] : ga 0 9 = f 0 9).trans kk.2.2.1⟩)
set_option maxHeartbeats 2000000 in
theorem mh_deed11 {n : Nat} {T : Nat → Int32} {N : Nat} {ps qs : Nat → Nat} {vs : Nat → Int} {M Qb : Nat} {fp : Int32 × Int32} {f : gb_F} {w : Int64} (hP : gb_pl1 T N 11 ps qs vs M Qb) (h : gb_S1 T N ps qs M Qb 0 fp f) (h0 : 0 ≤ (f 3 0).toInt) : gb_hm (ms_deedLine_39 n f w 8) (fun f2 _ _ => gb_ml T N 1 11 ps qs vs M Qb fp f f2) := by
  unfold ms_deedLine_39
  refine hm_bd (mh_inN (by decide)) (fun gY uY rY hY => ?_)
  obtain ⟨eY, eW, eR⟩ := hY
  subst eR
  have eY2 := eY.symm
  subst eY2
  rw [if_pos rfl]
  unfold ms_deedLine_61
  refine hm_bd (mh_inN (by decide)) (fun gY uY rY hY => ?_)
  obtain ⟨eY, eW, eR⟩ := hY
  subst eR
  have eY2 := eY.symm
  subst eY2
  rw [if_pos rfl]
  unfold ms_deedLine_76
  rw [if_neg (by decide)]
  unfold ms_deedLine_125
  rw [if_neg (by decide)]
  unfold ms_deedLine_139
  rw [if_neg (by decide)]
  unfold ms_deedLine_152
  rw [if_pos rfl]
  refine hm_bd (mh_pathTold (l := 11) (i := 0) (fp := fp) hP.1 (fun z => hP.2.2 (by rw [← z]; decide)) (fun _ => can_rg (by decide) (by decide) (by decide)) h) (fun f1 u1 r0 g1 => ?_)
  obtain ⟨s1, v0, k1⟩ := g1
  have kk : gb_ke f f1 := k1
  have hU : M = gb_kn 11 → (gb_ff 11 qs vs fp (gb_kn 11)).1 = 0 → ∀ j, j < gb_kn 11 → ((fun j => r0) j).toInt = vs j := fun hM hz j hj => by
    have cc := (ff_0 _ hz).2
    have hM2 : M = 1 := hM
    have hj2 : j < 1 := hj
    have : j = 0 := by omega
    subst this
    exact v0 (by omega) (cc 0 (by decide))
  refine hm_bd (mh_adds4 (mi := 24) (by decide) (by decide) (by rw [kk.1]; exact h0)) (fun ga ua _ ha => ?_)
  obtain ⟨na, ha⟩ := ha
  rw [kk.1] at ha
  exact mh_fin (f0 := f) (U := (fun j => r0)) hP.2.1 (S1_same s1 (na 0 (by decide)) (na 1 (by decide))) hU (addR_1 (by decide) rfl rfl rfl ha) (Or.inl ⟨by decide, (by rw [na 0 (by decide)] : ga 0 9 = f1 0 9).trans kk.2.2.1⟩)
set_option maxHeartbeats 4000000 in
theorem mh_deed6 {n : Nat} {T : Nat → Int32} {N : Nat} {ps qs : Nat → Nat} {vs : Nat → Int} {M Qb : Nat} {fp : Int32 × Int32} {f : gb_F} {w : Int64} (hP : gb_pl1 T N 6 ps qs vs M Qb) (h : gb_S1 T N ps qs M Qb 0 fp f) (h0 : 0 ≤ (f 3 0).toInt) : gb_hm (ms_deedLine_39 n f w 3) (fun f2 _ _ => gb_ml T N 1 6 ps qs vs M Qb fp f f2) := by
  unfold ms_deedLine_39
  refine hm_bd (mh_inY (by decide) (by decide)) (fun gY uY rY hY => ?_)
  obtain ⟨eY, eW, eR⟩ := hY
  subst eY
  subst eR
  rw [if_neg (by decide)]
  have raw : gb_hm (ms_gooseTold n gY uY) (fun f2 _ r => gb_S1 T N ps qs M Qb 1 (gb_ff 6 qs vs fp 1) f2 ∧ (0 < M → r.toInt = if 0 ≤ vs 0 ∧ vs 0 ≤ 7 then vs 0 else 0) ∧ gb_ke gY f2) := by
    unfold ms_gooseTold
    refine hm_bd (mh_num (vs := vs) hP.1 (fun z => hP.2.2 (by rw [← z]; decide)) (lo := 0) (hi := 7) (by decide) (by decide) h) (fun f2 w2 r g => hm_some ⟨?_, g.2.1, g.2.2⟩)
    have := ff_1 (l := 6) (i := 0) (qs := qs) (vs := vs) (fp := fp) (lo := 0) (hi := 7) (can_rg (by decide) (by decide) (by decide))
    rw [this]
    exact g.1
  refine hm_bd raw (fun f1 u1 r0 g1 => ?_)
  obtain ⟨s1, w0, k1⟩ := g1
  unfold ms_deedLine_61
  refine hm_bd (mh_inN (by decide)) (fun g3 u3 r3 h3 => ?_)
  obtain ⟨e3, -, eR3⟩ := h3
  subst e3
  subst eR3
  rw [if_pos rfl]
  unfold ms_deedLine_76
  rw [if_pos rfl]
  have hcan6 : ∀ v v0 : Int, gb_can 6 1 v v0 ↔ (¬ v = v0 ∧ 0 ≤ v ∧ v ≤ 7) := fun v v0 => by
    have tb : (gb_tb2 (5 * 6 + 1)).toInt = 7 := by decide
    constructor
    · intro z
      obtain ⟨z1, z2, z3⟩ := z
      rw [tb] at z3
      rw [if_neg (by decide)] at z2
      exact ⟨fun y => z1 ⟨rfl, rfl, y⟩, z2, z3⟩
    · intro z
      refine ⟨fun y => z.1 y.2.2, ?_, ?_⟩
      · rw [if_neg (by decide)]
        exact z.2.1
      · rw [tb]
        exact z.2.2
  -- what stands behind the second number, by the fault told ahead of it
  have go : ∀ (g : gb_F) (u : Int64) (fpx : Int32 × Int32), gb_ke g3 g → gb_S1 T N ps qs M Qb 1 fpx g → (1 < M → (if 0 ≤ vs 1 ∧ vs 1 ≤ 7 then fpx else gb_note fpx 2 (qs 1)) = gb_ff 6 qs vs fp 2) → gb_hm (ms_deedLine_113 n g u 3 r0) (fun f2 _ _ => gb_ml T N 1 6 ps qs vs M Qb fp gY f2) := by
    intro g u fpx kg sg hfp
    unfold ms_deedLine_113
    have raw2 : gb_hm (ms_gooseTold n g u) (fun f2 _ r => gb_S1 T N ps qs M Qb 2 (gb_ff 6 qs vs fp 2) f2 ∧ (1 < M → r.toInt = if 0 ≤ vs 1 ∧ vs 1 ≤ 7 then vs 1 else 0) ∧ gb_ke g f2) := by
      unfold ms_gooseTold
      refine hm_bd (mh_num (vs := vs) hP.1 (fun z => hP.2.2 (by rw [← z]; decide)) (lo := 0) (hi := 7) (by decide) (by decide) sg) (fun f2 w2 r g => hm_some ⟨?_, g.2.1, g.2.2⟩)
      by_cases c : 1 < M
      · rw [← hfp c]
        exact g.1
      · rcases g.1 with z | z
        · exact Or.inl z
        · have := z.2.1
          omega
    refine hm_bd raw2 (fun f2 u2 r1 g2 => ?_)
    obtain ⟨s2, w1, k2⟩ := g2
    refine hm_bd (mh_pathTold (l := 6) (i := 2) (fp := fp) hP.1 (fun z => hP.2.2 (by rw [← z]; decide)) (fun _ => can_rg (by decide) (by decide) (by decide)) s2) (fun f3 u3 r2 g3' => ?_)
    obtain ⟨s3, v2, k3⟩ := g3'
    unfold ms_deedLine_125
    rw [if_neg (by decide)]
    unfold ms_deedLine_139
    rw [if_neg (by decide)]
    unfold ms_deedLine_152
    rw [if_neg (by decide)]
    have kk : gb_ke gY f3 := ke_t (ke_t (ke_t k1 kg) k2) k3
    have v0 : 0 < M → gb_can 6 0 (vs 0) (vs 0) → r0.toInt = vs 0 := fun z z2 => by
      rw [w0 z, if_pos ((can_rg (l := 6) (i := 0) (lo := 0) (hi := 7) (by decide) (by decide) (by decide)).mp z2)]
    have v1 : 1 < M → gb_can 6 1 (vs 1) (vs 0) → r1.toInt = vs 1 := fun z z2 => by
      rw [w1 z, if_pos ((hcan6 _ _).mp z2).2]
    have hU : M = gb_kn 6 → (gb_ff 6 qs vs fp (gb_kn 6)).1 = 0 → ∀ j, j < gb_kn 6 → ((fun j => if j = 0 then r0 else if j = 1 then r1 else r2) j).toInt = vs j := fun hM hz j hj => by
      have cc := (ff_0 _ hz).2
      have hM2 : M = 3 := hM
      have hj2 : j < 3 := hj
      have : j = 0 ∨ j = 1 ∨ j = 2 := by omega
      rcases this with rfl | rfl | rfl
      · exact v0 (by omega) (cc 0 (by decide))
      · exact v1 (by omega) (cc 1 (by decide))
      · exact v2 (by omega) (cc 2 (by decide))
    refine hm_bd (mh_adds4 (mi := 24) (by decide) (by decide) (by rw [kk.1]; exact h0)) (fun ga ua _ ha => ?_)
    obtain ⟨na, ha⟩ := ha
    rw [kk.1] at ha
    exact mh_fin (f0 := gY) (U := (fun j => if j = 0 then r0 else if j = 1 then r1 else r2)) hP.2.1 (S1_same s3 (na 0 (by decide)) (na 1 (by decide))) hU (addR_1 (by decide) rfl rfl rfl ha) (Or.inl ⟨by decide, (by rw [na 0 (by decide)] : ga 0 9 = f3 0 9).trans kk.2.2.1⟩)
  have same : (1 < M → ¬ vs 1 = (if 0 ≤ vs 0 ∧ vs 0 ≤ 7 then vs 0 else 0)) → ∀ u, gb_hm (ms_deedLine_113 n g3 u 3 r0) (fun f2 _ _ => gb_ml T N 1 6 ps qs vs M Qb fp gY f2) := fun hne u => by
    refine go g3 u _ ke_r s1 (fun hM => ?_)
    have hne2 := hne hM
    show _ = (if gb_can 6 1 (vs 1) (vs 0) then gb_ff 6 qs vs fp 1 else gb_note (gb_ff 6 qs vs fp 1) 2 (qs 1))
    by_cases c : 0 ≤ vs 1 ∧ vs 1 ≤ 7
    · rw [if_pos c, if_pos ((hcan6 _ _).mpr ⟨fun e => ?_, c⟩)]
      rw [← e, if_pos c] at hne2
      exact hne2 rfl
    · rw [if_neg c, if_neg (fun z => c ((hcan6 _ _).mp z).2)]
  refine hm_if (fun c8 => hm_if (fun c5 => hm_if (fun c6 => ?_) (fun c6 => ?_)) (fun c5 => ?_)) (fun c8 => ?_)
  · -- the second number is the first one told
    rcases s1 with z | ⟨z1, z2, z3, z4, z5⟩
    · exact absurd c8 z.1
    · obtain ⟨hx, q, hr, ht⟩ := z3
      have hN := hx.2.1
      by_cases hM : 1 < M
      · have nm := hP.1 1 hM
        obtain ⟨n1, n2, n3, n4, n5⟩ := nm
        have eq := run_uq hr n1
        subst eq
        have nle := num_le (hP.1 1 hM)
        have hdq : gb_di T N (qs 1) := n2.2.1 _ (Nat.le_refl _) n3
        have f6 : (g3 0 6).toInt = vs 1 := by
          obtain ⟨t1, t2, t3, t4⟩ := ht
          rcases t4 with y | y | y | y
          · have := hdq.1
            omega
          · obtain ⟨e, y1, y2, -⟩ := y
            exact absurd (y1.2.1 _ (Nat.le_refl _) y2) (di_nb hdq)
          · obtain ⟨e, y1, y2, y3, y4⟩ := y
            have := run_uq y1 n2
            subst this
            rcases y4 with y4 | y4
            · omega
            · rw [y4.2.2, n5]
          · exact absurd hdq y.2.2.1
        have hv : vs 1 = (if 0 ≤ vs 0 ∧ vs 0 ≤ 7 then vs 0 else 0) := by
          rw [← f6, c6]
          exact w0 (by omega)
        have pl : ¬ g3 1 5 = 0 → (g3 1 6).toInt < qs 1 ∨ ((g3 1 6).toInt = qs 1 ∧ (g3 1 5).toInt ≤ (2 : Int32).toInt) := fun z => by
          have z2 : ¬ (gb_ff 6 qs vs fp 1).1 = 0 := by rw [← z4]; exact z
          have c2 : (2 : Int32).toInt = 2 := by decide
          rcases z5 z2 with y | y
          · left
            rw [← z4] at y
            have y' : (g3 1 6).toInt < ps 1 := y
            omega
          · right
            rw [← z4] at y
            have y1 : (g3 1 6).toInt = qs 1 := y.2.1
            have y2 : (g3 1 5).toInt ≤ 2 := y.2.2
            exact ⟨y1, by rw [c2]; exact y2⟩
        refine hm_bd (mh_also0 z1 ht.1 (by omega) pl) (fun g u _ hg => ?_)
        have ft : (gb_ff 6 qs vs fp 2) = gb_note (gb_ff 6 qs vs fp 1) 2 (qs 1) := by
          show (if gb_can 6 1 (vs 1) (vs 0) then gb_ff 6 qs vs fp 1 else gb_note (gb_ff 6 qs vs fp 1) 2 (qs 1)) = _
          by_cases c : gb_can 6 1 (vs 1) (vs 0)
          · rw [if_pos c]
            have c' := (hcan6 _ _).mp c
            have nin : ¬ (0 ≤ vs 0 ∧ vs 0 ≤ 7) := fun y => by
              rw [if_pos y] at hv
              exact c'.1 hv
            have f1n : ¬ (gb_ff 6 qs vs fp 1).1 = 0 := by
              rw [ff_1 (l := 6) (i := 0) (lo := 0) (hi := 7) (can_rg (by decide) (by decide) (by decide)), if_neg nin]
              exact note_0 (by decide)
            rw [note_n f1n]
          · rw [if_neg c]
        refine go g u (gb_note (gb_ff 6 qs vs fp 1) 2 (qs 1)) ⟨hg.1 3 (by decide), hg.1 2 (by decide), by rw [hg.1 0 (by decide)], by rw [hg.1 0 (by decide)], hg.2.1⟩ (Or.inr ⟨by rw [hg.1 0 (by decide)]; exact z1, z2, rs_same ⟨hx, _, hr, ht⟩ (hg.1 0 (by decide)) hg.2.1, by rw [hg.2.2, z4], fun y => ?_⟩) (fun _ => ?_)
        · unfold gb_note at y ⊢
          by_cases c : (gb_ff 6 qs vs fp 1).1 = 0
          · rw [if_pos c]
            refine Or.inr ⟨hM, ?_, (by decide : (2 : Int32).toInt ≤ 2)⟩
            show (nI (qs 1)).toInt = qs 1
            exact nI_toInt (by omega)
          · rw [if_neg c]
            exact z5 c
        · rw [ft]
          by_cases c : 0 ≤ vs 1 ∧ vs 1 ≤ 7
          · rw [if_pos c]
          · rw [if_neg c, note_i (by decide)]
      · -- no second number: the token is none
        have hMe : 1 = M := by omega
        obtain ⟨b1, b2⟩ := hP.2.2 (by rw [← hMe]; decide)
        rw [← hMe] at b1
        have eq := run_uq hr b1
        subst eq
        obtain ⟨t1, t2, t3, t4⟩ := ht
        exfalso
        rcases t4 with y | y | y | y
        · rw [c5] at y
          exact absurd y.2 (by decide)
        · obtain ⟨e, -, -, -, y4⟩ := y
          rcases y4 with y4 | y4
          · obtain ⟨l, -, -, y5, -⟩ := y4
            rw [c5] at y5
            exact absurd y5 (by decide)
          · rw [c5] at y4
            exact absurd y4.2 (by decide)
        · obtain ⟨e, y1, y2, -, y4⟩ := y
          rcases y4 with y4 | y4
          · rw [c5] at y4
            exact absurd y4.2 (by decide)
          · have := b2 e y1
            omega
        · rcases y.2.2.2.2 with y4 | y4
          · rw [c5] at y4
            exact absurd y4.2 (by decide)
          · rw [c5] at y4
            exact absurd y4.2 (by decide)
  · refine same (fun hM e => c6 ?_) _
    rcases s1 with z | ⟨z1, z2, z3, z4, z5⟩
    · exact absurd c8 z.1
    · obtain ⟨hx, q, hr, ht⟩ := z3
      obtain ⟨n1, n2, n3, n4, n5⟩ := hP.1 1 hM
      have eq := run_uq hr n1
      subst eq
      have hdq : gb_di T N (qs 1) := n2.2.1 _ (Nat.le_refl _) n3
      have f6 : (g3 0 6).toInt = vs 1 := by
        obtain ⟨t1, t2, t3, t4⟩ := ht
        rcases t4 with y | y | y | y
        · have := hdq.1
          omega
        · obtain ⟨e, y1, y2, -⟩ := y
          exact absurd (y1.2.1 _ (Nat.le_refl _) y2) (di_nb hdq)
        · obtain ⟨e, y1, y2, y3, y4⟩ := y
          have := run_uq y1 n2
          subst this
          rcases y4 with y4 | y4
          · omega
          · rw [y4.2.2, n5]
        · exact absurd hdq y.2.2.1
      exact gb_ieq (by rw [f6, e, w0 (by omega)])
  · refine same (fun hM e => c5 ?_) _
    rcases s1 with z | ⟨z1, z2, z3, z4, z5⟩
    · exact absurd c8 z.1
    · obtain ⟨hx, q, hr, ht⟩ := z3
      obtain ⟨n1, n2, n3, n4, n5⟩ := hP.1 1 hM
      have eq := run_uq hr n1
      subst eq
      have hdq : gb_di T N (qs 1) := n2.2.1 _ (Nat.le_refl _) n3
      obtain ⟨t1, t2, t3, t4⟩ := ht
      rcases t4 with y | y | y | y
      · have := hdq.1
        omega
      · obtain ⟨e, y1, y2, -⟩ := y
        exact absurd (y1.2.1 _ (Nat.le_refl _) y2) (di_nb hdq)
      · obtain ⟨e, y1, y2, y3, y4⟩ := y
        have := run_uq y1 n2
        subst this
        rcases y4 with y4 | y4
        · omega
        · exact y4.2.1
      · exact absurd hdq y.2.2.1
  · refine same (fun hM e => ?_) _
    rcases s1 with z | z
    · have := z.2.1
      omega
    · exact c8 z.1
set_option maxHeartbeats 2000000 in
theorem mh_term12 {n : Nat} {T : Nat → Int32} {N : Nat} {ps qs : Nat → Nat} {vs : Nat → Int} {M Qb : Nat} {fp : Int32 × Int32} {f : gb_F} {w : Int64} (hP : gb_pl1 T N 12 ps qs vs M Qb) (h : gb_S1 T N ps qs M Qb 0 fp f) (h0 : 0 ≤ (f 3 0).toInt) : gb_hm (ms_termLine_41 n f w 0) (fun f2 _ _ => gb_ml T N 2 12 ps qs vs M Qb fp f f2) := by
  unfold ms_termLine_41
  rw [if_pos rfl]
  refine hm_bd (mh_nu (l := 12) (i := 0) (fp := fp) (lo := 0) (hi := 9) hP.1 (fun z => hP.2.2 (by rw [← z]; decide)) (by decide) (by decide) (fun _ => can_rg (by decide) (by decide) (by decide)) h) (fun f1 u1 r0 g1 => ?_)
  obtain ⟨s1, v0, k1⟩ := g1
  unfold ms_termLine_58
  rw [if_neg (by decide)]
  rw [if_neg (by decide)]
  unfold ms_termLine_86
  rw [if_neg (by decide)]
  unfold ms_termLine_99
  rw [if_neg (by decide)]
  have kk : gb_ke f f1 := k1
  have hU : M = gb_kn 12 → (gb_ff 12 qs vs fp (gb_kn 12)).1 = 0 → ∀ j, j < gb_kn 12 → ((fun j => r0) j).toInt = vs j := fun hM hz j hj => by
    have cc := (ff_0 _ hz).2
    have hM2 : M = 1 := hM
    have hj2 : j < 1 := hj
    have : j = 0 := by omega
    subst this
    exact v0 (by omega) (cc 0 (by decide))
  refine hm_bd (mh_adds3 (mi := 8) (by decide) (by decide) (by rw [kk.1]; exact h0)) (fun ga ua _ ha => ?_)
  obtain ⟨na, ha⟩ := ha
  rw [kk.1] at ha
  exact mh_fin (f0 := f) (U := (fun j => r0)) hP.2.1 (S1_same s1 (na 0 (by decide)) (na 1 (by decide))) hU (addR_2 (by decide) rfl rfl ha) (Or.inl ⟨by decide, (by rw [na 0 (by decide)] : ga 0 9 = f1 0 9).trans kk.2.2.1⟩)
set_option maxHeartbeats 2000000 in
theorem mh_term13 {n : Nat} {T : Nat → Int32} {N : Nat} {ps qs : Nat → Nat} {vs : Nat → Int} {M Qb : Nat} {fp : Int32 × Int32} {f : gb_F} {w : Int64} (hP : gb_pl1 T N 13 ps qs vs M Qb) (h : gb_S1 T N ps qs M Qb 0 fp f) (h0 : 0 ≤ (f 3 0).toInt) : gb_hm (ms_termLine_41 n f w 1) (fun f2 _ _ => gb_ml T N 2 13 ps qs vs M Qb fp f f2) := by
  unfold ms_termLine_41
  rw [if_neg (by decide)]
  unfold ms_termLine_58
  rw [if_pos rfl]
  unfold ms_termLine_68
  refine hm_bd (mh_nu (l := 13) (i := 0) (fp := fp) (lo := 0) (hi := 999) hP.1 (fun z => hP.2.2 (by rw [← z]; decide)) (by decide) (by decide) (fun _ => can_rg (by decide) (by decide) (by decide)) h) (fun f1 u1 r0 g1 => ?_)
  obtain ⟨s1, v0, k1⟩ := g1
  refine hm_bd (mh_nu (l := 13) (i := 1) (fp := fp) (lo := 0) (hi := 99) hP.1 (fun z => hP.2.2 (by rw [← z]; decide)) (by decide) (by decide) (fun _ => can_rg (by decide) (by decide) (by decide)) s1) (fun f2 u2 r1 g2 => ?_)
  obtain ⟨s2, v1, k2⟩ := g2
  unfold ms_termLine_86
  rw [if_neg (by decide)]
  unfold ms_termLine_99
  rw [if_neg (by decide)]
  have kk : gb_ke f f2 := ke_t (k1) k2
  have hU : M = gb_kn 13 → (gb_ff 13 qs vs fp (gb_kn 13)).1 = 0 → ∀ j, j < gb_kn 13 → ((fun j => if j = 0 then r0 else r1) j).toInt = vs j := fun hM hz j hj => by
    have cc := (ff_0 _ hz).2
    have hM2 : M = 2 := hM
    have hj2 : j < 2 := hj
    have : j = 0 ∨ j = 1 := by omega
    rcases this with rfl | rfl
    · exact v0 (by omega) (cc 0 (by decide))
    · exact v1 (by omega) (cc 1 (by decide))
  refine hm_bd (mh_adds3 (mi := 8) (by decide) (by decide) (by rw [kk.1]; exact h0)) (fun ga ua _ ha => ?_)
  obtain ⟨na, ha⟩ := ha
  rw [kk.1] at ha
  exact mh_fin (f0 := f) (U := (fun j => if j = 0 then r0 else r1)) hP.2.1 (S1_same s2 (na 0 (by decide)) (na 1 (by decide))) hU (addR_2 (by decide) rfl rfl ha) (Or.inl ⟨by decide, (by rw [na 0 (by decide)] : ga 0 9 = f2 0 9).trans kk.2.2.1⟩)
set_option maxHeartbeats 2000000 in
theorem mh_term14 {n : Nat} {T : Nat → Int32} {N : Nat} {ps qs : Nat → Nat} {vs : Nat → Int} {M Qb : Nat} {fp : Int32 × Int32} {f : gb_F} {w : Int64} (hP : gb_pl1 T N 14 ps qs vs M Qb) (h : gb_S1 T N ps qs M Qb 0 fp f) (h0 : 0 ≤ (f 3 0).toInt) : gb_hm (ms_termLine_41 n f w 2) (fun f2 _ _ => gb_ml T N 2 14 ps qs vs M Qb fp f f2) := by
  unfold ms_termLine_41
  rw [if_neg (by decide)]
  unfold ms_termLine_58
  rw [if_neg (by decide)]
  rw [if_pos rfl]
  unfold ms_termLine_68
  refine hm_bd (mh_nu (l := 14) (i := 0) (fp := fp) (lo := 0) (hi := 999) hP.1 (fun z => hP.2.2 (by rw [← z]; decide)) (by decide) (by decide) (fun _ => can_rg (by decide) (by decide) (by decide)) h) (fun f1 u1 r0 g1 => ?_)
  obtain ⟨s1, v0, k1⟩ := g1
  refine hm_bd (mh_nu (l := 14) (i := 1) (fp := fp) (lo := 0) (hi := 99) hP.1 (fun z => hP.2.2 (by rw [← z]; decide)) (by decide) (by decide) (fun _ => can_rg (by decide) (by decide) (by decide)) s1) (fun f2 u2 r1 g2 => ?_)
  obtain ⟨s2, v1, k2⟩ := g2
  unfold ms_termLine_86
  rw [if_neg (by decide)]
  unfold ms_termLine_99
  rw [if_neg (by decide)]
  have kk : gb_ke f f2 := ke_t (k1) k2
  have hU : M = gb_kn 14 → (gb_ff 14 qs vs fp (gb_kn 14)).1 = 0 → ∀ j, j < gb_kn 14 → ((fun j => if j = 0 then r0 else r1) j).toInt = vs j := fun hM hz j hj => by
    have cc := (ff_0 _ hz).2
    have hM2 : M = 2 := hM
    have hj2 : j < 2 := hj
    have : j = 0 ∨ j = 1 := by omega
    rcases this with rfl | rfl
    · exact v0 (by omega) (cc 0 (by decide))
    · exact v1 (by omega) (cc 1 (by decide))
  refine hm_bd (mh_adds3 (mi := 8) (by decide) (by decide) (by rw [kk.1]; exact h0)) (fun ga ua _ ha => ?_)
  obtain ⟨na, ha⟩ := ha
  rw [kk.1] at ha
  exact mh_fin (f0 := f) (U := (fun j => if j = 0 then r0 else r1)) hP.2.1 (S1_same s2 (na 0 (by decide)) (na 1 (by decide))) hU (addR_2 (by decide) rfl rfl ha) (Or.inl ⟨by decide, (by rw [na 0 (by decide)] : ga 0 9 = f2 0 9).trans kk.2.2.1⟩)
set_option maxHeartbeats 2000000 in
theorem mh_term15 {n : Nat} {T : Nat → Int32} {N : Nat} {ps qs : Nat → Nat} {vs : Nat → Int} {M Qb : Nat} {fp : Int32 × Int32} {f : gb_F} {w : Int64} (hP : gb_pl1 T N 15 ps qs vs M Qb) (h : gb_S1 T N ps qs M Qb 0 fp f) (h0 : 0 ≤ (f 3 0).toInt) : gb_hm (ms_termLine_41 n f w 3) (fun f2 _ _ => gb_ml T N 2 15 ps qs vs M Qb fp f f2) := by
  unfold ms_termLine_41
  rw [if_neg (by decide)]
  unfold ms_termLine_58
  rw [if_neg (by decide)]
  rw [if_neg (by decide)]
  unfold ms_termLine_86
  rw [if_pos rfl]
  refine hm_bd (mh_nu (l := 15) (i := 0) (fp := fp) (lo := 0) (hi := 99) hP.1 (fun z => hP.2.2 (by rw [← z]; decide)) (by decide) (by decide) (fun _ => can_rg (by decide) (by decide) (by decide)) h) (fun f1 u1 r0 g1 => ?_)
  obtain ⟨s1, v0, k1⟩ := g1
  unfold ms_termLine_99
  rw [if_neg (by decide)]
  have kk : gb_ke f f1 := k1
  have hU : M = gb_kn 15 → (gb_ff 15 qs vs fp (gb_kn 15)).1 = 0 → ∀ j, j < gb_kn 15 → ((fun j => r0) j).toInt = vs j := fun hM hz j hj => by
    have cc := (ff_0 _ hz).2
    have hM2 : M = 1 := hM
    have hj2 : j < 1 := hj
    have : j = 0 := by omega
    subst this
    exact v0 (by omega) (cc 0 (by decide))
  refine hm_bd (mh_adds3 (mi := 8) (by decide) (by decide) (by rw [kk.1]; exact h0)) (fun ga ua _ ha => ?_)
  obtain ⟨na, ha⟩ := ha
  rw [kk.1] at ha
  exact mh_fin (f0 := f) (U := (fun j => r0)) hP.2.1 (S1_same s1 (na 0 (by decide)) (na 1 (by decide))) hU (addR_2 (by decide) rfl rfl ha) (Or.inl ⟨by decide, (by rw [na 0 (by decide)] : ga 0 9 = f1 0 9).trans kk.2.2.1⟩)
set_option maxHeartbeats 2000000 in
theorem mh_term16 {n : Nat} {T : Nat → Int32} {N : Nat} {ps qs : Nat → Nat} {vs : Nat → Int} {M Qb : Nat} {fp : Int32 × Int32} {f : gb_F} {w : Int64} (hP : gb_pl1 T N 16 ps qs vs M Qb) (h : gb_S1 T N ps qs M Qb 0 fp f) (h0 : 0 ≤ (f 3 0).toInt) : gb_hm (ms_termLine_41 n f w 4) (fun f2 _ _ => gb_ml T N 2 16 ps qs vs M Qb fp f f2) := by
  unfold ms_termLine_41
  rw [if_neg (by decide)]
  unfold ms_termLine_58
  rw [if_neg (by decide)]
  rw [if_neg (by decide)]
  unfold ms_termLine_86
  rw [if_neg (by decide)]
  unfold ms_termLine_99
  rw [if_pos rfl]
  refine hm_bd (mh_nu (l := 16) (i := 0) (fp := fp) (lo := 0) (hi := 999) hP.1 (fun z => hP.2.2 (by rw [← z]; decide)) (by decide) (by decide) (fun _ => can_rg (by decide) (by decide) (by decide)) h) (fun f1 u1 r0 g1 => ?_)
  obtain ⟨s1, v0, k1⟩ := g1
  have kk : gb_ke f f1 := k1
  have hU : M = gb_kn 16 → (gb_ff 16 qs vs fp (gb_kn 16)).1 = 0 → ∀ j, j < gb_kn 16 → ((fun j => r0) j).toInt = vs j := fun hM hz j hj => by
    have cc := (ff_0 _ hz).2
    have hM2 : M = 1 := hM
    have hj2 : j < 1 := hj
    have : j = 0 := by omega
    subst this
    exact v0 (by omega) (cc 0 (by decide))
  refine hm_bd (mh_adds3 (mi := 8) (by decide) (by decide) (by rw [kk.1]; exact h0)) (fun ga ua _ ha => ?_)
  obtain ⟨na, ha⟩ := ha
  rw [kk.1] at ha
  exact mh_fin (f0 := f) (U := (fun j => r0)) hP.2.1 (S1_same s1 (na 0 (by decide)) (na 1 (by decide))) hU (addR_2 (by decide) rfl rfl ha) (Or.inl ⟨by decide, (by rw [na 0 (by decide)] : ga 0 9 = f1 0 9).trans kk.2.2.1⟩)
/-! THE REFERENCE: seen ones, whole lines -/
theorem mh_adds2w {n : Nat} {f : gb_F} {w : Int64} {a b c d : Int32} (h0 : 0 ≤ (f 3 0).toInt) : gb_hm (ms_adds n f w 5 2 a b c d) (fun f2 _ _ => (∀ q, q ≠ 3 → f2 q = f q) ∧ ((¬ (f 3 0).toInt < 5 ∧ f2 3 = f 3) ∨ ((f 3 0).toInt < 5 ∧ f2 3 = upd (upd (upd (f 3) (1 + 2 * (f 3 0).toInt.toNat) a) (2 + 2 * (f 3 0).toInt.toNat) b) 0 (f 3 0 + 1)))) := mh_adds2 (by decide) (by decide) h0
def gb_tw9 (f0 : gb_F) (v : Int32) (k : Nat) (g : gb_F) : Prop := ¬ g 0 9 = 0 ↔ (¬ f0 0 9 = 0 ∨ ∃ j, j < k ∧ f0 3 (1 + 2 * j) = v)
set_option maxHeartbeats 2000000 in
theorem mh_seen54 {n : Nat} {T : Nat → Int32} {N l : Nat} {ps qs : Nat → Nat} {vs : Nat → Int} {M Qb : Nat} {fp : Int32 × Int32} {f0 : gb_F} {v2 v3 : Int32} {c i0 : Nat} (fpx : Int32 × Int32) (hc : (f0 3 0).toInt = c) (hc2 : c ≤ 5) {Q : gb_F → Int64 → Unit → Prop} (K : ∀ (g : gb_F) (w : Int64), gb_S1 T N ps qs M Qb i0 fpx g → g 3 = f0 3 → gb_tw9 f0 v2 c g → gb_hm (gb_bd (ms_adds n g w 5 2 v2 v3 (-1) (-1)) (fun f_20 wl_21 _ => gb_bd (ms_endsLine n f_20 wl_21) (fun f_25 wl_26 _ => (some (f_25, wl_26, ()) : gb_MR Unit)))) Q) : ∀ (mm : Nat) (f : gb_F) (w : Int64) (v4 : Int32) (k : Nat), v4.toInt = k → k ≤ c → gb_S1 T N ps qs M Qb i0 fpx f → f 3 = f0 3 → gb_tw9 f0 v2 k f → gb_hm (ms_seenLine_54 n mm f w v2 v3 v4) Q := by
  intro mm
  induction mm with
  | zero =>
    intros
    exact hm_none
  | succ mm ih =>
    intro f w v4 k e4 hk hS h3 h9
    rw [ms_seenLine_54]
    have t0 : Int32.toNatClampNeg 0 = 0 := by decide
    have c1 : (1 : Int32).toInt = 1 := by decide
    have c2 : (2 : Int32).toInt = 2 := by decide
    rw [t0]
    refine hm_lt (fun x ex => hm_if (fun d => ?_) (fun d => ?_))
    · have := gi_le d
      rw [ex, h3, hc, e4] at this
      have hkc : k = c := by omega
      subst hkc
      exact K f w hS h3 h9
    · have hkc : k < c := by
        have := gi_nle d
        rw [ex, h3, hc, e4] at this
        omega
      have m1 : (2 * v4).toInt = ((2 * k : Nat) : Int) := by
        rw [gb_tmul (by rw [c2, e4]; omega) (by rw [c2, e4]; omega), c2, e4]
        omega
      have m2 : (1 + 2 * v4).toInt = ((1 + 2 * k : Nat) : Int) := by
        rw [gb_tadd (by rw [c1, m1]; omega) (by rw [c1, m1]; omega), c1, m1]
        omega
      have step : ∀ (g : gb_F) (v : Int32) (y : Int32), g = gb_u f 0 (upd (f 0) 9 v) → (¬ v = 0 ↔ (¬ f 0 9 = 0 ∨ f0 3 (1 + 2 * k) = v2)) → y = v4 + 1 → ∀ w2, gb_hm (ms_seenLine_54 n mm g w2 v2 v3 y) Q := by
        intro g v y eg hv ey w2
        refine ih g w2 y (k + 1) (by rw [ey]; exact gi_s1 e4 (by omega)) (by omega) (S1_9 hS eg) (by rw [eg, gb_un (by decide)]; exact h3) ?_
        unfold gb_tw9 at h9 ⊢
        rw [eg, gb_us, pk_us, hv, h9]
        constructor
        · intro z
          rcases z with (z | ⟨j, j1, j2⟩) | z
          · exact Or.inl z
          · exact Or.inr ⟨j, by omega, j2⟩
          · exact Or.inr ⟨k, by omega, z⟩
        · intro z
          rcases z with z | ⟨j, j1, j2⟩
          · exact Or.inl (Or.inl z)
          · by_cases q : j = k
            · rw [q] at j2
              exact Or.inr j2
            · exact Or.inl (Or.inr ⟨j, by omega, j2⟩)
      refine hm_if (fun z => hm_ck (fun _ _ => hm_lt (fun x2 ex2 => ?_))) (fun z => hm_lt (fun g eg => hm_lt (fun y ey => step g 1 y eg ⟨fun _ => Or.inl z, fun _ => by decide⟩ ey _)))
      rw [gi_tn m2, h3] at ex2
      refine hm_if (fun d2 => hm_lt (fun g eg => hm_lt (fun y ey => step g 1 y eg ⟨fun _ => Or.inr (by rw [← ex2]; exact d2), fun _ => by decide⟩ ey _))) (fun d2 => hm_lt (fun g eg => hm_lt (fun y ey => step g 0 y eg ⟨fun q => absurd rfl q, fun q => ?_⟩ ey _)))
      rcases q with q | q
      · exact absurd z q
      · exact absurd (by rw [ex2]; exact q) d2
/-- at the first token of a line -/
def gb_ls (T : Nat → Int32) (N a : Nat) (fp : Int32 × Int32) (f : gb_F) : Prop := f 0 8 = 0 ∧ gb_cx T N f ∧ gb_tk T N f a ∧ (f 1 5, f 1 6) = fp ∧ (¬ fp.1 = 0 → fp.2.toInt < a)
/-- the fault of too many, by the sheet ahead of the line -/
def gb_fp3 (s l a : Nat) (R : Nat → Int32) (fp fp2 : Int32 × Int32) : Prop := (gb_room s l R ∧ fp2 = fp) ∨ (¬ gb_room s l R ∧ fp2 = gb_note fp 3 a)
theorem ls_S1 {T : Nat → Int32} {N s a l M Qb : Nat} {ps qs : Nat → Nat} {fp : Int32 × Int32} {f2 : gb_F} {e l2 : Nat} {fpq : (f2 1 5, f2 1 6) = fp} (hs : s ≤ 3) (hw : gb_word T N s a l (ps 0)) (hw2 : gb_word T N s a l2 e) (h8 : f2 0 8 = 0) (hr : gb_rs T N f2 e) (hp : ¬ fp.1 = 0 → fp.2.toInt < a) (hlt : a < e) : gb_S1 T N ps qs M Qb 0 fp f2 ∧ l2 = l ∧ e = ps 0 := by
  have h18 := gb_fl18 (s := s + 1) (by omega)
  have e1 := run_uq hw2.2.2.1 hw.2.2.1
  subst e1
  have l1 := isw_uq (by have := hw2.2.1; omega) (by have := hw.2.1; omega) hw2.2.2.2 hw.2.2.2
  exact ⟨Or.inr ⟨h8, Nat.zero_le _, hr, fpq, fun z => Or.inl (by have := hp z; omega)⟩, l1, rfl⟩
/-! no word goes on -/
def gb_W1 (q : Nat) (f : gb_F) : Prop := ¬ f 0 8 = 0 ∧ f 1 5 = 1 ∧ f 1 6 = nI q
theorem W1_s {q : Nat} {f f2 : gb_F} (h : gb_W1 q f) (h0 : f2 0 8 = f 0 8) (h1 : f2 1 = f 1) : gb_W1 q f2 := ⟨by rw [h0]; exact h.1, by rw [h1]; exact h.2.1, by rw [h1]; exact h.2.2⟩
theorem mh_endsW {n q : Nat} {f : gb_F} {w : Int64} (h : gb_W1 q f) : gb_hm (gb_bd (ms_endsLine n f w) (fun f_45 wl_46 _ => (some (f_45, wl_46, ()) : gb_MR Unit))) (fun f2 _ _ => gb_W1 q f2) := by
  refine hm_bd (P := fun f2 _ _ => gb_W1 q f2) ?_ (fun f2 _ _ g => hm_some g)
  unfold ms_endsLine
  rw [if_neg h.1]
  exact hm_bd (mh_ends1 h.1) (fun f2 w2 _ g => hm_some (by rw [g.1]; exact h))
theorem mh_numW {n q : Nat} {f : gb_F} {w : Int64} {p1 p2 : Int32} (h : gb_W1 q f) : gb_hm (ms_numbered n f w p1 p2) (fun f2 _ _ => f2 = f) := by
  unfold ms_numbered
  rw [if_neg h.1]
  exact hm_bd (mh_ends1 h.1) (fun f2 w2 _ g => hm_some g.1)
theorem mh_pathW {n q : Nat} {f : gb_F} {w : Int64} (h : gb_W1 q f) : gb_hm (ms_pathTold n f w) (fun f2 _ _ => f2 = f) := by
  unfold ms_pathTold
  exact hm_bd (mh_numW h) (fun f2 _ _ g => hm_some g)
theorem mh_addsW {n q : Nat} {f : gb_F} {w : Int64} {p1 p2 p3 p4 p5 p6 : Int32} (h : gb_W1 q f) : gb_hm (ms_adds n f w p1 p2 p3 p4 p5 p6) (fun f2 _ _ => gb_W1 q f2) := by
  have up : ∀ {g g2 : gb_F} {F : Nat → Int32}, gb_W1 q g → g2 = gb_u g 3 F → gb_W1 q g2 := fun hg e => W1_s hg (by rw [e, gb_un (by decide)]) (by rw [e, gb_un (by decide)])
  have t58 : ∀ {g : gb_F} {u : Int64} {a b c : Int32}, gb_W1 q g → gb_hm (ms_adds_58 n g u a b c) (fun f2 _ _ => gb_W1 q f2) := fun hg => by
    unfold ms_adds_58
    exact hm_if (fun _ => hm_lt (fun _ _ => hm_lt (fun _ e => hm_some (up hg e)))) (fun _ => hm_ck (fun _ _ => hm_lt (fun _ e => hm_lt (fun _ _ => hm_lt (fun _ e2 => hm_some (up (up hg e) e2))))))
  unfold ms_adds
  exact hm_lt (fun _ _ => hm_if (fun _ => hm_lt (fun _ _ => hm_lt (fun _ _ => hm_ck (fun _ _ => hm_lt (fun _ e1 => hm_ck (fun _ _ => hm_lt (fun _ e2 => hm_if (fun _ => t58 (up (up h e1) e2)) (fun _ => hm_ck (fun _ _ => hm_lt (fun _ e3 => t58 (up (up (up h e1) e2) e3)))))))))) ) (fun _ => hm_some h))
theorem mh_seen54W {n q : Nat} {v2 v3 : Int32} : ∀ (mm : Nat) (f : gb_F) (w : Int64) (v4 : Int32), gb_W1 q f → gb_hm (ms_seenLine_54 n mm f w v2 v3 v4) (fun f2 _ _ => gb_W1 q f2) := by
  intro mm
  induction mm with
  | zero =>
    intros
    exact hm_none
  | succ mm ih =>
    intro f w v4 h
    rw [ms_seenLine_54]
    have up : ∀ {g2 : gb_F} {v : Int32}, g2 = gb_u f 0 (upd (f 0) 9 v) → gb_W1 q g2 := fun e => W1_s h (by rw [e, gb_us, pk_un (by decide)]) (by rw [e, gb_un (by decide)])
    refine hm_lt (fun _ _ => hm_if (fun _ => hm_bd (mh_addsW h) (fun f2 _ _ g => mh_endsW g)) (fun _ => hm_if (fun _ => hm_ck (fun _ _ => hm_lt (fun _ _ => hm_if (fun _ => hm_lt (fun g e => hm_lt (fun y _ => ih g _ y (up e)))) (fun _ => hm_lt (fun g e => hm_lt (fun y _ => ih g _ y (up e))))))) (fun _ => hm_lt (fun g e => hm_lt (fun y _ => ih g _ y (up e))))))
/-- a line of any sort -/
def gb_line (n s : Nat) (f : gb_F) (w : Int64) : gb_MR Unit := if s = 0 then ms_borderLine n f w else if s = 1 then ms_deedLine n f w else if s = 2 then ms_termLine n f w else ms_seenLine n f w
theorem mh_noword {n : Nat} {T : Nat → Int32} {N s a : Nat} {fp : Int32 × Int32} {f : gb_F} {w : Int64} (hs : s ≤ 3) (hls : gb_ls T N a fp f) (hno : ∀ l e, ¬ gb_word T N s a l e) : gb_hm (gb_line n s f w) (fun f2 _ _ => gb_W1 a f2) := by
  obtain ⟨h8, hx, ht, hf, hp⟩ := hls
  have c4 : (4 : Int32).toInt = 4 := by decide
  have tk : ∀ (p1 p2 : Int32), p1.toInt = ((gb_fl s + 1 : Nat) : Int) → p2.toInt = gb_fl (s + 1) → gb_hm (ms_takes n f w p1 p2) (fun f2 _ r => r = 0 ∧ gb_W1 a f2) := fun p1 p2 e1 e2 => hm_mono (mh_takes hs e1 e2 h8 hx ht) (fun f2 _ r g => by
    rcases g.2 with z | z
    · obtain ⟨l, e, z1, -⟩ := z
      exact absurd z1 (hno l e)
    · exact ⟨z.2.1, z.2.2⟩)
  unfold gb_line
  have hs4 : s = 0 ∨ s = 1 ∨ s = 2 ∨ s = 3 := by omega
  rcases hs4 with rfl | rfl | rfl | rfl
  · rw [if_pos rfl]
    unfold ms_borderLine
    refine hm_lt (fun x ex => hm_bd (tk 1 3 (by decide) (by decide)) (fun f2 u r g => ?_))
    obtain ⟨rfl, g⟩ := g
    rw [if_neg (by decide)]
    unfold ms_borderLine_22
    rw [if_neg (by decide), if_neg (by decide)]
    exact mh_endsW g
  · rw [if_neg (by decide), if_pos rfl]
    unfold ms_deedLine
    refine hm_lt (fun x ex => hm_bd (tk 4 12 (by decide) (by decide)) (fun f2 u r g => ?_))
    obtain ⟨rfl, g⟩ := g
    refine hm_lt (fun y ey => ?_)
    have ey2 : y = -4 := by rw [ey]; decide
    subst ey2
    rw [if_neg g.1]
    unfold ms_deedLine_39
    refine hm_bd (mh_inN (by decide)) (fun g1 u1 r1 h1 => ?_)
    obtain ⟨e1, -, eR⟩ := h1
    subst eR
    subst e1
    rw [if_pos rfl]
    unfold ms_deedLine_61
    refine hm_bd (mh_inN (by decide)) (fun g2 u2 r2 h2 => ?_)
    obtain ⟨e2, -, eR⟩ := h2
    subst eR
    subst e2
    rw [if_pos rfl]
    unfold ms_deedLine_76
    rw [if_neg (by decide)]
    unfold ms_deedLine_125
    rw [if_neg (by decide)]
    unfold ms_deedLine_139
    rw [if_neg (by decide)]
    unfold ms_deedLine_152
    rw [if_neg (by decide)]
    exact hm_bd (mh_addsW g) (fun f3 _ _ k => mh_endsW k)
  · rw [if_neg (by decide), if_neg (by decide), if_pos rfl]
    unfold ms_termLine
    refine hm_lt (fun x ex => hm_bd (tk 13 17 (by decide) (by decide)) (fun f2 u r g => ?_))
    obtain ⟨rfl, g⟩ := g
    refine hm_lt (fun y ey => ?_)
    have ey2 : y = -13 := by rw [ey]; decide
    subst ey2
    rw [if_neg g.1]
    unfold ms_termLine_41
    rw [if_neg (by decide)]
    unfold ms_termLine_58
    rw [if_neg (by decide), if_neg (by decide)]
    unfold ms_termLine_86
    rw [if_neg (by decide)]
    unfold ms_termLine_99
    rw [if_neg (by decide)]
    exact hm_bd (mh_addsW g) (fun f3 _ _ k => mh_endsW k)
  · rw [if_neg (by decide), if_neg (by decide), if_neg (by decide)]
    unfold ms_seenLine
    refine hm_lt (fun x ex => hm_bd (tk 18 18 (by decide) (by decide)) (fun f2 u r g => ?_))
    obtain ⟨-, g⟩ := g
    rw [if_neg g.1]
    refine hm_bd (mh_pathW g) (fun f3 u3 r3 e3 => ?_)
    subst e3
    refine hm_bd (mh_numW g) (fun f4 u4 r4 e4 => ?_)
    subst e4
    exact mh_seen54W n _ _ _ g
set_option maxHeartbeats 4000000 in
theorem mh_line {n : Nat} {T : Nat → Int32} {N s a l : Nat} {ps qs : Nat → Nat} {vs : Nat → Int} {M Qb : Nat} {fp fp2 : Int32 × Int32} {f : gb_F} {w : Int64} (hs : s ≤ 3) (hls : gb_ls T N a fp f) (hw : gb_word T N s a l (ps 0)) (hP : gb_pl1 T N l ps qs vs M Qb) (hf : gb_fp3 s l a (f 3) fp fp2) (h0 : gb_iv 0 24 (f 3 0)) (h03 : s = 3 → gb_iv 0 5 (f 3 0)) (h1 : s = 0 → 0 ≤ (f 3 1).toInt) : gb_hm (gb_line n s f w) (fun f2 _ _ => gb_ml T N s l ps qs vs M Qb fp2 f f2) := by
  obtain ⟨h8, hx, ht, hfp, hp⟩ := hls
  have hN := hx.2.1
  have h00 := h0.1
  have tk : ∀ (p1 p2 : Int32), p1.toInt = ((gb_fl s + 1 : Nat) : Int) → p2.toInt = gb_fl (s + 1) → gb_hm (ms_takes n f w p1 p2) (fun f2 _ r => gb_ke f f2 ∧ r.toInt = ((l + 1 : Nat) : Int) ∧ f2 0 8 = 0 ∧ gb_S1 T N ps qs M Qb 0 fp f2 ∧ a < ps 0 ∧ ps 0 ≤ N) := fun p1 p2 e1 e2 => hm_mono (mh_takes hs e1 e2 h8 hx ht) (fun f2 _ r g => by
    obtain ⟨k, g⟩ := g
    rcases g with z | z
    · obtain ⟨l2, e, z1, z2, z3, z4, z5, z6, z7⟩ := z
      obtain ⟨y1, y2, y3⟩ := ls_S1 (M := M) (Qb := Qb) (qs := qs) (fpq := by rw [z6]; exact hfp) hs hw z1 z5 z7 hp z2
      subst y2
      subst y3
      exact ⟨k, z4, z5, y1, z2, z3⟩
    · exact absurd hw (z.1 l (ps 0)))
  have hmd : ∀ {b : Int32} {k : Nat}, b.toInt = ((l + 1 : Nat) : Int) → l + 1 = k → ∀ {c : Int32}, c.toInt = k → b = c := fun hb hk _ hc => gb_ieq (by rw [hb, hk, hc])
  unfold gb_line
  have hs4 : s = 0 ∨ s = 1 ∨ s = 2 ∨ s = 3 := by omega
  rcases hs4 with rfl | rfl | rfl | rfl
  · rw [if_pos rfl]
    unfold ms_borderLine
    refine hm_lt (fun x ex => hm_bd (tk 1 3 (by decide) (by decide)) (fun f2 u r g => ?_))
    obtain ⟨k, hr, g8, gS, g5, g6⟩ := g
    have exa : x.toInt = a := by rw [ex]; exact ht.1
    have hl3 : l < 3 := hw.2.1
    have l3 : l = 0 ∨ l = 1 ∨ l = 2 := by omega
    have h0' : 0 ≤ (f2 3 0).toInt := by rw [k.1]; exact h00
    have h1' : 0 ≤ (f2 3 1).toInt := by rw [k.1]; exact h1 rfl
    have hf' : gb_fp3 0 l a (f2 3) fp fp2 := by rw [k.1]; exact hf
    rcases l3 with rfl | rfl | rfl
    · have r1 : r = 1 := hmd hr rfl (by decide)
      subst r1
      rw [if_pos rfl]
      refine hm_bd (mh_pathLine hP gS h0' exa g5 (by omega) hp hf') (fun f3 u3 _ g3 => ?_)
      obtain ⟨s3, n3, U, u1, u2⟩ := g3
      rw [k.1] at u2
      unfold ms_borderLine_22
      rw [if_neg (by decide), if_neg (by decide)]
      exact mh_fin (f0 := f) (U := U) hP.2.1 s3 u1 u2 (Or.inl ⟨by decide, n3.trans k.2.2.1⟩)
    · have r1 : r = 2 := hmd hr rfl (by decide)
      subst r1
      rw [if_neg (by decide)]
      unfold ms_borderLine_22
      rw [if_pos rfl]
      refine hm_bd (mh_gooseLine hP gS h1' exa g5 (by omega) hp hf') (fun f3 u3 _ g3 => ?_)
      obtain ⟨s3, n3, U, u1, u2⟩ := g3
      rw [k.1] at u2
      rw [if_neg (by decide)]
      exact mh_fin (f0 := f) (U := U) hP.2.1 s3 u1 u2 (Or.inl ⟨by decide, n3.trans k.2.2.1⟩)
    · have r1 : r = 3 := hmd hr rfl (by decide)
      subst r1
      have t2 : Int32.toNatClampNeg 2 = 2 := by decide
      have rm : gb_room 0 2 (f 3) := by
        unfold gb_room
        rw [if_pos rfl]
        exact Or.inl rfl
      have f2E : fp2 = fp := by
        rcases hf with z | z
        · exact z.2
        · exact absurd rm z.1
      subst f2E
      rw [if_neg (by decide)]
      unfold ms_borderLine_22
      rw [if_neg (by decide), if_pos rfl, t2]
      refine hm_bd (mh_nu (l := 2) (i := 0) (fp := fp2) (lo := 0) (hi := 999) hP.1 (fun z => hP.2.2 (by rw [← z]; decide)) (by decide) (by decide) (fun _ => can_rg (by decide) (by decide) (by decide)) gS) (fun f3 u3 r0 g3 => ?_)
      obtain ⟨s3, v0, k3⟩ := g3
      refine hm_lt (fun f4 e4 => ?_)
      have kk := ke_t k k3
      refine mh_fin (f0 := f) (U := fun _ => r0) hP.2.1 (S1_same s3 (by rw [e4, gb_un (by decide)]) (by rw [e4, gb_un (by decide)])) (fun hM hz j hj => ?_) (Or.inr ⟨rm, Or.inl ⟨rfl, Or.inl ⟨rfl, by rw [e4, gb_us, kk.1]⟩⟩⟩) (Or.inl ⟨by decide, by rw [e4, gb_un (by decide)]; exact kk.2.2.1⟩)
      have cc := (ff_0 _ hz).2
      have hM2 : M = 1 := hM
      have hj2 : j < 1 := hj
      have : j = 0 := by omega
      subst this
      exact v0 (by omega) (cc 0 (by decide))
  · rw [if_neg (by decide), if_pos rfl]
    unfold ms_deedLine
    have t0 : Int32.toNatClampNeg 0 = 0 := by decide
    have c4 : (4 : Int32).toInt = 4 := by decide
    have c24 : (24 : Int32).toInt = 24 := by decide
    rw [t0]
    refine hm_lt (fun x ex => hm_bd (tk 4 12 (by decide) (by decide)) (fun f2 u r g => ?_))
    obtain ⟨k, hr, g8, gS, g5, g6⟩ := g
    have exa : x.toInt = a := by rw [ex]; exact ht.1
    have hl1 : 3 ≤ l := hw.1
    have hl2 : l < 12 := hw.2.1
    have go : ∀ (g : gb_F) (u : Int64) (y : Int32), y = r - 4 → gb_S1 T N ps qs M Qb 0 fp2 g → g 3 = f 3 → g 0 9 = f 0 9 → gb_hm (ms_deedLine_39 n g u y) (fun f2 _ _ => gb_ml T N 1 l ps qs vs M Qb fp2 f f2) := by
      intro g u y ey gS g3 g9
      have hy : y.toInt = ((l - 3 : Nat) : Int) := by
        rw [ey, gb_tsub (by omega) (by omega), hr, c4]
        omega
      have h0g : 0 ≤ (g 3 0).toInt := by rw [g3]; exact h00
      have tr : ∀ f2 : gb_F, gb_ml T N 1 l ps qs vs M Qb fp2 g f2 → gb_ml T N 1 l ps qs vs M Qb fp2 f f2 := fun f2 z => by
        unfold gb_ml at z ⊢
        rw [g3, g9] at z
        exact z
      have c9 : l = 3 ∨ l = 4 ∨ l = 5 ∨ l = 6 ∨ l = 7 ∨ l = 8 ∨ l = 9 ∨ l = 10 ∨ l = 11 := by omega
      rcases c9 with rfl | rfl | rfl | rfl | rfl | rfl | rfl | rfl | rfl
      · rw [show y = 0 from gi_eq hy (by decide)]
        exact hm_mono (mh_deed3 hP gS h0g) (fun f2 _ _ z => tr f2 z)
      · rw [show y = 1 from gi_eq hy (by decide)]
        exact hm_mono (mh_deed4 hP gS h0g) (fun f2 _ _ z => tr f2 z)
      · rw [show y = 2 from gi_eq hy (by decide)]
        exact hm_mono (mh_deed5 hP gS h0g) (fun f2 _ _ z => tr f2 z)
      · rw [show y = 3 from gi_eq hy (by decide)]
        exact hm_mono (mh_deed6 hP gS h0g) (fun f2 _ _ z => tr f2 z)
      · rw [show y = 4 from gi_eq hy (by decide)]
        exact hm_mono (mh_deed7 hP gS h0g) (fun f2 _ _ z => tr f2 z)
      · rw [show y = 5 from gi_eq hy (by decide)]
        exact hm_mono (mh_deed8 hP gS h0g) (fun f2 _ _ z => tr f2 z)
      · rw [show y = 6 from gi_eq hy (by decide)]
        exact hm_mono (mh_deed9 hP gS h0g) (fun f2 _ _ z => tr f2 z)
      · rw [show y = 7 from gi_eq hy (by decide)]
        exact hm_mono (mh_deed10 hP gS h0g) (fun f2 _ _ z => tr f2 z)
      · rw [show y = 8 from gi_eq hy (by decide)]
        exact hm_mono (mh_deed11 hP gS h0g) (fun f2 _ _ z => tr f2 z)
    refine hm_lt (fun y ey => ?_)
    rw [if_pos g8]
    refine hm_lt (fun z ez => hm_if (fun c => ?_) (fun c => ?_))
    · have rm : gb_room 1 l (f 3) := by
        have := gi_lt c
        rw [ez, k.1, c24] at this
        exact this
      have f2E : fp2 = fp := by
        rcases hf with q | q
        · exact q.2
        · exact absurd rm q.1
      exact go f2 u y ey (by rw [f2E]; exact gS) k.1 k.2.2.1
    · have rm : ¬ gb_room 1 l (f 3) := fun q => by
        have := gi_nlt c
        rw [ez, k.1, c24] at this
        have q' : (f 3 0).toInt < 24 := q
        omega
      have f2E : fp2 = gb_note fp 3 a := by
        rcases hf with q | q
        · exact absurd q.1 rm
        · exact q.2
      refine hm_bd (mh_al3 gS exa g5 (by omega) hp) (fun g u2 _ hg => ?_)
      exact go g u2 y ey (by rw [f2E]; exact hg.1) (hg.2.1.trans k.1) (by rw [hg.2.2]; exact k.2.2.1)
  · rw [if_neg (by decide), if_neg (by decide), if_pos rfl]
    unfold ms_termLine
    have t0 : Int32.toNatClampNeg 0 = 0 := by decide
    have c13 : (13 : Int32).toInt = 13 := by decide
    have c8 : (8 : Int32).toInt = 8 := by decide
    rw [t0]
    refine hm_lt (fun x ex => hm_bd (tk 13 17 (by decide) (by decide)) (fun f2 u r g => ?_))
    obtain ⟨k, hr, g8, gS, g5, g6⟩ := g
    have exa : x.toInt = a := by rw [ex]; exact ht.1
    have hl1 : 12 ≤ l := hw.1
    have hl2 : l < 17 := hw.2.1
    have go : ∀ (g : gb_F) (u : Int64) (y : Int32), y = r - 13 → gb_S1 T N ps qs M Qb 0 fp2 g → g 3 = f 3 → g 0 9 = f 0 9 → gb_hm (ms_termLine_41 n g u y) (fun f2 _ _ => gb_ml T N 2 l ps qs vs M Qb fp2 f f2) := by
      intro g u y ey gS g3 g9
      have hy : y.toInt = ((l - 12 : Nat) : Int) := by
        rw [ey, gb_tsub (by omega) (by omega), hr, c13]
        omega
      have h0g : 0 ≤ (g 3 0).toInt := by rw [g3]; exact h00
      have tr : ∀ f2 : gb_F, gb_ml T N 2 l ps qs vs M Qb fp2 g f2 → gb_ml T N 2 l ps qs vs M Qb fp2 f f2 := fun f2 z => by
        unfold gb_ml at z ⊢
        rw [g3, g9] at z
        exact z
      have c9 : l = 12 ∨ l = 13 ∨ l = 14 ∨ l = 15 ∨ l = 16 := by omega
      rcases c9 with rfl | rfl | rfl | rfl | rfl
      · rw [show y = 0 from gi_eq hy (by decide)]
        exact hm_mono (mh_term12 hP gS h0g) (fun f2 _ _ z => tr f2 z)
      · rw [show y = 1 from gi_eq hy (by decide)]
        exact hm_mono (mh_term13 hP gS h0g) (fun f2 _ _ z => tr f2 z)
      · rw [show y = 2 from gi_eq hy (by decide)]
        exact hm_mono (mh_term14 hP gS h0g) (fun f2 _ _ z => tr f2 z)
      · rw [show y = 3 from gi_eq hy (by decide)]
        exact hm_mono (mh_term15 hP gS h0g) (fun f2 _ _ z => tr f2 z)
      · rw [show y = 4 from gi_eq hy (by decide)]
        exact hm_mono (mh_term16 hP gS h0g) (fun f2 _ _ z => tr f2 z)
    refine hm_lt (fun y ey => ?_)
    rw [if_pos g8]
    refine hm_lt (fun z ez => hm_if (fun c => ?_) (fun c => ?_))
    · have rm : gb_room 2 l (f 3) := by
        have := gi_lt c
        rw [ez, k.1, c8] at this
        exact this
      have f2E : fp2 = fp := by
        rcases hf with q | q
        · exact q.2
        · exact absurd rm q.1
      exact go f2 u y ey (by rw [f2E]; exact gS) k.1 k.2.2.1
    · have rm : ¬ gb_room 2 l (f 3) := fun q => by
        have := gi_nlt c
        rw [ez, k.1, c8] at this
        have q' : (f 3 0).toInt < 8 := q
        omega
      have f2E : fp2 = gb_note fp 3 a := by
        rcases hf with q | q
        · exact absurd q.1 rm
        · exact q.2
      refine hm_bd (mh_al3 gS exa g5 (by omega) hp) (fun g u2 _ hg => ?_)
      exact go g u2 y ey (by rw [f2E]; exact hg.1) (hg.2.1.trans k.1) (by rw [hg.2.2]; exact k.2.2.1)
  · rw [if_neg (by decide), if_neg (by decide), if_neg (by decide)]
    unfold ms_seenLine
    have t0 : Int32.toNatClampNeg 0 = 0 := by decide
    have c5 : (5 : Int32).toInt = 5 := by decide
    have z0 : (0 : Int32).toInt = ((0 : Nat) : Int) := by decide
    rw [t0]
    refine hm_lt (fun x ex => hm_bd (tk 18 18 (by decide) (by decide)) (fun f2 u r g => ?_))
    obtain ⟨k, hr, g8, gS, g5, g6⟩ := g
    have exa : x.toInt = a := by rw [ex]; exact ht.1
    have hl1 : 17 ≤ l := hw.1
    have hl2 : l < 18 := hw.2.1
    have l17 : l = 17 := by omega
    subst l17
    have i5 := h03 rfl
    have i51 := i5.1
    have i52 := i5.2
    obtain ⟨c, ec, -⟩ := gi_nn i51
    have go : ∀ (g : gb_F) (u : Int64), gb_S1 T N ps qs M Qb 0 fp2 g → g 3 = f 3 → g 0 9 = f 0 9 → gb_hm (gb_bd (ms_pathTold n g u) (fun f_42 wl_43 r_44 => gb_bd (ms_numbered n f_42 wl_43 0 999) (fun f_47 wl_48 r_49 => ms_seenLine_54 n n f_47 wl_48 r_44 r_49 0))) (fun f2 _ _ => gb_ml T N 3 17 ps qs vs M Qb fp2 f f2) := by
      intro g u gS g3 g9
      refine hm_bd (mh_pathTold (l := 17) (i := 0) (fp := fp2) hP.1 (fun z => hP.2.2 (by rw [← z]; decide)) (fun _ => can_rg (by decide) (by decide) (by decide)) gS) (fun f3 u3 r0 k3 => ?_)
      obtain ⟨s3, v0, k3⟩ := k3
      refine hm_bd (mh_nu (l := 17) (i := 1) (fp := fp2) (lo := 0) (hi := 999) hP.1 (fun z => hP.2.2 (by rw [← z]; decide)) (by decide) (by decide) (fun _ => can_rg (by decide) (by decide) (by decide)) s3) (fun f4 u4 r1 k4 => ?_)
      obtain ⟨s4, v1, k4⟩ := k4
      have kk := ke_t k3 k4
      have f43 : f4 3 = f 3 := kk.1.trans g3
      have f49 : f4 0 9 = f 0 9 := kk.2.2.1.trans g9
      have cc2 : (f 3 0).toInt.toNat = c := by omega
      refine mh_seen54 (T := T) (N := N) (l := 17) (ps := ps) (qs := qs) (vs := vs) (M := M) (Qb := Qb) (fp := fp2) (f0 := f) (c := c) (i0 := 2) (gb_ff 17 qs vs fp2 2) ec (by omega) (fun g5 u5 q1 q2 q3 => ?_) n f4 u4 0 0 z0 (Nat.zero_le _) s4 f43 ?_
      · refine hm_bd (mh_adds2w (by rw [q2]; exact h00)) (fun g6 u6 _ q6 => ?_)
        obtain ⟨n6, a6⟩ := q6
        rw [q2] at a6
        refine mh_fin (f0 := f) (U := fun j => if j = 0 then r0 else r1) hP.2.1 (S1_same q1 (n6 0 (by decide)) (n6 1 (by decide))) (fun hM hz j hj => ?_) (addR_3 rfl rfl a6) (Or.inr ⟨rfl, ?_⟩)
        · have cc := (ff_0 _ hz).2
          have hM2 : M = 2 := hM
          have hj2 : j < 2 := hj
          have : j = 0 ∨ j = 1 := by omega
          rcases this with rfl | rfl
          · exact v0 (by omega) (cc 0 (by decide))
          · exact v1 (by omega) (cc 1 (by decide))
        · rw [n6 0 (by decide), cc2]
          exact q3
      · unfold gb_tw9
        rw [f49]
        constructor
        · intro z
          exact Or.inl z
        · intro z
          rcases z with z | ⟨j, j1, -⟩
          · exact z
          · exact absurd j1 (Nat.not_lt_zero _)
    rw [if_pos g8]
    refine hm_lt (fun z ez => hm_if (fun d => ?_) (fun d => ?_))
    · have rm : gb_room 3 17 (f 3) := by
        have := gi_lt d
        rw [ez, k.1, c5] at this
        exact this
      have f2E : fp2 = fp := by
        rcases hf with q | q
        · exact q.2
        · exact absurd rm q.1
      exact go f2 u (by rw [f2E]; exact gS) k.1 k.2.2.1
    · have rm : ¬ gb_room 3 17 (f 3) := fun q => by
        have := gi_nlt d
        rw [ez, k.1, c5] at this
        have q' : (f 3 0).toInt < 5 := q
        omega
      have f2E : fp2 = gb_note fp 3 a := by
        rcases hf with q | q
        · exact absurd q.1 rm
        · exact q.2
      refine hm_bd (mh_al3 gS exa g5 (by omega) hp) (fun g u2 _ hg => ?_)
      exact go g u2 (by rw [f2E]; exact hg.1) (hg.2.1.trans k.1) (by rw [hg.2.2]; exact k.2.2.1)
/-! BOTH SHEETS: what a sheet of the class and one of the reference have in common -/
def gb_RS (s : Nat) (G R : Nat → Int32) : Prop := G 0 = R 0 ∧
  (s = 0 → G 1 = R 1 ∧ G 2 = R 2 ∧ (∀ p j, p < (R 0).toInt.toNat → j < 3 → G (3 + 3 * p + j) = R (3 + 3 * p + j)) ∧ ∀ g j, g < (R 1).toInt.toNat → j < 5 → G (18 + 5 * g + j) = R (18 + 5 * g + j)) ∧
  (s = 1 ∨ s = 2 → ∀ i, i < gb_wid s * (R 0).toInt.toNat → G (1 + i) = R (1 + i)) ∧
  (s = 3 → ∀ k, k < (R 0).toInt.toNat → G (2 + 3 * k) = R (1 + 2 * k) ∧ G (3 + 3 * k) = R (2 + 2 * k))
def gb_RC (s : Nat) (G R : Nat → Int32) : Prop := G 0 = R 0 ∧ (s = 0 → G 1 = R 1)
theorem room_rc {s l : Nat} {G R : Nat → Int32} (h : gb_RC s G R) : gb_room s l G ↔ gb_room s l R := by
  unfold gb_room
  by_cases c : s = 0
  · rw [if_pos c, if_pos c, h.1, h.2 c]
  · rw [if_neg c, if_neg c, h.1]
theorem gi_sn {x : Int32} {a b : Int} (h : gb_iv a b x) (ha : 0 ≤ a) (hb : b < 1000) : (x + 1).toInt.toNat = x.toInt.toNat + 1 := by
  have := gb_i1 h ⟨by omega, by omega⟩
  have := h.1
  omega
/-- counts go alike, whatever the numbers -/
theorem rc_add {s l : Nat} {V U G G2 R R2 : Nat → Int32} (hs : s ≤ 3) (h : gb_RC s G R) (a : gb_added s l V G G2) (b : gb_addR s l U R R2) : gb_RC s G2 R2 := by
  have rr := room_rc (l := l) h
  rcases a with ⟨a1, a2⟩ | ⟨a1, a2⟩
  · rcases b with ⟨b1, b2⟩ | ⟨b1, b2⟩
    · rw [a2, b2]
      exact h
    · exact absurd (rr.mpr b1) a1
  · rcases b with ⟨b1, b2⟩ | ⟨b1, b2⟩
    · exact absurd (rr.mp a1) b1
    · rcases a2 with ⟨s0, a3⟩ | ⟨s0, G1, a3, a4⟩
      · rcases b2 with ⟨-, b3⟩ | ⟨s1, -⟩ | ⟨s1, -⟩
        · subst s0
          have e0 := h.1
          have e1 := h.2 rfl
          have rlt := b1
          unfold gb_room at rlt
          rw [if_pos rfl] at rlt
          rcases a3 with ⟨l1, a5⟩ | ⟨l1, a5⟩ | ⟨l1, a5⟩ <;> rcases b3 with ⟨l2, b5⟩ | ⟨l2, b5⟩ | ⟨l2, b5⟩ <;> first | omega | skip
          · refine ⟨?_, fun _ => ?_⟩
            · rw [a5, b5, pk_un (by decide), pk_un (by decide), e0]
            · rw [a5, b5, pk_un (by decide), pk_un (by decide), e1]
          · refine ⟨?_, fun _ => ?_⟩
            · rw [a5, b5, pk_us, pk_us, e0]
            · rw [a5, b5, pk_un (by decide), pk_un (by decide)]
              unfold va_cpy
              rw [if_neg (by omega), if_neg (by omega), e1]
          · refine ⟨?_, fun _ => ?_⟩
            · rw [a5, b5, pk_un (by decide), pk_un (by decide)]
              unfold va_cpy
              rw [if_neg (by omega), if_neg (by omega), e0]
            · rw [a5, b5, pk_us, pk_us, e1]
        · omega
        · omega
      · rcases b2 with ⟨s1, -⟩ | ⟨s1, R1, b3, b4⟩ | ⟨s1, R1, -, -, -, b4⟩
        · exact absurd s1 s0
        · refine ⟨?_, fun z => absurd z s0⟩
          rw [a4, b4, pk_us, pk_us, h.1]
        · refine ⟨?_, fun z => absurd z s0⟩
          rw [a4, b4, pk_us, pk_us, h.1]
set_option maxHeartbeats 2000000 in
theorem rs_add {s l : Nat} {V U G G2 R R2 : Nat → Int32} (hs : s ≤ 3) (hl : gb_fl s ≤ l) (hl2 : l < gb_fl (s + 1)) (h : gb_RS s G R) (i0 : gb_iv 0 24 (R 0)) (i1 : s = 0 → gb_iv 0 8 (R 1) ∧ gb_iv 0 5 (R 0)) (hV : ∀ j, j < gb_kn l → V j = U j) (a : gb_added s l V G G2) (b : gb_addR s l U R R2) : gb_RS s G2 R2 := by
  have h0 := h.1
  have hrc : gb_RC s G R := ⟨h.1, fun z => (h.2.1 z).1⟩
  have rr := room_rc (l := l) hrc
  rcases a with ⟨a1, a2⟩ | ⟨a1, a2⟩
  · rcases b with ⟨b1, b2⟩ | ⟨b1, b2⟩
    · rw [a2, b2]
      exact h
    · exact absurd (rr.mpr b1) a1
  · rcases b with ⟨b1, b2⟩ | ⟨b1, b2⟩
    · exact absurd (rr.mp a1) b1
    · have n0 := gi_sn i0 (by decide) (by decide)
      rcases a2 with ⟨s0, a3⟩ | ⟨s0, G1, a3, a4⟩
      · rcases b2 with ⟨-, b3⟩ | ⟨s1, -⟩ | ⟨s1, -⟩
        · subst s0
          obtain ⟨h1, h2, h3, h4⟩ := h.2.1 rfl
          have n1 := gi_sn (i1 rfl).1 (by decide) (by decide)
          have c0 := i0.1
          have c1 := (i1 rfl).1.1
          have c5 := (i1 rfl).2.2
          have rlt := b1
          unfold gb_room at rlt
          rw [if_pos rfl] at rlt
          refine ⟨?_, fun _ => ?_, fun z => by omega, fun z => by omega⟩
          · have := (rc_add (l := l) hs hrc (Or.inr ⟨a1, Or.inl ⟨rfl, a3⟩⟩) (Or.inr ⟨b1, Or.inl ⟨rfl, b3⟩⟩)).1
            exact this
          · rcases a3 with ⟨l1, a5⟩ | ⟨l1, a5⟩ | ⟨l1, a5⟩ <;> rcases b3 with ⟨l2, b5⟩ | ⟨l2, b5⟩ | ⟨l2, b5⟩ <;> first | omega | skip
            · subst l1
              have v0 : V 0 = U 0 := hV 0 (by decide)
              rw [a5, b5]
              refine ⟨?_, ?_, fun p j p1 p2 => ?_, fun g j p1 p2 => ?_⟩
              · rw [pk_un (by decide), pk_un (by decide)]
                exact h1
              · rw [pk_us, pk_us, v0]
              · rw [pk_un (by decide)] at p1
                rw [pk_un (by omega), pk_un (by omega)]
                exact h3 p j p1 p2
              · rw [pk_un (by decide)] at p1
                rw [pk_un (by omega), pk_un (by omega)]
                exact h4 g j p1 p2
            · subst l1
              rw [a5, b5, h0]
              refine ⟨?_, ?_, fun p j p1 p2 => ?_, fun g j p1 p2 => ?_⟩
              · rw [pk_un (by decide), pk_un (by decide)]
                unfold va_cpy
                rw [if_neg (by omega), if_neg (by omega)]
                exact h1
              · rw [pk_un (by decide), pk_un (by decide)]
                unfold va_cpy
                rw [if_neg (by omega), if_neg (by omega)]
                exact h2
              · rw [pk_us, n0] at p1
                rw [pk_un (by omega), pk_un (by omega)]
                unfold va_cpy
                by_cases q : p = (R 0).toInt.toNat
                · rw [if_pos (by omega), if_pos (by omega)]
                  have : 0 + (3 + 3 * p + j - (3 + 3 * (R 0).toInt.toNat)) = j := by omega
                  rw [this]
                  exact hV j p2
                · rw [if_neg (by omega), if_neg (by omega)]
                  exact h3 p j (by omega) p2
              · rw [pk_un (by decide)] at p1
                unfold va_cpy at p1 ⊢
                rw [if_neg (by omega)] at p1
                rw [pk_un (by omega), pk_un (by omega), if_neg (by omega), if_neg (by omega)]
                exact h4 g j p1 p2
            · subst l1
              rw [a5, b5, h1]
              refine ⟨?_, ?_, fun p j p1 p2 => ?_, fun g j p1 p2 => ?_⟩
              · rw [pk_us, pk_us]
              · rw [pk_un (by decide), pk_un (by decide)]
                unfold va_cpy
                rw [if_neg (by omega), if_neg (by omega)]
                exact h2
              · rw [pk_un (by decide)] at p1
                unfold va_cpy at p1 ⊢
                rw [if_neg (by omega)] at p1
                rw [pk_un (by omega), pk_un (by omega), if_neg (by omega), if_neg (by omega)]
                exact h3 p j p1 p2
              · rw [pk_us, n1] at p1
                rw [pk_un (by omega), pk_un (by omega)]
                unfold va_cpy
                by_cases q : g = (R 1).toInt.toNat
                · rw [if_pos (by omega), if_pos (by omega)]
                  have : 0 + (18 + 5 * g + j - (18 + 5 * (R 1).toInt.toNat)) = j := by omega
                  rw [this]
                  exact hV j p2
                · rw [if_neg (by omega), if_neg (by omega)]
                  exact h4 g j (by omega) p2
        · omega
        · omega
      · obtain ⟨g1, g2, g3, g4⟩ := a3
        rw [h0] at g2 g3 g4
        rcases b2 with ⟨s1, -⟩ | ⟨s1, R1, ⟨r1, r2, r3, r4⟩, b4⟩ | ⟨s1, R1, r1, r2, r3, b4⟩
        · exact absurd s1 s0
        · refine ⟨by rw [a4, b4, pk_us, pk_us, h0], fun z => absurd z s0, fun _ i hi => ?_, fun z => by omega⟩
          rw [b4, pk_us, n0] at hi
          rw [a4, b4, pk_un (by omega), pk_un (by omega)]
          have hw : gb_wid s = 4 ∨ gb_wid s = 3 := by
            unfold gb_wid
            split
            · exact Or.inl rfl
            · exact Or.inr rfl
          have hmul : gb_wid s * ((R 0).toInt.toNat + 1) = gb_wid s * (R 0).toInt.toNat + gb_wid s := Nat.mul_succ _ _
          rw [hmul] at hi
          generalize hX : gb_wid s * (R 0).toInt.toNat = X at *
          by_cases q : i < X
          · rw [g4 _ (by omega) (by omega), r4 _ (by omega) (by omega)]
            exact h.2.2.1 s1 i (by rw [hX]; exact q)
          · by_cases q2 : i = X
            · rw [q2]
              exact gb_ieq (g2.trans r2.symm)
            · have e : 1 + i = 2 + X + (i - X - 1) := by omega
              rw [e, g3 (i - X - 1) (by omega), r3 (i - X - 1) (by omega)]
              by_cases q3 : i - X - 1 < gb_kn l
              · rw [if_pos q3, if_pos q3]
                exact hV _ q3
              · rw [if_neg q3, if_neg q3]
        · subst s1
          have kn2 : gb_kn l = 2 := by
            have e1 : gb_fl 3 = 17 := rfl
            have e2 : gb_fl (3 + 1) = 18 := rfl
            have : l = 17 := by omega
            rw [this]
            rfl
          have w3 : gb_wid 3 = 3 := rfl
          rw [w3] at g2 g3 g4
          refine ⟨by rw [a4, b4, pk_us, pk_us, h0], fun z => absurd z s0, fun z => by omega, fun _ k hk => ?_⟩
          rw [b4, pk_us, n0] at hk
          rw [a4, b4, pk_un (by omega), pk_un (by omega), pk_un (by omega), pk_un (by omega)]
          by_cases q : k = (R 0).toInt.toNat
          · have e1 := g3 0 (by decide)
            have e2 := g3 1 (by decide)
            rw [if_pos (by rw [kn2]; decide)] at e1 e2
            rw [q, r1, r2]
            refine ⟨?_, ?_⟩
            · rw [show 2 + 3 * (R 0).toInt.toNat = 2 + 3 * (R 0).toInt.toNat + 0 by omega, e1]
              exact hV 0 (by rw [kn2]; decide)
            · rw [show 3 + 3 * (R 0).toInt.toNat = 2 + 3 * (R 0).toInt.toNat + 1 by omega, e2]
              exact hV 1 (by rw [kn2]; decide)
          · rw [g4 _ (by omega) (by omega), g4 _ (by omega) (by omega), r3 _ (by omega) (by omega), r3 _ (by omega) (by omega)]
            exact h.2.2.2 rfl k (by omega)
/-- one PATH seen twice -/
def gb_dup (R : Nat → Int32) : Prop := ∃ i j, i < j ∧ j < (R 0).toInt.toNat ∧ R (1 + 2 * i) = R (1 + 2 * j)
theorem dup_add {U R R2 : Nat → Int32} (i0 : gb_iv 0 24 (R 0)) (hr : gb_room 3 17 R) (b : gb_addR 3 17 U R R2) : gb_dup R2 ↔ (gb_dup R ∨ ∃ k, k < (R 0).toInt.toNat ∧ R (1 + 2 * k) = U 0) := by
  have n0 := gi_sn i0 (by decide) (by decide)
  rcases b with ⟨b1, -⟩ | ⟨-, ⟨z, -⟩ | ⟨z, -⟩ | ⟨-, R1, r1, r2, r3, b4⟩⟩
  · exact absurd hr b1
  · omega
  · omega
  · have c0 : (R2 0).toInt.toNat = (R 0).toInt.toNat + 1 := by rw [b4, pk_us]; exact n0
    have old : ∀ k, k < (R 0).toInt.toNat → R2 (1 + 2 * k) = R (1 + 2 * k) := fun k hk => by
      rw [b4, pk_un (by omega)]
      exact r3 _ (by omega) (by omega)
    have new : R2 (1 + 2 * (R 0).toInt.toNat) = U 0 := by
      rw [b4, pk_un (by omega)]
      exact r1
    constructor
    · intro h
      obtain ⟨i, j, h1, h2, h3⟩ := h
      rw [c0] at h2
      by_cases q : j = (R 0).toInt.toNat
      · subst q
        rw [old i h1, new] at h3
        exact Or.inr ⟨i, h1, h3⟩
      · rw [old i (by omega), old j (by omega)] at h3
        exact Or.inl ⟨i, j, h1, by omega, h3⟩
    · intro h
      rcases h with ⟨i, j, h1, h2, h3⟩ | ⟨k, h1, h2⟩
      · exact ⟨i, j, h1, by rw [c0]; omega, by rw [old i (by omega), old j h2]; exact h3⟩
      · exact ⟨k, (R 0).toInt.toNat, h1, by rw [c0]; omega, by rw [old k h1, new]; exact h2⟩
/-! BOTH SIDES: the reading of a whole tape -/
def gb_bit (x : Int32) : Int32 := (1 : Int32) <<< (x &&& 31)
theorem gb_or5 {x : Int32} (i : gb_iv 0 4 x) : x = 0 ∨ x = 1 ∨ x = 2 ∨ x = 3 ∨ x = 4 := by
  obtain ⟨i1, i2⟩ := i
  have c : x.toInt = 0 ∨ x.toInt = 1 ∨ x.toInt = 2 ∨ x.toInt = 3 ∨ x.toInt = 4 := by omega
  rcases c with c | c | c | c | c
  · exact Or.inl (gi_eq c (by decide))
  · exact Or.inr (Or.inl (gi_eq c (by decide)))
  · exact Or.inr (Or.inr (Or.inl (gi_eq c (by decide))))
  · exact Or.inr (Or.inr (Or.inr (Or.inl (gi_eq c (by decide)))))
  · exact Or.inr (Or.inr (Or.inr (Or.inr (gi_eq c (by decide)))))
theorem gb_bit1 {x y : Int32} (i : gb_iv 0 4 x) (j : gb_iv 0 4 y) : (gb_bit y &&& gb_bit x) = 0 ↔ ¬ x = y := by
  rcases gb_or5 i with rfl | rfl | rfl | rfl | rfl <;> rcases gb_or5 j with rfl | rfl | rfl | rfl | rfl <;> decide
theorem gb_bit2 {v x y : Int32} (i : gb_iv 0 4 x) (j : gb_iv 0 4 y) : ((v ||| gb_bit y) &&& gb_bit x) = 0 ↔ ((v &&& gb_bit x) = 0 ∧ ¬ x = y) := by
  have e : (v ||| gb_bit y) &&& gb_bit x = (v &&& gb_bit x) ||| (gb_bit y &&& gb_bit x) := by
    refine Int32.toBitVec_inj.1 ?_
    rw [Int32.toBitVec_and, Int32.toBitVec_or, Int32.toBitVec_or, Int32.toBitVec_and, Int32.toBitVec_and]
    exact BitVec.and_or_distrib_right
  rw [e, Int32.or_eq_zero_iff, gb_bit1 i j]
theorem ch_cellD {n : Nat} {σ : gb_S} {k0 : Nat} {p1 p2 : Int32} {k j : Nat} (e1 : p1.toInt = k) (hk : k ≤ 1000) (e2 : p2.toInt = j) (hj : j ≤ 10) : gb_hc (cs_Lines_cell_D n σ k0 p1 p2) (fun s r => s = σ ∧ r = σ.1 (k0 + 1) (1 + 3 * k + j)) := by
  unfold cs_Lines_cell_D
  have c1 : (1 : Int32).toInt = 1 := by decide
  have c3 : ((2 : Int32) + 1).toInt = 3 := by decide
  have m1 : (p1 * ((2 : Int32) + 1)).toInt = ((3 * k : Nat) : Int) := by
    rw [gb_tmul (by rw [e1, c3]; omega) (by rw [e1, c3]; omega), e1, c3]
    omega
  have m2 : ((1 : Int32) + p1 * ((2 : Int32) + 1)).toInt = ((1 + 3 * k : Nat) : Int) := by
    rw [gb_tadd (by rw [m1, c1]; omega) (by rw [m1, c1]; omega), m1, c1]
    omega
  have m3 : (((1 : Int32) + p1 * ((2 : Int32) + 1)) + p2).toInt = ((1 + 3 * k + j : Nat) : Int) := by
    rw [gb_tadd (by rw [m2, e2]; omega) (by rw [m2, e2]; omega), m2, e2]
    omega
  rw [gi_tn m3]
  exact hc_kk (fun _ => hc_ck (fun _ _ => hc_lt (fun x ex => hc_some ⟨rfl, ex⟩)))
theorem ch_pathSeen {n : Nat} {σ : gb_S} {k0 : Nat} {p1 : Int32} {k : Nat} (e1 : p1.toInt = k) (hk : k ≤ 1000) : gb_hc (cs_Dawn_pathSeen_D n σ k0 p1) (fun s r => s = σ ∧ r = σ.1 (k0 + 1) (2 + 3 * k)) := by
  unfold cs_Dawn_pathSeen_D
  refine hc_kk (fun _ => hc_cd (ch_cellD e1 hk (j := 1) (by decide) (by decide)) (fun s r h => hc_some ⟨h.1, ?_⟩))
  rw [h.2, show 1 + 3 * k + 1 = 2 + 3 * k by omega]
theorem ch_clash4 {n : Nat} {σ : gb_S} {k0 c : Nat} (hc : (σ.1 (k0 + 1) 0).toInt = c) (hc5 : c ≤ 5) (hp : ∀ k, k < c → gb_iv 0 4 (σ.1 (k0 + 1) (2 + 3 * k))) : ∀ (mm : Nat) (v1 v2 : Int32) (k : Nat), v2.toInt = k → k ≤ c → (∀ x, gb_iv 0 4 x → ((v1 &&& gb_bit x) = 0 ↔ ∀ i, i < k → ¬ σ.1 (k0 + 1) (2 + 3 * i) = x)) → (∀ i j, i < j → j < k → ¬ σ.1 (k0 + 1) (2 + 3 * i) = σ.1 (k0 + 1) (2 + 3 * j)) → gb_hc (cs_Dawn_clashes_D_4 n mm σ k0 v1 v2) (fun s r => s = σ ∧ ((¬ r = 0 ∧ ∃ i j, i < j ∧ j < c ∧ σ.1 (k0 + 1) (2 + 3 * i) = σ.1 (k0 + 1) (2 + 3 * j)) ∨ (r = 0 ∧ ¬ ∃ i j, i < j ∧ j < c ∧ σ.1 (k0 + 1) (2 + 3 * i) = σ.1 (k0 + 1) (2 + 3 * j)))) := by
  intro mm
  induction mm with
  | zero =>
    intros
    exact hc_none
  | succ mm ih =>
    intro v1 v2 k e2 hk hb hd
    rw [cs_Dawn_clashes_D_4]
    have t0 : Int32.toNatClampNeg 0 = 0 := by decide
    refine hc_kk (fun _ => hc_cd (P := fun s r => s = σ ∧ r = σ.1 (k0 + 1) 0) ?_ (fun s r h => ?_))
    · unfold cs_Lines_size_D
      exact hc_kk (fun _ => hc_lt (fun x ex => hc_some ⟨rfl, by rw [ex, t0]⟩))
    · obtain ⟨rfl, rfl⟩ := h
      refine hc_if (fun d => hc_some ⟨rfl, Or.inr ⟨rfl, fun z => ?_⟩⟩) (fun d => ?_)
      · have := gi_le d
        obtain ⟨i, j, z1, z2, z3⟩ := z
        exact hd i j z1 (by omega) z3
      · have hkc : k < c := by
          have := gi_nle d
          omega
        refine hc_cd (ch_pathSeen e2 (by omega)) (fun s2 r h2 => ?_)
        obtain ⟨rfl, rfl⟩ := h2
        refine hc_lt (fun x ex => ?_)
        have ex2 : x = gb_bit (s2.1 (k0 + 1) (2 + 3 * k)) := ex
        subst ex2
        have hpk := hp k hkc
        refine hc_if (fun g => hc_lt (fun y ey => hc_lt (fun z ez => ?_))) (fun g => hc_some ⟨rfl, Or.inl ⟨by decide, ?_⟩⟩)
        · have hno := (hb _ hpk).mp g
          refine ih y z (k + 1) (by rw [ez]; exact gi_s1 e2 (by omega)) (by omega) (fun x hx => ?_) (fun i j h1 h2 => ?_)
          · rw [ey, gb_bit2 hx hpk, hb x hx]
            constructor
            · intro q i hi
              by_cases qi : i = k
              · rw [qi]
                exact fun w => q.2 w.symm
              · exact q.1 i (by omega)
            · intro q
              exact ⟨fun i hi => q i (by omega), fun w => q k (by omega) w.symm⟩
          · by_cases qj : j = k
            · rw [qj]
              exact hno i (by omega)
            · exact hd i j h1 (by omega)
        · have hex : ∃ i, i < k ∧ s2.1 (k0 + 1) (2 + 3 * i) = s2.1 (k0 + 1) (2 + 3 * k) := Classical.byContradiction (fun q => g ((hb _ hpk).mpr (fun i hi w => q ⟨i, hi, w⟩)))
          obtain ⟨i, h1, h2⟩ := hex
          exact ⟨i, k, h1, hkc, h2⟩
theorem ch_clashD {n : Nat} {σ : gb_S} {k0 c : Nat} (hc : (σ.1 (k0 + 1) 0).toInt = c) (hc5 : c ≤ 5) (hp : ∀ k, k < c → gb_iv 0 4 (σ.1 (k0 + 1) (2 + 3 * k))) : gb_hc (cs_Dawn_clashes_D n σ k0) (fun s r => s = σ ∧ ((¬ r = 0 ∧ ∃ i j, i < j ∧ j < c ∧ σ.1 (k0 + 1) (2 + 3 * i) = σ.1 (k0 + 1) (2 + 3 * j)) ∨ (r = 0 ∧ ¬ ∃ i j, i < j ∧ j < c ∧ σ.1 (k0 + 1) (2 + 3 * i) = σ.1 (k0 + 1) (2 + 3 * j)))) := by
  unfold cs_Dawn_clashes_D
  refine hc_kk (fun _ => ch_clash4 hc hc5 hp n 0 0 0 (by decide) (Nat.zero_le _) (fun x hx => ⟨fun _ i hi => absurd hi (Nat.not_lt_zero _), fun _ => ?_⟩) (fun i j _ h => absurd h (Nat.not_lt_zero _)))
  rcases gb_or5 hx with rfl | rfl | rfl | rfl | rfl <;> decide
/-- at the first token of a line, on both sides -/
def gb_J (T : Nat → Int32) (N s a : Nat) (σ0 σ : gb_S) (f0 f : gb_F) : Prop := gb_rc T N σ ∧ (σ.1 106 3).toInt = a ∧ a ≤ N ∧ gb_ls T N a (σ.1 106 4, σ.1 106 5) f ∧ gb_RC s (σ.1 (96 + 2 * s + 1)) (f 3) ∧ gb_I s f ∧ (σ.1 106 4 = 0 → σ.1 106 5 = -1 ∧ gb_RS s (σ.1 (96 + 2 * s + 1)) (f 3) ∧ (s = 3 → (¬ f 0 9 = 0 ↔ gb_dup (f 3))) ∧ (s ≠ 3 → f 0 9 = 0)) ∧ gb_rfr s σ0 σ ∧ (f 2 = f0 2 ∧ ∀ j, j ≠ 5 → j ≠ 6 → f 1 j = f0 1 j)
/-- behind the last line -/
def gb_X (N s : Nat) (σ0 σ : gb_S) (f0 f : gb_F) : Prop := gb_rfr s σ0 σ ∧ (f 2 = f0 2 ∧ ∀ j, j ≠ 5 → j ≠ 6 → f 1 j = f0 1 j) ∧ gb_I s f ∧ ((¬ σ.1 106 4 = 0 ∧ σ.1 106 4 = f 1 5 ∧ σ.1 106 5 = f 1 6) ∨ (σ.1 106 4 = 4 ∧ σ.1 106 5 = f 0 4 ∧ f 1 5 = 0 ∧ ¬ f 0 9 = 0) ∨ (σ.1 106 4 = 0 ∧ σ.1 106 5 = -1 ∧ f 1 5 = 0 ∧ f 1 6 = -1 ∧ f 0 9 = 0 ∧ gb_RS s (σ.1 (96 + 2 * s + 1)) (f 3)))
theorem ff_e {l : Nat} {qs : Nat → Nat} {vs : Nat → Int} {fp : Int32 × Int32} : ∀ i, (gb_ff l qs vs fp i).1 = 0 → gb_ff l qs vs fp i = fp := by
  intro i
  induction i with
  | zero =>
    intro _
    rfl
  | succ i ih =>
    intro h
    have h' : (if gb_can l i (vs i) (vs 0) then gb_ff l qs vs fp i else gb_note (gb_ff l qs vs fp i) 2 (qs i)).1 = 0 := h
    show (if gb_can l i (vs i) (vs 0) then gb_ff l qs vs fp i else gb_note (gb_ff l qs vs fp i) 2 (qs i)) = fp
    by_cases c : gb_can l i (vs i) (vs 0)
    · rw [if_pos c] at h' ⊢
      exact ih h'
    · rw [if_neg c] at h'
      exact absurd h' (note_0 (by decide))
theorem mh_lineF {n : Nat} (hn : gb_N ≤ n) {s : Nat} {f : gb_F} {w : Int64} (hs : s ≤ 3) (hI : gb_I s f) : gb_hm (gb_line n s f w) (fun f2 _ _ => gb_L s f f2 ∧ f2 2 = f 2) := by
  have sm : gb_sm (fun g => g 2 = f 2) := ⟨fun g F h => h, fun g k F hk h => (gb_un (by omega)).trans h⟩
  have s5 : gb_w5c (fun g => g 2 = f 2) := fun g v h => ⟨h, h⟩
  unfold gb_line
  have hs4 : s = 0 ∨ s = 1 ∨ s = 2 ∨ s = 3 := by omega
  rcases hs4 with rfl | rfl | rfl | rfl
  · rw [if_pos rfl]
    exact hm_and (hm_of (mi_borderLine hn hI)) (hm_pm (cm_borderLine (P := fun g => g 2 = f 2) sm s5 rfl))
  · rw [if_neg (by decide), if_pos rfl]
    exact hm_and (hm_of (mi_deedLine hn hI)) (hm_pm (cm_deedLine (P := fun g => g 2 = f 2) sm s5 rfl))
  · rw [if_neg (by decide), if_neg (by decide), if_pos rfl]
    exact hm_and (hm_of (mi_termLine hn hI)) (hm_pm (cm_termLine (P := fun g => g 2 = f 2) sm s5 rfl))
  · rw [if_neg (by decide), if_neg (by decide), if_neg (by decide)]
    exact hm_and (hm_of (mi_seenLine hn hI)) (hm_pm (cm_seenLine (P := fun g => g 2 = f 2) sm s5 rfl))
theorem tk_end {T : Nat → Int32} {N q : Nat} {f : gb_F} (h : gb_tk T N f q) : f 0 5 = 0 ↔ q = N := by
  obtain ⟨t1, t2, t3, t4⟩ := h
  constructor
  · intro z
    rcases t4 with y | y | y | y
    · exact y.1
    · obtain ⟨e, -, -, -, y4⟩ := y
      rcases y4 with y4 | y4
      · obtain ⟨l, -, -, y5, -⟩ := y4
        rw [z] at y5
        exact absurd y5 (by decide)
      · rw [z] at y4
        exact absurd y4.2 (by decide)
    · obtain ⟨e, -, -, -, y4⟩ := y
      rcases y4 with y4 | y4
      · rw [z] at y4
        exact absurd y4.2 (by decide)
      · rw [z] at y4
        exact absurd y4.2.1 (by decide)
    · rcases y.2.2.2.2 with y4 | y4
      · rw [z] at y4
        exact absurd y4.2 (by decide)
      · rw [z] at y4
        exact absurd y4.2 (by decide)
  · intro z
    rcases t4 with y | y | y | y
    · exact y.2
    · obtain ⟨e, y1, y2, -⟩ := y
      have := (y1.2.1 _ (Nat.le_refl _) y2).1
      omega
    · obtain ⟨e, y1, y2, -⟩ := y
      have := (y1.2.1 _ (Nat.le_refl _) y2).1
      omega
    · omega
/-- the reference behind its loop: its state there, and what its end makes of it -/
def gb_E1 (n N s : Nat) (v1 v2 : Int32) (σ0 σ2 : gb_S) (f0 : gb_F) (f2 : gb_F) (w2 : Int64) (r : Int32) : Prop := ∃ (fE : gb_F) (wE : Int64), gb_X N s σ0 σ2 f0 fE ∧ ms_text_178 n fE wE v1 v2 = some (f2, w2, r)
theorem mh_122 {n : Nat} {s : Nat} {v1 v2 : Int32} {f : gb_F} {w : Int64} {Q : gb_F → Int64 → Int32 → Prop} (h1 : v1.toInt = s) (hs : s ≤ 3) (h8 : f 0 8 = 0) (h5 : ¬ f 0 5 = 0) (K : ∀ m, gb_hm (gb_bd (gb_line n s f w) (fun f2 w2 _ => ms_text_122 n m f2 w2 v1 v2)) Q) : ∀ mm, gb_hm (ms_text_122 n mm f w v1 v2) Q := by
  intro mm
  cases mm with
  | zero => exact hm_none
  | succ m =>
    rw [ms_text_122, if_pos h8, if_neg h5]
    have := K m
    unfold gb_line at this
    rcases gb_so h1 hs with ⟨e, rfl⟩ | ⟨e, rfl⟩ | ⟨e, rfl⟩ | ⟨e, rfl⟩
    · rw [if_pos rfl] at this
      rw [if_pos e]
      exact this
    · rw [if_neg (by decide), if_pos rfl] at this
      rw [if_neg (by rw [e]; decide), if_pos e]
      exact this
    · rw [if_neg (by decide), if_neg (by decide), if_pos rfl] at this
      rw [if_neg (by rw [e]; decide), if_neg (by rw [e]; decide), if_pos e]
      exact this
    · rw [if_neg (by decide), if_neg (by decide), if_neg (by decide)] at this
      rw [if_neg (by rw [e]; decide), if_neg (by rw [e]; decide), if_neg (by rw [e]; decide)]
      exact this
theorem mh_122e {n : Nat} {v1 v2 : Int32} {f : gb_F} {w : Int64} {Q : gb_F → Int64 → Int32 → Prop} (h : ¬ f 0 8 = 0 ∨ f 0 5 = 0) (K : gb_hm (ms_text_178 n f w v1 v2) Q) : ∀ mm, gb_hm (ms_text_122 n mm f w v1 v2) Q := by
  intro mm
  cases mm with
  | zero => exact hm_none
  | succ m =>
    rw [ms_text_122]
    by_cases h8 : f 0 8 = 0
    · rcases h with z | z
      · exact absurd h8 z
      · rw [if_pos h8, if_pos z]
        exact K
    · rw [if_neg h8]
      exact K
theorem gt_R0s {s : Nat} {x : Int32} (hs : s ≤ 3) (h : gb_iv (gt_R s 0).1 (gt_R s 0).2 x) : gb_iv 0 24 x ∧ (s = 3 → gb_iv 0 5 x) ∧ (s = 0 → gb_iv 0 5 x) := by
  have hs4 : s = 0 ∨ s = 1 ∨ s = 2 ∨ s = 3 := by omega
  rcases hs4 with rfl | rfl | rfl | rfl
  · exact ⟨gb_iw h (by decide), fun z => absurd z (by decide), fun _ => gb_iw h (by decide)⟩
  · exact ⟨gb_iw h (by decide), fun z => absurd z (by decide), fun z => absurd z (by decide)⟩
  · exact ⟨gb_iw h (by decide), fun z => absurd z (by decide), fun z => absurd z (by decide)⟩
  · exact ⟨gb_iw h (by decide), fun _ => gb_iw h (by decide), fun z => absurd z (by decide)⟩
/-- the end of the class's loop: is a PATH seen twice? -/
theorem ch_last {n : Nat} {T : Nat → Int32} {N s : Nat} {σ0 σ : gb_S} {f0 f : gb_F} (hs : s ≤ 3) (hJ : gb_J T N s N σ0 σ f0 f) : gb_hc (if (σ.1 106 4) = 0 then (if gb_kB (96 + 2 * s) = true then gb_cd (cs_Border_clashes_B n σ (96 + 2 * s)) (fun s_19 r_20 => (if r_20 = 0 then some (s_19, ()) else gb_cd (cs_Reader_note n s_19 4 (s_19.1 106 2)) (fun s_24 _ => some (s_24, ())))) else (if gb_kN (96 + 2 * s) = true then gb_cd (cs_Lines_clashes_N n σ (96 + 2 * s)) (fun s_29 r_30 => (if r_30 = 0 then some (s_29, ()) else gb_cd (cs_Reader_note n s_29 4 (s_29.1 106 2)) (fun s_34 _ => some (s_34, ())))) else (if gb_kL (96 + 2 * s) = true then gb_cd (cs_Lines_clashes_L n σ (96 + 2 * s)) (fun s_39 r_40 => (if r_40 = 0 then some (s_39, ()) else gb_cd (cs_Reader_note n s_39 4 (s_39.1 106 2)) (fun s_44 _ => some (s_44, ())))) else (if gb_kD (96 + 2 * s) = true then gb_cd (cs_Dawn_clashes_D n σ (96 + 2 * s)) (fun s_49 r_50 => (if r_50 = 0 then some (s_49, ()) else gb_cd (cs_Reader_note n s_49 4 (s_49.1 106 2)) (fun s_54 _ => some (s_54, ())))) else none)))) else (some (σ, ()) : gb_CR Unit)) (fun σ2 _ => gb_X N s σ0 σ2 f0 f) := by
  obtain ⟨hx, ha, hN, ⟨l1, l2, l3, l4, l5⟩, hC, hI, hS, hr, hk⟩ := hJ
  have p1 : σ.1 106 4 = f 1 5 := (congrArg Prod.fst l4).symm
  have p2 : σ.1 106 5 = f 1 6 := (congrArg Prod.snd l4).symm
  refine hc_if (fun c => ?_) (fun c => hc_some ⟨hr, hk, hI, Or.inl ⟨c, p1, p2⟩⟩)
  obtain ⟨q1, q2, q3, q4⟩ := hS c
  have plain : s ≠ 3 → ∀ (x : gb_CR Int32), gb_hc x (fun s2 r => s2 = σ ∧ r = 0) → gb_hc (gb_cd x (fun s_19 r_20 => (if r_20 = 0 then (some (s_19, ()) : gb_CR Unit) else gb_cd (cs_Reader_note n s_19 4 (s_19.1 106 2)) (fun s_24 _ => some (s_24, ()))))) (fun σ2 _ => gb_X N s σ0 σ2 f0 f) := fun h3 x hx => by
    refine hc_cd hx (fun s2 r g => ?_)
    obtain ⟨rfl, rfl⟩ := g
    rw [if_pos rfl]
    exact hc_some ⟨hr, hk, hI, Or.inr (Or.inr ⟨c, q1, by rw [← p1]; exact c, by rw [← p2]; exact q1, q4 h3, q2⟩)⟩
  rcases gb_kind hs with ⟨hs0, hkk⟩ | ⟨hs0, hkk⟩ | ⟨hs0, hkk⟩ | ⟨hs0, hkk⟩
  · rw [if_pos hkk]
    refine plain (by omega) _ ?_
    unfold cs_Border_clashes_B
    exact hc_kk (fun _ => hc_some ⟨rfl, rfl⟩)
  · rw [if_neg (gc_BN hkk), if_pos hkk]
    refine plain (by omega) _ ?_
    unfold cs_Lines_clashes_N
    exact hc_kk (fun _ => hc_some ⟨rfl, rfl⟩)
  · rw [if_neg (gc_BL hkk).1, if_neg (gc_BL hkk).2, if_pos hkk]
    refine plain (by omega) _ ?_
    unfold cs_Lines_clashes_L
    exact hc_kk (fun _ => hc_some ⟨rfl, rfl⟩)
  · rw [if_neg (gc_BD hkk).1, if_neg (gc_BD hkk).2.1, if_neg (gc_BD hkk).2.2, if_pos hkk]
    subst hs0
    have i5 := (gt_R0s (s := 3) (by decide) hI.2.1.1).2.1 rfl
    obtain ⟨cn, ec, -⟩ := gi_nn i5.1
    have i52 := i5.2
    have hRc : (f 3 0).toInt.toNat = cn := by omega
    have hG0 : (σ.1 (96 + 2 * 3 + 1) 0).toInt = cn := by rw [q2.1]; exact ec
    have rs3 := q2.2.2.2 rfl
    rw [hRc] at rs3
    have hrng : ∀ k, k < cn → gb_iv 0 4 (f 3 (1 + 2 * k)) := fun k hk => by
      have := hI.2.2.1 l1 (1 + 2 * k) (by omega)
      have e := gt_R3s (c := k) (i := 0) (by decide)
      rw [if_pos rfl, Nat.add_zero] at e
      rw [e] at this
      exact this
    have deq : (∃ i j, i < j ∧ j < cn ∧ σ.1 (96 + 2 * 3 + 1) (2 + 3 * i) = σ.1 (96 + 2 * 3 + 1) (2 + 3 * j)) ↔ gb_dup (f 3) := by
      unfold gb_dup
      rw [hRc]
      constructor
      · intro h
        obtain ⟨i, j, h1, h2, h3⟩ := h
        exact ⟨i, j, h1, h2, by rw [← (rs3 i (by omega)).1, ← (rs3 j h2).1]; exact h3⟩
      · intro h
        obtain ⟨i, j, h1, h2, h3⟩ := h
        exact ⟨i, j, h1, h2, by rw [(rs3 i (by omega)).1, (rs3 j h2).1]; exact h3⟩
    refine hc_cd (ch_clashD hG0 (by omega) (fun k hk => by rw [(rs3 k hk).1]; exact hrng k hk)) (fun s2 r g => ?_)
    obtain ⟨rfl, g⟩ := g
    rw [deq, ← q3 rfl] at g
    refine hc_if (fun z => hc_some ⟨hr, hk, hI, Or.inr (Or.inr ⟨c, q1, by rw [← p1]; exact c, by rw [← p2]; exact q1, ?_, q2⟩)⟩) (fun z => ?_)
    · rcases g with g | g
      · exact absurd z g.1
      · exact Classical.byContradiction (fun y => g.2 y)
    · have tw : ¬ f 0 9 = 0 := by
        rcases g with g | g
        · exact g.2
        · exact absurd g.1 z
      refine hc_cd (ch_note (q := N) hx.2.1 hx.2.2.1) (fun s3 _ g3 => hc_some ?_)
      obtain ⟨n1, n2, n3, n4⟩ := g3
      unfold gb_note at n4
      rw [if_pos c] at n4
      have n4a : s3.1 106 4 = 4 := congrArg Prod.fst n4
      have n4b : s3.1 106 5 = nI N := congrArg Prod.snd n4
      refine ⟨⟨n1.trans hr.1, fun k k1 k2 k3 => (n2 k k1).trans (hr.2.1 k k1 k2 k3), (n3 2 (by decide) (by decide)).trans hr.2.2⟩, hk, hI, Or.inr (Or.inl ⟨n4a, ?_, by rw [← p1]; exact c, tw⟩)⟩
      have hN6 := hx.2.2.1
      rw [n4b]
      exact gb_ieq (by rw [nI_toInt (by omega), l3.1])
/-! BOTH SIDES: all lines of a tape -/
set_option maxHeartbeats 4000000 in
theorem ch_read42 {n : Nat} (hn : gb_N ≤ n) {T : Nat → Int32} {N s : Nat} {σ0 : gb_S} {f0 : gb_F} {v1 v2 v3 : Int32} (h3 : v3.toInt = s) (h1 : v1.toInt = s) (hs : s ≤ 3) : ∀ (mm : Nat) (σ : gb_S) (v5 : Int32) (a c : Nat) (f : gb_F), gb_J T N s a σ0 σ f0 f → v5.toInt = c → c ≤ a → gb_hc (cs_Reader_read_c23_S_42 n mm σ v3 (96 + 2 * s) v5) (fun σ2 _ => ∀ (m : Nat) (w : Int64), gb_hm (ms_text_122 n m f w v1 v2) (fun f2 w2 r => gb_E1 n N s v1 v2 σ0 σ2 f0 f2 w2 r)) := by
  intro mm
  induction mm with
  | zero =>
    intros
    exact hc_none
  | succ mm ih =>
    intro σ v5 a c f hJ e5 hca
    rw [cs_Reader_read_c23_S_42]
    have hJ0 := hJ
    obtain ⟨hx, ha, haN, hls, hC, hI, hS, hr, hk⟩ := hJ
    have hN := hx.2.2.1
    have hlen := hx.2.1
    have c600 : (600 : Int32).toInt = 600 := by decide
    obtain ⟨l1, l2, l3, l4, l5⟩ := hls
    have last : a = N → gb_hc (if (σ.1 106 4) = 0 then (if gb_kB (96 + 2 * s) = true then gb_cd (cs_Border_clashes_B n σ (96 + 2 * s)) (fun s_19 r_20 => (if r_20 = 0 then some (s_19, ()) else gb_cd (cs_Reader_note n s_19 4 (s_19.1 106 2)) (fun s_24 _ => some (s_24, ())))) else (if gb_kN (96 + 2 * s) = true then gb_cd (cs_Lines_clashes_N n σ (96 + 2 * s)) (fun s_29 r_30 => (if r_30 = 0 then some (s_29, ()) else gb_cd (cs_Reader_note n s_29 4 (s_29.1 106 2)) (fun s_34 _ => some (s_34, ())))) else (if gb_kL (96 + 2 * s) = true then gb_cd (cs_Lines_clashes_L n σ (96 + 2 * s)) (fun s_39 r_40 => (if r_40 = 0 then some (s_39, ()) else gb_cd (cs_Reader_note n s_39 4 (s_39.1 106 2)) (fun s_44 _ => some (s_44, ())))) else (if gb_kD (96 + 2 * s) = true then gb_cd (cs_Dawn_clashes_D n σ (96 + 2 * s)) (fun s_49 r_50 => (if r_50 = 0 then some (s_49, ()) else gb_cd (cs_Reader_note n s_49 4 (s_49.1 106 2)) (fun s_54 _ => some (s_54, ())))) else none)))) else (some (σ, ()) : gb_CR Unit)) (fun σ2 _ => ∀ (m : Nat) (w : Int64), gb_hm (ms_text_122 n m f w v1 v2) (fun f2 w2 r => gb_E1 n N s v1 v2 σ0 σ2 f0 f2 w2 r)) := fun haE => by
      subst haE
      refine hc_mono (ch_last hs hJ0) (fun σ2 _ hX m w => ?_)
      exact mh_122e (Or.inr ((tk_end l3).mpr rfl)) (fun f2 w2 r e => ⟨f, w, hX, e⟩) m
    refine hc_if (fun g => last ?_) (fun g => hc_if (fun g2 => last ?_) (fun g2 => ?_))
    · have := gi_le g
      omega
    · have := gi_le g2
      omega
    · have haN2 : a < N := by
        have := gi_nle g2
        omega
      have h05 : ¬ f 0 5 = 0 := fun z => by
        have := (tk_end l3).mp z
        omega
      have i0 := gt_R0s hs hI.2.1.1
      have i00 := i0.1.1
      have hls2 : gb_ls T N a (σ.1 106 4, σ.1 106 5) f := ⟨l1, l2, l3, l4, l5⟩
      have g0 : 0 ≤ (σ.1 (96 + 2 * s + 1) 0).toInt := by rw [hC.1]; exact i00
      have g1 : s = 0 → 0 ≤ (σ.1 (96 + 2 * s + 1) 1).toInt := fun z => by rw [hC.2 z]; exact (hI.2.1.2 z).1
      refine hc_cd (ch_readLine hx h3 hs ha haN g0 g1) (fun s1 r hl => ?_)
      rcases hl with ⟨rz, q, hb, hq, hqN, hfr⟩ | ⟨rz, l, ps, qs, vs, e, V, fp, hg, he, hfr, hV, had, hfp, hff⟩
      · -- the line can't be read
        rw [if_pos rz]
        refine hc_lt (fun s2 e2 => hc_lt (fun s3 e3 => hc_some (fun m w => ?_)))
        have z4 : s3.1 106 4 = 1 := by rw [e3, gb_sus, pk_un (by decide), e2, gb_sus, pk_us]
        have z5 : s3.1 106 5 = nI q := by
          rw [e3, gb_sus, pk_us, e2, gb_sus, pk_un (by decide)]
          exact gb_ieq (by rw [hq, nI_toInt (by omega)])
        have z2 : s3.1 106 2 = s1.1 106 2 := by rw [e3, gb_sus, pk_un (by decide), e2, gb_sus, pk_un (by decide)]
        have zn : ∀ k, k ≠ 106 → s3.1 k = s1.1 k := fun k hk => by rw [e3, gb_sun hk, e2, gb_sun hk]
        have zs : s3.2 = s1.2 := by rw [e3, e2]; rfl
        have fr : gb_rfr s σ0 s3 := ⟨zs.trans (hfr.1.trans hr.1), fun k k1 k2 k3 => (zn k k1).trans ((hfr.2.1 k k1 k2 k3).trans (hr.2.1 k k1 k2 k3)), z2.trans (hfr.2.2.trans hr.2.2)⟩
        have wr : ∀ w, gb_hm (gb_line n s f w) (fun f2 _ _ => gb_W1 q f2) := fun w => by
          rcases hb with ⟨hb1, hb2⟩ | ⟨l, ps, qs, vs, i, hw, hns, hb⟩
          · rw [hb1]
            exact mh_noword hs hls2 hb2
          · have hfp3 : ∃ fp2, gb_fp3 s l a (f 3) (σ.1 106 4, σ.1 106 5) fp2 := by
              by_cases rm : gb_room s l (f 3)
              · exact ⟨_, Or.inl ⟨rm, rfl⟩⟩
              · exact ⟨_, Or.inr ⟨rm, rfl⟩⟩
            obtain ⟨fp2, hfp3⟩ := hfp3
            rcases hb with ⟨b1, b2⟩ | ⟨b1, b2⟩
            · refine hm_mono (mh_line (Qb := q) hs hls2 hw ⟨hns, by omega, fun _ => b2⟩ hfp3 i0.1 i0.2.1 (fun z => (hI.2.1.2 z).1)) (fun f2 _ _ g => ?_)
              rcases g with g | g
              · exact g.2
              · omega
            · subst b1
              refine hm_mono (mh_line (Qb := q) hs hls2 hw ⟨hns, Nat.le_refl _, fun z => absurd z (Nat.lt_irrefl _)⟩ hfp3 i0.1 i0.2.1 (fun z => (hI.2.1.2 z).1)) (fun f2 _ _ g => ?_)
              rcases g with g | ⟨-, g | g⟩
              · exact absurd g.1 (Nat.lt_irrefl _)
              · obtain ⟨q2, y1, -⟩ := g
                have := run_uq y1.1 b2.1
                subst this
                exact absurd y1.2 b2.2
              · obtain ⟨q2, y1, y2⟩ := g
                have := run_uq y1.1 b2.1
                subst this
                exact y2
        refine mh_122 h1 hs l1 h05 (fun m2 => hm_bd (hm_and (wr w) (mh_lineF hn hs hI)) (fun f2 w2 _ g => ?_)) m
        obtain ⟨gw, gL, g2'⟩ := g
        refine mh_122e (Or.inl gw.1) (fun f3 w3 r3 e3' => ⟨f2, w2, ⟨fr, ⟨g2'.trans hk.1, fun j j1 j2 => (gL.2.1.2.2 j j1 j2).trans (hk.2 j j1 j2)⟩, gL.1, Or.inl ⟨by rw [z4]; decide, z4.trans gw.2.1.symm, z5.trans gw.2.2.symm⟩⟩, e3'⟩) m2
      · -- a line stands here
        rw [if_neg (by rw [rz]; decide)]
        obtain ⟨hw, hns, q, hsm, eq⟩ := hg
        have hx1 : gb_rc T N s1 := ⟨by rw [hfr.1]; exact hx.1, by rw [hfr.2.2]; exact hlen, hN, fun i hi => by rw [hfr.2.1 23 (by decide) (by decide) (by omega)]; exact hx.2.2.2 i hi⟩
        have heN : e ≤ N := by
          have := hsm.2.1
          omega
        have hale : a < e := by
          have w1 := hw.2.2.2.1
          have w2 := gb_ln_le l (by have := gb_fl18 (s := s + 1) (by omega); have := hw.2.1; omega)
          have w3 := hsm.1.1
          have w4 : ∀ i, i ≤ gb_kn l → ps 0 ≤ ps i := by
            intro i
            induction i with
            | zero => intro _; exact Nat.le_refl _
            | succ i ihh =>
              intro hi
              have a1 := ihh (by omega)
              have a2 := num_le (hns i (by omega))
              omega
          have w5 := w4 _ (Nat.le_refl _)
          omega
        refine hc_cd (ch_skip hx1 he heN) (fun s2 _ hsk => hc_lt (fun y ey => ?_))
        obtain ⟨a2, hrun, ha2N, hat⟩ := hsk
        have hx2 := rc_at hx1 hat
        have he2 := hrun.1
        have hfr2 : gb_rfr s σ0 s2 := ⟨hat.1.trans (hfr.1.trans hr.1), fun k k1 k2 k3 => (hat.2.1 k k1).trans ((hfr.2.1 k k1 k2 k3).trans (hr.2.1 k k1 k2 k3)), (hat.2.2.1 2 (by decide)).trans (hfr.2.2.trans hr.2.2)⟩
        have hD2 : s2.1 (96 + 2 * s + 1) = s1.1 (96 + 2 * s + 1) := hat.2.1 _ (by omega)
        have hff2 : (s2.1 106 4, s2.1 106 5) = gb_ff l qs vs fp (gb_kn l) := by rw [hat.2.2.1 4 (by decide), hat.2.2.1 5 (by decide)]; exact hff
        have rr := room_rc (l := l) hC
        have hfp3 : gb_fp3 s l a (f 3) (σ.1 106 4, σ.1 106 5) fp := by
          rcases hfp with z | z
          · exact Or.inl ⟨rr.mp z.1, z.2⟩
          · exact Or.inr ⟨fun y => z.1 (rr.mpr y), z.2⟩
        -- the same on both sides at the next line
        have next : ∀ f2 : gb_F, gb_ml T N s l ps qs vs (gb_kn l) 0 fp f f2 → gb_L s f f2 → f2 2 = f 2 → gb_J T N s a2 σ0 s2 f0 f2 := by
          intro f2 g gL g2'
          rcases g with g | ⟨-, g | g⟩
          · exact absurd g.1 (Nat.lt_irrefl _)
          · obtain ⟨q2, y1, y2, ⟨y3, q3, y31, y32⟩, y4, y5, U, y6, y7, y8⟩ := g
            have := run_uq y1.1 hsm.1
            subst this
            rw [← eq] at y31 y5
            have := run_uq y31 hrun
            subst this
            have hRC2 : gb_RC s (s2.1 (96 + 2 * s + 1)) (f2 3) := by
              rw [hD2]
              exact rc_add hs hC had y7
            refine ⟨hx2, hat.2.2.2, ha2N, ⟨y2, y3, y32, by rw [hff2]; exact y4, fun z => ?_⟩, hRC2, gL.1, fun z => ?_, hfr2, ⟨g2'.trans hk.1, fun j j1 j2 => (gL.2.1.2.2 j j1 j2).trans (hk.2 j j1 j2)⟩⟩
            · rw [hff2] at z ⊢
              have := y5 z
              omega
            · have hz : (gb_ff l qs vs fp (gb_kn l)).1 = 0 := by rw [← hff2]; exact z
              have fe := ff_e _ hz
              have fz : fp.1 = 0 := by rw [← fe]; exact hz
              obtain ⟨rm, fpE⟩ : gb_room s l (f 3) ∧ fp = (σ.1 106 4, σ.1 106 5) := by
                rcases hfp3 with w | w
                · exact w
                · rw [w.2] at fz
                  exact absurd fz (note_0 (by decide))
              have old : σ.1 106 4 = 0 := by
                rw [fpE] at fz
                exact fz
              obtain ⟨o1, o2, o3, o4⟩ := hS old
              have hUV : ∀ j, j < gb_kn l → V j = U j := fun j hj => gb_ieq ((hV j hj).trans (y6 hz j hj).symm)
              have p5 : s2.1 106 5 = -1 := by
                have : (s2.1 106 4, s2.1 106 5).2 = -1 := by
                  rw [hff2, fe, fpE]
                  exact o1
                exact this
              refine ⟨p5, ?_, fun s3 => ?_, fun s3 => ?_⟩
              · rw [hD2]
                exact rs_add hs hw.1 hw.2.1 o2 i0.1 (fun w => ⟨hI.2.1.2 w, i0.2.2 w⟩) hUV had y7
              · subst s3
                have l17 : l = 17 := by
                  have w1 : 17 ≤ l := hw.1
                  have w2 : l < 18 := hw.2.1
                  omega
                subst l17
                rcases y8 with w | w
                · exact absurd rfl w.1
                · rw [w.2, o3 rfl, dup_add i0.1 rm y7]
              · rcases y8 with w | w
                · rw [w.2]
                  exact o4 s3
                · exact absurd w.1 s3
          · obtain ⟨q2, y1, -⟩ := g
            have := run_uq y1.1 hsm.1
            subst this
            exact absurd hsm.2 y1.2
        -- the class goes on; the reference, too
        intro σ2 rr2 hrun2 m w
        refine mh_122 h1 hs l1 h05 (fun m2 => hm_bd (hm_and (mh_line (Qb := 0) hs hls2 hw ⟨hns, Nat.le_refl _, fun z => absurd z (Nat.lt_irrefl _)⟩ hfp3 i0.1 i0.2.1 (fun z => (hI.2.1.2 z).1)) (mh_lineF hn hs hI)) (fun f2 w2 _ g => ?_)) m
        obtain ⟨g1', gL, g2'⟩ := g
        exact ih s2 y a2 (c + 1) f2 (next f2 g1' gL g2') (by rw [ey]; exact gi_s1 e5 (by omega)) (by omega) σ2 rr2 hrun2 m2 w2
/-! ALL THAT IS TOLD: the relation of both sides, kept by every call -/
def gb_RT (c : Nat → Nat → Int32) (F : Nat → Int32) : Prop := (∀ j, j < 4 → c 21 j = F j) ∧ c 0 6 = F 4 ∧ c 0 7 = F 5 ∧ c 0 8 = F 6 ∧ (∀ i, i < 600 → gb_byr (c 22 i) (F (10 + i))) ∧ ∀ s m, s < 4 → m < (F s).toInt.toNat → gb_RS s (c (gb_o s m)) (fun j => F (gb_pl s m + j))
def gb_R (σ : gb_S) (f : gb_F) : Prop := gb_RT (fun d => σ.1 (1 + d)) (f 1) ∧ (∀ k, k < 3 → (σ.1 94 k = 0 ↔ f 2 k = 0)) ∧ ∀ k, k < 3 → ¬ f 2 k = 0 → gb_RT (fun d => σ.1 (25 + 23 * k + d)) (fun i => f 1 (992 * (k + 1) + i))
def gb_rg (s : Nat) (R : Nat → Int32) : Prop := (s = 0 → gb_iv 0 5 (R 0) ∧ gb_iv 0 8 (R 1)) ∧ (s = 1 → gb_iv 0 24 (R 0)) ∧ (s = 2 → gb_iv 0 8 (R 0)) ∧ (s = 3 → gb_iv 0 5 (R 0))
theorem rs_ext {s : Nat} {G G2 R R2 : Nat → Int32} (hs : s ≤ 3) (h : gb_RS s G R) (rg : gb_rg s R) (hG : ∀ j, j < gb_gz s → G2 j = G j) (hR : ∀ j, j < gb_sz s → R2 j = R j) : gb_RS s G2 R2 := by
  obtain ⟨h0, h1, h2, h3⟩ := h
  have hs4 : s = 0 ∨ s = 1 ∨ s = 2 ∨ s = 3 := by omega
  rcases hs4 with rfl | rfl | rfl | rfl
  · have z : gb_gz 0 = 58 := rfl
    have z2 : gb_sz 0 = 58 := rfl
    obtain ⟨a1, a2, a3, a4⟩ := h1 rfl
    obtain ⟨⟨b1, b2⟩, b3, b4⟩ := rg.1 rfl
    refine ⟨by rw [hG 0 (by omega), hR 0 (by omega)]; exact h0, fun _ => ⟨by rw [hG 1 (by omega), hR 1 (by omega)]; exact a1, by rw [hG 2 (by omega), hR 2 (by omega)]; exact a2, fun p j p1 p2 => ?_, fun g j p1 p2 => ?_⟩, fun w => by omega, fun w => by omega⟩
    · rw [hR 0 (by omega)] at p1
      rw [hG _ (by omega), hR _ (by omega)]
      exact a3 p j p1 p2
    · rw [hR 1 (by omega)] at p1
      rw [hG _ (by omega), hR _ (by omega)]
      exact a4 g j p1 p2
  · have z : gb_gz 1 = 97 := rfl
    have z2 : gb_sz 1 = 97 := rfl
    have zw : gb_wid 1 = 4 := rfl
    obtain ⟨b1, b2⟩ := rg.2.1 rfl
    refine ⟨by rw [hG 0 (by omega), hR 0 (by omega)]; exact h0, fun w => by omega, fun _ i hi => ?_, fun w => by omega⟩
    rw [hR 0 (by omega), zw] at hi
    rw [hG _ (by omega), hR _ (by omega)]
    exact h2 (Or.inl rfl) i (by rw [zw]; exact hi)
  · have z : gb_gz 2 = 25 := rfl
    have z2 : gb_sz 2 = 25 := rfl
    have zw : gb_wid 2 = 3 := rfl
    obtain ⟨b1, b2⟩ := rg.2.2.1 rfl
    refine ⟨by rw [hG 0 (by omega), hR 0 (by omega)]; exact h0, fun w => by omega, fun _ i hi => ?_, fun w => by omega⟩
    rw [hR 0 (by omega), zw] at hi
    rw [hG _ (by omega), hR _ (by omega)]
    exact h2 (Or.inr rfl) i (by rw [zw]; exact hi)
  · have z : gb_gz 3 = 16 := rfl
    have z2 : gb_sz 3 = 11 := rfl
    obtain ⟨b1, b2⟩ := rg.2.2.2 rfl
    refine ⟨by rw [hG 0 (by omega), hR 0 (by omega)]; exact h0, fun w => by omega, fun w => by omega, fun _ k hk => ?_⟩
    rw [hR 0 (by omega)] at hk
    rw [hG _ (by omega), hG _ (by omega), hR _ (by omega), hR _ (by omega)]
    exact h3 rfl k hk
theorem rg_of {s : Nat} {R : Nat → Int32} (hs : s ≤ 3) (h : ∀ j, j < gb_sz s → gb_iv (gt_R s j).1 (gt_R s j).2 (R j)) : gb_rg s R := by
  refine ⟨fun z => ?_, fun z => ?_, fun z => ?_, fun z => ?_⟩
  · subst z
    exact ⟨gb_iw (h 0 (by decide)) (by decide), gb_iw (h 1 (by decide)) (by decide)⟩
  · subst z
    exact gb_iw (h 0 (by decide)) (by decide)
  · subst z
    exact gb_iw (h 0 (by decide)) (by decide)
  · subst z
    exact gb_iw (h 0 (by decide)) (by decide)
theorem rg_F {F : Nat → Int32} {s m q : Nat} (hT : gb_T1 F) (hs : s ≤ 3) (hm : m ≤ 1) : gb_rg s (fun j => F (992 * q + (gb_pl s m + j))) := by
  refine rg_of hs (fun j hj => ?_)
  have h := hT (992 * q + (gb_pl s m + j))
  have e : (992 * q + (gb_pl s m + j)) % 992 = (gb_pl s m + j) % 992 := by omega
  rw [e, (gt_1R hs hm hj).1] at h
  exact h
theorem hl_2 {F : Nat → Int32} {s q : Nat} (hT : gb_T1 F) (hs : s < 4) : gb_iv 0 2 (F (992 * q + s)) := by
  have h := hT (992 * q + s)
  have e : (992 * q + s) % 992 < 4 := by omega
  unfold gt_1 at h
  rw [if_pos e] at h
  exact h
/-- a copy of what is told is told alike -/
theorem rt_ext {c c2 : Nat → Nat → Int32} {F F2 : Nat → Int32} {q : Nat} {F0 : Nat → Int32} (hT : gb_T1 F0) (hF : ∀ i, F i = F0 (992 * q + i)) (h : gb_RT c F) (h1 : ∀ s m, s < 4 → m < 2 → ∀ j, j < gb_gz s → c2 (gb_o s m) j = c (gb_o s m) j) (h2 : ∀ j, j < 4 → c2 21 j = c 21 j) (h3 : ∀ j, j < 600 → c2 22 j = c 22 j) (h4 : c2 0 6 = c 0 6 ∧ c2 0 7 = c 0 7 ∧ c2 0 8 = c 0 8) (h5 : ∀ i, i < 992 → F2 i = F i) : gb_RT c2 F2 := by
  obtain ⟨a1, a2, a3, a4, a5, a6⟩ := h
  refine ⟨fun j hj => by rw [h2 j hj, h5 j (by omega)]; exact a1 j hj, by rw [h4.1, h5 4 (by omega)]; exact a2, by rw [h4.2.1, h5 5 (by omega)]; exact a3, by rw [h4.2.2, h5 6 (by omega)]; exact a4, fun i hi => by rw [h3 i hi, h5 _ (by omega)]; exact a5 i hi, fun s m hs hm => ?_⟩
  rw [h5 s (by omega)] at hm
  have i2 := hl_2 (q := q) hT hs
  rw [← hF s] at i2
  have i22 := i2.2
  have hm1 : m ≤ 1 := by omega
  refine rs_ext (by omega) (a6 s m hs hm) ?_ (h1 s m hs (by omega)) (fun j hj => ?_)
  · have := rg_F (q := q) hT (s := s) (m := m) (by omega) hm1
    have e : (fun j => F (gb_pl s m + j)) = (fun j => F0 (992 * q + (gb_pl s m + j))) := funext (fun j => hF _)
    rw [e]
    exact this
  · exact h5 _ (gt_1R (by omega) hm1 hj).2
theorem rt_cp {c c2 : Nat → Nat → Int32} {F : Nat → Int32} (he : ∀ d, d ≤ 22 → c2 d = c d) (hF : ∀ s, s < 4 → gb_iv 0 2 (F s)) (h : gb_RT c F) : gb_RT c2 F := by
  obtain ⟨a1, a2, a3, a4, a5, a6⟩ := h
  refine ⟨fun j hj => by rw [he 21 (by decide)]; exact a1 j hj, by rw [he 0 (by decide)]; exact a2, by rw [he 0 (by decide)]; exact a3, by rw [he 0 (by decide)]; exact a4, fun i hi => by rw [he 22 (by decide)]; exact a5 i hi, fun s m hs hm => ?_⟩
  have := (hF s hs).2
  rw [he _ (by unfold gb_o; omega)]
  exact a6 s m hs hm
theorem hl_0 {F : Nat → Int32} {s : Nat} (hT : gb_T1 F) (hs : s < 4) : gb_iv 0 2 (F s) := by
  have := hl_2 (q := 0) hT hs
  rw [show 992 * 0 + s = s by omega] at this
  exact this
theorem R_q {σ σ2 : gb_S} {f f2 : gb_F} (hM : gb_TM f) (h : gb_R σ f) (hc : gb_fs gb_Wq σ σ2) (hm : gb_k12 (f 1) (f 2) f2) : gb_R σ2 f2 := by
  obtain ⟨h1, h2, h3⟩ := h
  refine ⟨?_, fun k hk => ?_, fun k hk hn => ?_⟩
  · rw [hm.1]
    exact rt_cp (fun d hd => hc _ (by unfold gb_Wq; omega)) (fun s hs => hl_0 hM.2 hs) h1
  · rw [hc 94 (by unfold gb_Wq; omega), hm.2]
    exact h2 k hk
  · rw [hm.2] at hn
    rw [hm.1]
    exact rt_cp (fun d hd => hc _ (by unfold gb_Wq; omega)) (fun s hs => hl_2 hM.2 hs) (h3 k hk hn)
/-! bytes that are fed -/
theorem gb_byv (x : Int32) : gb_byr (vp_nar .byte (x.toInt8.toInt32)) (x &&& 255) := by
  have e1 : (vp_nar .byte (x.toInt8.toInt32)).toInt = x.toInt.bmod 256 := by
    have : vp_nar .byte (x.toInt8.toInt32) = x.toInt8.toInt32.toInt8.toInt32 := rfl
    rw [this, Int8.toInt_toInt32, Int32.toInt_toInt8, Int8.toInt_toInt32, Int32.toInt_toInt8]
    exact Int.bmod_bmod
  have e2 : (x &&& 255).toBitVec.toNat = x.toBitVec.toNat % 256 := by
    have : (255 : Int32).toBitVec.toNat = 2 ^ 8 - 1 := by decide
    rw [Int32.toBitVec_and, BitVec.toNat_and, this, Nat.and_two_pow_sub_one_eq_mod]
  have e3 : (x &&& 255).toInt = ((x.toBitVec.toNat % 256 : Nat) : Int) := by
    rw [← e2, ← Int32.toInt_toBitVec]
    exact BitVec.toInt_eq_toNat_of_lt (by omega)
  have e4 : x.toInt = x.toBitVec.toNat ∨ x.toInt = (x.toBitVec.toNat : Int) - 4294967296 := by
    have h4 := BitVec.toInt_eq_toNat_cond x.toBitVec
    rw [Int32.toInt_toBitVec] at h4
    split at h4
    · exact Or.inl h4
    · refine Or.inr (h4.trans ?_)
      rfl
  have e5 : x.toInt % 256 = ((x.toBitVec.toNat % 256 : Nat) : Int) := by omega
  have e6 : x.toInt.bmod 256 = if x.toInt % 256 < 128 then x.toInt % 256 else x.toInt % 256 - 256 := by
    rw [Int.bmod_def]
    rfl
  rw [e6] at e1
  by_cases c : x.toInt % 256 < 128
  · rw [if_pos c] at e1
    exact Or.inl ⟨by omega, gb_ieq (by omega)⟩
  · rw [if_neg c] at e1
    exact Or.inr ⟨by omega, by omega⟩
theorem R_feed {σ σ2 : gb_S} {f f2 : gb_F} {w w2 : Int64} {p1 p2 p3 p4 p5 ra qa : Int32} (hT : gb_TC σ) (hM : gb_TM f) (h : gb_R σ f) (ec : cs_Face_feed gb_N σ p1 p2 p3 p4 p5 = some (σ2, ra)) (em : ms_feed gb_N f w p1 p2 p3 p4 p5 = some (f2, w2, qa)) : ra = qa ∧ gb_R σ2 f2 := by
  obtain ⟨L, eL, hL⟩ := gb_len hT
  obtain ⟨h1, h2, h3⟩ := h
  have hl : σ.1 1 6 = f 1 4 := h1.2.1
  have hc := ch_feed eL _ _ ec
  have hm := mh_feed (by rw [← hl]; exact eL) hL _ _ _ em
  rcases hc with ⟨c1, c2, c3⟩ | ⟨c1, c2, c3⟩
  · rcases hm with ⟨m1, m2, m3⟩ | ⟨m1, m2, m3⟩
    · subst c3
      subst m3
      exact ⟨c2.trans m2.symm, h1, h2, h3⟩
    · omega
  · rcases hm with ⟨m1, m2, m3⟩ | ⟨m1, m2, m3⟩
    · omega
    · have e : σ2.1 1 6 = f2 1 4 := gb_ieq (c3.2.1.trans m3.1.symm)
      obtain ⟨k1, k2, k3, k4⟩ := c3
      obtain ⟨j1, j2, j3⟩ := m3
      have nf : ∀ i, i ≠ 4 → (i < 10 ∨ 610 ≤ i) → f2 1 i = f 1 i := fun i a b => by
        rw [j2 i a, if_neg (by omega)]
      obtain ⟨a1, a2, a3, a4, a5, a6⟩ := h1
      refine ⟨c2.trans (e.trans m2.symm), ⟨fun j hj => ?_, e, ?_, ?_, fun i hi => ?_, fun s m hs hm => ?_⟩, fun k hk => ?_, fun k hk hn => ?_⟩
      · show σ2.1 (1 + 21) j = _
        rw [k3 (1 + 21) (by decide) (by decide), nf j (by omega) (by omega)]
        exact a1 j hj
      · show σ2.1 1 7 = _
        rw [k1, pk_un (by decide), nf 5 (by decide) (by decide)]
        exact a3
      · show σ2.1 1 8 = _
        rw [k1, pk_un (by decide), nf 6 (by decide) (by decide)]
        exact a4
      · show gb_byr (σ2.1 23 i) _
        rw [k4 i, j2 _ (by omega)]
        by_cases q : L ≤ i ∧ i < L + 4 * 5
        · rw [if_pos q, if_pos (by omega)]
          have e1 : 10 + i - 10 - L = i - L := by omega
          rw [e1]
          exact gb_byv _
        · rw [if_neg q, if_neg (by omega)]
          exact a5 i hi
      · have hs0 : f2 1 s = f 1 s := nf s (by omega) (by omega)
        rw [hs0] at hm
        have i2 := (hl_0 hM.2 hs).2
        have hpl : 610 ≤ gb_pl s m := by
          unfold gb_pl
          repeat' split
          all_goals omega
        have e0 : (fun j => f2 1 (gb_pl s m + j)) = (fun j => f 1 (gb_pl s m + j)) := funext (fun j => nf _ (by omega) (by omega))
        show gb_RS s (σ2.1 (1 + gb_o s m)) _
        rw [e0, k3 _ (by unfold gb_o; omega) (by unfold gb_o; omega)]
        exact a6 s m hs hm
      · rw [k3 94 (by decide) (by decide), j3 2 (by decide)]
        exact h2 k hk
      · rw [j3 2 (by decide)] at hn
        have e0 : (fun i => f2 1 (992 * (k + 1) + i)) = (fun i => f 1 (992 * (k + 1) + i)) := funext (fun i => nf _ (by omega) (by omega))
        rw [e0]
        exact rt_cp (fun d hd => k3 _ (by omega) (by omega)) (fun s hs => hl_2 hM.2 hs) (h3 k hk hn)
theorem R_end {σ σ2 : gb_S} {f f2 : gb_F} {w w2 : Int64} {p1 ra qa : Int32} (hM : gb_TM f) (h : gb_R σ f) (ec : cs_Face_end gb_N σ p1 = some (σ2, ra)) (em : ms_end gb_N f w p1 = some (f2, w2, qa)) : ra = qa ∧ gb_R σ2 f2 := by
  obtain ⟨h1, h2, h3⟩ := h
  have hl : σ.1 1 6 = f 1 4 := h1.2.1
  have hc := ch_end _ _ ec
  have hm := mh_end _ _ _ em
  rw [hl] at hc
  rcases hc with ⟨c1, c2, c3⟩ | ⟨c1, c2, c3, c4⟩
  · rcases hm with ⟨m1, m2, m3⟩ | ⟨m1, m2, m3, m4⟩
    · subst c3
      subst m3
      exact ⟨c2.trans m2.symm, h1, h2, h3⟩
    · omega
  · rcases hm with ⟨m1, m2, m3⟩ | ⟨m1, m2, m3, m4⟩
    · omega
    · have nf : ∀ i, i ≠ 4 → f2 1 i = f 1 i := fun i a => by rw [m4, gb_us, pk_un a]
      have nc : ∀ k, k ≠ 1 → σ2.1 k = σ.1 k := fun k hk => by rw [c4, gb_sun hk]
      have n1 : ∀ j, j ≠ 6 → σ2.1 1 j = σ.1 1 j := fun j hj => by rw [c4, gb_sus, pk_un hj]
      have f22 : f2 2 = f 2 := by rw [m4, gb_un (by decide)]
      obtain ⟨a1, a2, a3, a4, a5, a6⟩ := h1
      refine ⟨c3.trans m3.symm, ⟨fun j hj => ?_, ?_, ?_, ?_, fun i hi => ?_, fun s m hs hm => ?_⟩, fun k hk => ?_, fun k hk hn => ?_⟩
      · show σ2.1 (1 + 21) j = _
        rw [nc _ (by decide), nf j (by omega)]
        exact a1 j hj
      · show σ2.1 1 6 = _
        rw [c4, m4, gb_sus, gb_us, pk_us, pk_us]
      · show σ2.1 1 7 = _
        rw [n1 7 (by decide), nf 5 (by decide)]
        exact a3
      · show σ2.1 1 8 = _
        rw [n1 8 (by decide), nf 6 (by decide)]
        exact a4
      · show gb_byr (σ2.1 (1 + 22) i) _
        rw [nc _ (by decide), nf _ (by omega)]
        exact a5 i hi
      · rw [nf s (by omega)] at hm
        have hpl : 610 ≤ gb_pl s m := by
          unfold gb_pl
          repeat' split
          all_goals omega
        have e0 : (fun j => f2 1 (gb_pl s m + j)) = (fun j => f 1 (gb_pl s m + j)) := funext (fun j => nf _ (by omega))
        show gb_RS s (σ2.1 (1 + gb_o s m)) _
        rw [e0, nc _ (by unfold gb_o; omega)]
        exact a6 s m hs hm
      · rw [nc 94 (by decide), f22]
        exact h2 k hk
      · rw [f22] at hn
        have e0 : (fun i => f2 1 (992 * (k + 1) + i)) = (fun i => f 1 (992 * (k + 1) + i)) := funext (fun i => nf _ (by omega))
        rw [e0]
        exact rt_cp (fun d hd => nc _ (by omega)) (fun s hs => hl_2 hM.2 hs) (h3 k hk hn)
theorem R_image {σ σ2 : gb_S} {f f2 : gb_F} {w w2 : Int64} {p1 ra qa : Int32} (hM : gb_TM f) (h : gb_R σ f) (ec : cs_Face_image gb_N σ p1 = some (σ2, ra)) (em : ms_image gb_N f w p1 = some (f2, w2, qa)) : ra = qa ∧ gb_R σ2 f2 := by
  have h0 := h
  obtain ⟨h1, h2, h3⟩ := h
  have hc := ch_image _ _ ec
  have hm := mh_image _ _ _ em
  rcases hc with ⟨c1, c2, c3⟩ | ⟨k, s2, c1, c2, c3, c4, c5⟩
  · rcases hm with ⟨m1, m2, m3⟩ | ⟨j, m1, m2, m3, m4, m5⟩
    · subst c2
      subst m2
      exact ⟨c1.trans m1.symm, h0⟩
    · omega
  · rcases hm with ⟨m1, m2, m3⟩ | ⟨j, m1, m2, m3, m4, m5⟩
    · omega
    · have : k = j := gb_p3 c2 m2
      subst this
      have q94 : σ2.1 94 = upd (σ.1 94) k 1 := by
        rw [c5, gb_sus, c4.1 94 (by omega)]
      have qn : ∀ q, q ≠ 94 → σ2.1 q = s2.1 q := fun q hq => by rw [c5, gb_sun hq]
      refine ⟨c1.trans m1.symm, ?_, fun i hi => ?_, fun i hi hn => ?_⟩
      · refine rt_ext (q := 0) (F0 := f 1) hM.2 (fun i => by rw [show 992 * 0 + i = i by omega]) h1 (fun s m hs hm j hj => ?_) (fun j hj => ?_) (fun j hj => ?_) ⟨?_, ?_, ?_⟩ (fun i hi => m4.2 i (by omega))
        · show σ2.1 (1 + gb_o s m) j = σ.1 (1 + gb_o s m) j
          rw [qn _ (by unfold gb_o; omega), c4.1 _ (by unfold gb_o; omega)]
        · show σ2.1 (1 + 21) j = σ.1 (1 + 21) j
          rw [qn _ (by decide), c4.1 _ (by omega)]
        · show σ2.1 (1 + 22) j = σ.1 (1 + 22) j
          rw [qn _ (by decide), c4.1 _ (by omega)]
        · show σ2.1 1 6 = σ.1 1 6
          rw [qn _ (by decide), c4.1 _ (by omega)]
        · show σ2.1 1 7 = σ.1 1 7
          rw [qn _ (by decide), c4.1 _ (by omega)]
        · show σ2.1 1 8 = σ.1 1 8
          rw [qn _ (by decide), c4.1 _ (by omega)]
      · rw [q94, m5]
        by_cases e : i = k
        · rw [e, pk_us, pk_us]
        · rw [pk_un e, pk_un e]
          exact h2 i hi
      · by_cases e : i = k
        · subst e
          refine rt_ext (q := 0) (F0 := f 1) hM.2 (fun i => by rw [show 992 * 0 + i = i by omega]) h1 (fun s m hs hm j hj => ?_) (fun j hj => ?_) (fun j hj => ?_) ⟨?_, ?_, ?_⟩ (fun j hj => m4.1 j hj)
          · show σ2.1 (25 + 23 * i + gb_o s m) j = σ.1 (1 + gb_o s m) j
            rw [qn _ (by unfold gb_o; omega)]
            exact c4.2.1 s m hs hm j hj
          · show σ2.1 (25 + 23 * i + 21) j = σ.1 (1 + 21) j
            rw [qn _ (by omega)]
            exact c4.2.2.1 j hj
          · show σ2.1 (25 + 23 * i + 22) j = σ.1 (1 + 22) j
            rw [qn _ (by omega)]
            exact c4.2.2.2.1 j hj
          · show σ2.1 (25 + 23 * i + 0) 6 = σ.1 1 6
            rw [qn _ (by omega), Nat.add_zero]
            exact c4.2.2.2.2.1
          · show σ2.1 (25 + 23 * i + 0) 7 = σ.1 1 7
            rw [qn _ (by omega), Nat.add_zero]
            exact c4.2.2.2.2.2.1
          · show σ2.1 (25 + 23 * i + 0) 8 = σ.1 1 8
            rw [qn _ (by omega), Nat.add_zero]
            exact c4.2.2.2.2.2.2
        · rw [m5, pk_un e] at hn
          have e0 : (fun j => f2 1 (992 * (i + 1) + j)) = (fun j => f2 1 (992 * (i + 1) + j)) := rfl
          refine rt_ext (q := i + 1) (F0 := f 1) hM.2 (fun _ => rfl) (h3 i hi hn) (fun s m hs hm j hj => ?_) (fun j hj => ?_) (fun j hj => ?_) ⟨?_, ?_, ?_⟩ (fun j hj => m4.2 _ (by omega))
          · show σ2.1 (25 + 23 * i + gb_o s m) j = σ.1 (25 + 23 * i + gb_o s m) j
            rw [qn _ (by unfold gb_o; omega), c4.1 _ (by unfold gb_o; omega)]
          · show σ2.1 (25 + 23 * i + 21) j = σ.1 (25 + 23 * i + 21) j
            rw [qn _ (by omega), c4.1 _ (by omega)]
          · show σ2.1 (25 + 23 * i + 22) j = σ.1 (25 + 23 * i + 22) j
            rw [qn _ (by omega), c4.1 _ (by omega)]
          · show σ2.1 (25 + 23 * i + 0) 6 = σ.1 (25 + 23 * i + 0) 6
            rw [qn _ (by omega), c4.1 _ (by omega)]
          · show σ2.1 (25 + 23 * i + 0) 7 = σ.1 (25 + 23 * i + 0) 7
            rw [qn _ (by omega), c4.1 _ (by omega)]
          · show σ2.1 (25 + 23 * i + 0) 8 = σ.1 (25 + 23 * i + 0) 8
            rw [qn _ (by omega), c4.1 _ (by omega)]
theorem R_again {σ σ2 : gb_S} {f f2 : gb_F} {w w2 : Int64} {p1 ra qa : Int32} (hM : gb_TM f) (h : gb_R σ f) (ec : cs_Face_again gb_N σ p1 = some (σ2, ra)) (em : ms_again gb_N f w p1 = some (f2, w2, qa)) : ra = qa ∧ gb_R σ2 f2 := by
  have h0 := h
  obtain ⟨h1, h2, h3⟩ := h
  have hc := ch_again _ _ ec
  have hm := mh_again _ _ _ em
  rcases hc with ⟨c1, c2, c3⟩ | ⟨k, c1, c2, c3, c4, c5⟩
  · rcases hm with ⟨m1, m2, m3⟩ | ⟨j, m1, m2, m3, m4, m5, m6⟩
    · subst c2
      subst m2
      exact ⟨c1.trans m1.symm, h0⟩
    · rcases c3 with c3 | c3 | ⟨k, d1, d2, d3⟩
      · omega
      · omega
      · have : k = j := gb_p3 d1 m2
        subst this
        exact absurd ((h2 k d2).mp d3) m4
  · rcases hm with ⟨m1, m2, m3⟩ | ⟨j, m1, m2, m3, m4, m5, m6⟩
    · rcases m3 with m3 | m3 | ⟨j, d1, d2, d3⟩
      · omega
      · omega
      · have : k = j := gb_p3 c2 d1
        subst this
        exact absurd ((h2 k d2).mpr d3) c4
    · have : k = j := gb_p3 c2 m2
      subst this
      refine ⟨c1.trans m1.symm, ?_, fun i hi => ?_, fun i hi hn => ?_⟩
      · refine rt_ext (q := k + 1) (F0 := f 1) hM.2 (fun _ => rfl) (h3 k c3 m4) (fun s m hs hm j hj => ?_) (fun j hj => ?_) (fun j hj => ?_) ⟨?_, ?_, ?_⟩ (fun j hj => m5.1 j hj)
        · show σ2.1 (1 + gb_o s m) j = σ.1 (25 + 23 * k + gb_o s m) j
          exact c5.2.1 s m hs hm j hj
        · show σ2.1 (1 + 21) j = σ.1 (25 + 23 * k + 21) j
          exact c5.2.2.1 j hj
        · show σ2.1 (1 + 22) j = σ.1 (25 + 23 * k + 22) j
          exact c5.2.2.2.1 j hj
        · show σ2.1 1 6 = σ.1 (25 + 23 * k + 0) 6
          exact c5.2.2.2.2.1
        · show σ2.1 1 7 = σ.1 (25 + 23 * k + 0) 7
          exact c5.2.2.2.2.2.1
        · show σ2.1 1 8 = σ.1 (25 + 23 * k + 0) 8
          exact c5.2.2.2.2.2.2
      · rw [c5.1 94 (by omega), m6]
        exact h2 i hi
      · rw [m6] at hn
        have e0 : (fun j => f2 1 (992 * (i + 1) + j)) = (fun j => f 1 (992 * (i + 1) + j)) := funext (fun j => m5.2 _ (by omega))
        rw [e0]
        exact rt_cp (fun d hd => c5.1 _ (by omega)) (fun s hs => hl_2 hM.2 hs) (h3 i hi hn)
/-! text() keeps the relation, and answers alike -/
theorem R_now {σ σ2 : gb_S} {f f2 : gb_F} (hM : gb_TM f) (h : gb_R σ f) (hc : ∀ k, 1 < k → k ≤ 94 → σ2.1 k = σ.1 k) (h2 : f2 2 = f 2) (hf : ∀ j, j ≠ 4 → j ≠ 5 → j ≠ 6 → f2 1 j = f 1 j) (e4 : σ2.1 1 6 = f2 1 4) (e5 : σ2.1 1 7 = f2 1 5) (e6 : σ2.1 1 8 = f2 1 6) : gb_R σ2 f2 := by
  obtain ⟨⟨a1, a2, a3, a4, a5, a6⟩, b2, b3⟩ := h
  refine ⟨⟨fun j hj => ?_, e4, e5, e6, fun i hi => ?_, fun s m hs hm => ?_⟩, fun k hk => ?_, fun k hk hn => ?_⟩
  · show σ2.1 (1 + 21) j = _
    rw [hc _ (by omega) (by omega), hf j (by omega) (by omega) (by omega)]
    exact a1 j hj
  · show gb_byr (σ2.1 (1 + 22) i) _
    rw [hc _ (by omega) (by omega), hf _ (by omega) (by omega) (by omega)]
    exact a5 i hi
  · rw [hf s (by omega) (by omega) (by omega)] at hm
    have i2 := (hl_0 hM.2 hs).2
    have hpl : 610 ≤ gb_pl s m := by
      unfold gb_pl
      repeat' split
      all_goals omega
    have e0 : (fun j => f2 1 (gb_pl s m + j)) = (fun j => f 1 (gb_pl s m + j)) := funext (fun j => hf _ (by omega) (by omega) (by omega))
    show gb_RS s (σ2.1 (1 + gb_o s m)) _
    rw [e0, hc _ (by unfold gb_o; omega) (by unfold gb_o; omega)]
    exact a6 s m hs hm
  · rw [hc 94 (by omega) (by omega), h2]
    exact b2 k hk
  · rw [h2] at hn
    have e0 : (fun i => f2 1 (992 * (k + 1) + i)) = (fun i => f 1 (992 * (k + 1) + i)) := funext (fun i => hf _ (by omega) (by omega) (by omega))
    rw [e0]
    exact rt_cp (fun d hd => hc _ (by omega) (by omega)) (fun s hs => hl_2 hM.2 hs) (b3 k hk hn)
theorem dup_0 {R : Nat → Int32} (h : R 0 = 0) : ¬ gb_dup R := fun z => by
  obtain ⟨i, j, z1, z2, -⟩ := z
  have : (0 : Int32).toInt = 0 := by decide
  rw [h] at z2
  omega
/-- the Reader, begun; the reference, begun alike -/
theorem ch_read {n : Nat} (hn : gb_N ≤ n) {s N : Nat} {σ : gb_S} {f : gb_F} {p1 p2 L : Int32} (h1 : p1.toInt = s) (hs : s ≤ 3) (eL : L.toInt = N) (hN : N ≤ 600) (eN : (f 1 4).toInt = N) (hT : ∀ i, i < 600 → gb_byr (σ.1 23 i) (f 1 (10 + i))) (hM : gb_TM f) : gb_hc (cs_Reader_read_c23_S n σ L p1 (96 + 2 * s)) (fun s2 _ => ∃ σ0 : gb_S, (∀ k, k ≠ 106 → k ≠ 96 + 2 * s + 1 → σ0.1 k = σ.1 k) ∧ ∀ (g : gb_F) (w : Int64), gb_go s p2 f g → (∀ j, j < 97 → g 3 j = gb_r0 s j) → gb_hm (gb_bd (ms_advance n g w) (fun f w _ => ms_text_122 n n f w p1 p2)) (fun f2 w2 r => gb_E1 n N s p1 p2 σ0 s2 g f2 w2 r)) := by
  unfold cs_Reader_read_c23_S
  have c600 : (600 : Int32).toInt = 600 := by decide
  have c0 : (0 : Int32).toInt = ((0 : Nat) : Int) := by decide
  have t0 : Int32.toNatClampNeg 0 = 0 := by decide
  have t1 : Int32.toNatClampNeg 1 = 1 := by decide
  have t2 : Int32.toNatClampNeg 2 = 2 := by decide
  refine hc_lt (fun a1 b1 => hc_lt (fun x ex => hc_lt (fun a3 b3 => hc_lt (fun a4 b4 => hc_lt (fun a5 b5 => hc_lt (fun a6 b6 => ?_))))))
  have exL : x = L := by
    rw [ex, if_neg (fun q => ?_)]
    have := gi_lt q
    omega
  have q20 : a6.2.1 0 = 23 := by
    rw [b6, b5, b4, b3, b1]
    rfl
  have q106 : a6.1 106 = upd (upd (upd (upd (a1.1 106) 2 x) 3 0) 4 0) 5 (-1) := by
    rw [b6, gb_sus, b5, gb_sus, b4, gb_sus, b3, gb_sus]
  have qn : ∀ k, k ≠ 106 → a6.1 k = σ.1 k := fun k hk => by
    rw [b6, gb_sun hk, b5, gb_sun hk, b4, gb_sun hk, b3, gb_sun hk, b1]
    rfl
  have hTn : ∀ i, i < N → 0 ≤ (f 1 (10 + i)).toInt := fun i hi => by
    have := hM.2 (10 + i)
    have e : (10 + i) % 992 = 10 + i := Nat.mod_eq_of_lt (by omega)
    rw [e] at this
    unfold gt_1 at this
    rw [if_neg (by omega), if_neg (by omega), if_neg (by omega), if_neg (by omega), if_neg (by omega), if_pos (by omega)] at this
    exact this.1
  -- behind the clearing: the sheet is empty
  have go : ∀ s8 : gb_S, s8.2 = a6.2 → (∀ k, k ≠ 96 + 2 * s + 1 → s8.1 k = a6.1 k) → s8.1 (96 + 2 * s + 1) 0 = 0 → (s = 0 → s8.1 (96 + 2 * s + 1) 1 = 0 ∧ s8.1 (96 + 2 * s + 1) 2 = -1) → gb_hc (gb_cd (cs_Reader_skipBlanks n s8) (fun s_12 _ => cs_Reader_read_c23_S_42 n n s_12 p1 (96 + 2 * s) 0)) (fun s2 _ => ∃ σ0 : gb_S, (∀ k, k ≠ 106 → k ≠ 96 + 2 * s + 1 → σ0.1 k = σ.1 k) ∧ ∀ (g : gb_F) (w : Int64), gb_go s p2 f g → (∀ j, j < 97 → g 3 j = gb_r0 s j) → gb_hm (gb_bd (ms_advance n g w) (fun f w _ => ms_text_122 n n f w p1 p2)) (fun f2 w2 r => gb_E1 n N s p1 p2 σ0 s2 g f2 w2 r)) := by
    intro s8 r1 r2 r3 r4
    have r106 : s8.1 106 = a6.1 106 := r2 106 (by omega)
    have hx8 : gb_rc (fun i => f 1 (10 + i)) N s8 := by
      refine ⟨by rw [r1]; exact q20, ?_, hN, fun i hi => ?_⟩
      · rw [r106, q106, pk_un (by decide), pk_un (by decide), pk_un (by decide), pk_us, exL]
        exact eL
      · rw [r2 23 (by omega), qn 23 (by decide)]
        exact hT i (by omega)
    have at8 : (s8.1 106 3).toInt = ((0 : Nat) : Int) := by
      rw [r106, q106, pk_un (by decide), pk_un (by decide), pk_us]
      exact c0
    refine hc_cd (ch_skip hx8 at8 (Nat.zero_le _)) (fun s9 _ g9 => ?_)
    obtain ⟨a, ru, haN, hat⟩ := g9
    intro σ2 rr hrun
    refine ⟨s8, fun k k1 k2 => (r2 k k2).trans (qn k k1), fun g w hg hz => ?_⟩
    obtain ⟨g1, g2, g3, g4, g5, g6, g7, g8⟩ := hg
    have hcx : gb_cx (fun i => f 1 (10 + i)) N g := by
      refine ⟨by rw [g3]; exact eN, hN, fun i hi => ?_, hTn⟩
      rw [g7]
      unfold gb_F1
      rw [pk_un (by omega), pk_un (by omega), pk_un (by omega)]
    refine hm_bd (hm_and (mh_advance hcx (p := 0) (by rw [g4]; exact c0) (Nat.zero_le _)) (gb_goI hn ⟨g1, g2, g3, g4, g5, g6, g7, g8⟩ hz)) (fun f1 w1 _ hA => ?_)
    obtain ⟨⟨hv, q, ru2, htk⟩, hI, hE, k1, k3, k8, -⟩ := hA
    have := run_uq ru2 ru
    subst this
    have z4 : s9.1 106 4 = 0 := by rw [hat.2.2.1 4 (by decide), r106, q106, pk_un (by decide), pk_us]
    have z5 : s9.1 106 5 = -1 := by rw [hat.2.2.1 5 (by decide), r106, q106, pk_us]
    have zD : s9.1 (96 + 2 * s + 1) = s8.1 (96 + 2 * s + 1) := hat.2.1 _ (by omega)
    have f15 : f1 1 5 = 0 := by
      rw [k1, g7]
      unfold gb_F1
      rw [pk_un (by decide), pk_us]
    have f16 : f1 1 6 = -1 := by
      rw [k1, g7]
      unfold gb_F1
      rw [pk_us]
    have R0 : f1 3 0 = 0 := by
      rw [k3, hz 0 (by decide)]
      unfold gb_r0
      rw [if_neg (by omega)]
    have f109 : f1 0 9 = 0 := by
      rw [hv.2.2.2.2.1]
      exact g6
    have R0n : (f1 3 0).toInt.toNat = 0 := by
      rw [R0]
      decide
    have hRC : gb_RC s (s9.1 (96 + 2 * s + 1)) (f1 3) := by
      rw [zD]
      refine ⟨r3.trans R0.symm, fun e => ?_⟩
      rw [(r4 e).1, k3, hz 1 (by decide)]
      unfold gb_r0
      rw [if_neg (by omega)]
    have hRS : gb_RS s (s9.1 (96 + 2 * s + 1)) (f1 3) := by
      refine ⟨hRC.1, fun e => ⟨hRC.2 e, ?_, fun p j hp => ?_, fun p j hp => ?_⟩, fun _ i hi => ?_, fun _ k hk => ?_⟩
      · rw [zD, (r4 e).2, k3, hz 2 (by decide)]
        unfold gb_r0
        rw [if_pos ⟨e, rfl⟩]
      · rw [R0n] at hp
        exact absurd hp (Nat.not_lt_zero _)
      · have : f1 3 1 = 0 := by
          rw [k3, hz 1 (by decide)]
          unfold gb_r0
          rw [if_neg (by omega)]
        have z : (0 : Int32).toInt.toNat = 0 := by decide
        rw [this, z] at hp
        exact absurd hp (Nat.not_lt_zero _)
      · rw [R0n, Nat.mul_zero] at hi
        exact absurd hi (Nat.not_lt_zero _)
      · rw [R0n] at hk
        exact absurd hk (Nat.not_lt_zero _)
    have hJ : gb_J (fun i => f 1 (10 + i)) N s q s8 s9 g f1 := by
      refine ⟨rc_at hx8 hat, hat.2.2.2, haN, ⟨k8, cx_v hcx hv, htk, by rw [f15, f16, z4, z5], fun z => ?_⟩, hRC, hI, fun _ => ⟨z5, hRS, fun _ => ⟨fun z => absurd f109 z, fun z => absurd z (dup_0 R0)⟩, fun _ => f109⟩, ⟨hat.1, fun k k1 _ _ => hat.2.1 k k1, hat.2.2.1 2 (by decide)⟩, ⟨hv.2.1, fun j _ _ => by rw [k1]⟩⟩
      exact absurd z4 z
    exact ch_read42 hn h1 h1 hs n s9 0 q 0 f1 hJ c0 (Nat.zero_le _) σ2 rr hrun n w1
  rcases gb_kind hs with ⟨hs0, hk⟩ | ⟨hs0, hk⟩ | ⟨hs0, hk⟩ | ⟨hs0, hk⟩
  · rw [if_pos hk]
    refine hc_cd (P := fun s8 _ => s8.2 = a6.2 ∧ (∀ k, k ≠ 96 + 2 * s + 1 → s8.1 k = a6.1 k) ∧ s8.1 (96 + 2 * s + 1) 0 = 0 ∧ s8.1 (96 + 2 * s + 1) 1 = 0 ∧ s8.1 (96 + 2 * s + 1) 2 = -1) ?_ (fun s8 _ g => go s8 g.1 g.2.1 g.2.2.1 (fun _ => g.2.2.2))
    unfold cs_Border_clear_B
    rw [t0, t1, t2]
    refine hc_kk (fun _ => hc_lt (fun d1 e1 => hc_lt (fun d2 e2 => hc_lt (fun d3 e3 => hc_some ⟨?_, fun k hk => ?_, ?_, ?_, ?_⟩))))
    · rw [e3, e2, e1]
      rfl
    · rw [e3, gb_sun hk, e2, gb_sun hk, e1, gb_sun hk]
    · rw [e3, gb_sus, pk_un (by decide), e2, gb_sus, pk_un (by decide), e1, gb_sus, pk_us]
    · rw [e3, gb_sus, pk_un (by decide), e2, gb_sus, pk_us]
    · rw [e3, gb_sus, pk_us]
  · rw [if_neg (gc_BN hk), if_pos hk]
    refine hc_cd (P := fun s8 _ => s8.2 = a6.2 ∧ (∀ k, k ≠ 96 + 2 * s + 1 → s8.1 k = a6.1 k) ∧ s8.1 (96 + 2 * s + 1) 0 = 0) ?_ (fun s8 _ g => go s8 g.1 g.2.1 g.2.2 (fun z => by omega))
    unfold cs_Lines_clear_N
    rw [t0]
    exact hc_kk (fun _ => hc_lt (fun d1 e1 => hc_some ⟨by rw [e1]; rfl, fun k hk => by rw [e1, gb_sun hk], by rw [e1, gb_sus, pk_us]⟩))
  · rw [if_neg (gc_BL hk).1, if_neg (gc_BL hk).2, if_pos hk]
    refine hc_cd (P := fun s8 _ => s8.2 = a6.2 ∧ (∀ k, k ≠ 96 + 2 * s + 1 → s8.1 k = a6.1 k) ∧ s8.1 (96 + 2 * s + 1) 0 = 0) ?_ (fun s8 _ g => go s8 g.1 g.2.1 g.2.2 (fun z => by omega))
    unfold cs_Lines_clear_L
    rw [t0]
    exact hc_kk (fun _ => hc_lt (fun d1 e1 => hc_some ⟨by rw [e1]; rfl, fun k hk => by rw [e1, gb_sun hk], by rw [e1, gb_sus, pk_us]⟩))
  · rw [if_neg (gc_BD hk).1, if_neg (gc_BD hk).2.1, if_neg (gc_BD hk).2.2, if_pos hk]
    refine hc_cd (P := fun s8 _ => s8.2 = a6.2 ∧ (∀ k, k ≠ 96 + 2 * s + 1 → s8.1 k = a6.1 k) ∧ s8.1 (96 + 2 * s + 1) 0 = 0) ?_ (fun s8 _ g => go s8 g.1 g.2.1 g.2.2 (fun z => by omega))
    unfold cs_Lines_clear_D
    rw [t0]
    exact hc_kk (fun _ => hc_lt (fun d1 e1 => hc_some ⟨by rw [e1]; rfl, fun k hk => by rw [e1, gb_sun hk], by rw [e1, gb_sus, pk_us]⟩))
theorem pl_E {s m : Nat} (hs : s ≤ 3) : (s = 0 ∧ gb_pl s m = 610 + 58 * m ∧ gb_sz s = 58 ∧ gb_gz s = 58) ∨ (s = 1 ∧ gb_pl s m = 726 + 97 * m ∧ gb_sz s = 97 ∧ gb_gz s = 97) ∨ (s = 2 ∧ gb_pl s m = 920 + 25 * m ∧ gb_sz s = 25 ∧ gb_gz s = 25) ∨ (s = 3 ∧ gb_pl s m = 970 + 11 * m ∧ gb_sz s = 11 ∧ gb_gz s = 16) := by
  have a : s = 0 ∨ s = 1 ∨ s = 2 ∨ s = 3 := by omega
  rcases a with rfl | rfl | rfl | rfl
  · exact Or.inl ⟨rfl, rfl, rfl, rfl⟩
  · exact Or.inr (Or.inl ⟨rfl, rfl, rfl, rfl⟩)
  · exact Or.inr (Or.inr (Or.inl ⟨rfl, rfl, rfl, rfl⟩))
  · exact Or.inr (Or.inr (Or.inr ⟨rfl, rfl, rfl, rfl⟩))
theorem pl_disj {s m s2 m2 : Nat} (hs : s ≤ 3) (hm : m ≤ 1) (hs2 : s2 ≤ 3) (hm2 : m2 ≤ 1) (h : ¬ (s = s2 ∧ m = m2)) : ∀ j, j < gb_sz s2 → ¬ (gb_pl s m ≤ gb_pl s2 m2 + j ∧ gb_pl s2 m2 + j < gb_pl s m + gb_sz s) := by
  intro j hj
  rcases pl_E (m := m) hs with a | a | a | a <;> rcases pl_E (m := m2) hs2 with b | b | b | b <;> omega
/-- the text that was read takes its place -/
theorem R_new {σ σ2 : gb_S} {f fE f2 : gb_F} {s m : Nat} {p2 v4 more : Int32} {k : Nat} (hs : s ≤ 3) (hm : m ≤ 1) (hM : gb_TM f) (hT1 : gb_T1 (f2 1)) (h : gb_R σ f) (hI : gb_I s fE) (h8 : fE 0 8 = 0)
    (hc : ∀ k, 1 < k → k ≤ 94 → k ≠ 96 + 2 * s + 1 → σ2.1 k = σ.1 k) (e6 : σ2.1 1 6 = 0) (e7 : σ2.1 1 7 = 0) (e8 : σ2.1 1 8 = -1) (hRS : gb_RS s (σ2.1 (97 + 2 * s)) (fE 3))
    (hf : ∀ j, j ≠ 4 → j ≠ 5 → j ≠ 6 → fE 1 j = f 1 j) (f4 : fE 1 4 = 0) (f5 : fE 1 5 = 0) (f6 : fE 1 6 = -1) (h2 : f2 2 = f 2) (hf2 : f2 1 = gb_cpF (gb_hd s p2 fE) (fE 3) (gb_pl s m) (gb_sz s)) (hmore : more = 0 ↔ ¬ p2 = -1) (hv4 : v4 = f 1 s) (hnew : p2 = -1 → (f 1 s).toInt = m) (hold : ¬ p2 = -1 → (m : Int) < (f 1 s).toInt) : gb_R (gb_s3t σ2 s m more v4) f2 := by
  have o22 : 1 + gb_o s m < 22 := by unfold gb_o; omega
  have o1 : 1 < 1 + gb_o s m := by unfold gb_o; omega
  have nS : ∀ k, k ≠ 1 + gb_o s m → k ≠ 22 → (gb_s3t σ2 s m more v4).1 k = σ2.1 k := fun k a b => gb_s3tn a b
  have sS : ∀ j, j < gb_gz s → (gb_s3t σ2 s m more v4).1 (1 + gb_o s m) j = σ2.1 (97 + 2 * s) j := fun j hj => by
    unfold gb_s3t
    split
    · rw [gb_sus]
      unfold va_cpy
      rw [if_pos (by omega), Nat.zero_add, Nat.sub_zero]
    · rw [gb_sun (by omega), gb_sus]
      unfold va_cpy
      rw [if_pos (by omega), Nat.zero_add, Nat.sub_zero]
  have s22 : ∀ j, (gb_s3t σ2 s m more v4).1 22 j = if ¬ p2 = -1 then σ2.1 22 j else upd (σ2.1 22) s (v4 + 1) j := fun j => by
    unfold gb_s3t
    by_cases c : more = 0
    · rw [if_pos c, if_pos (hmore.mp c), gb_sun (by omega)]
    · rw [if_neg c, if_neg (fun z => c (hmore.mpr z)), gb_sus, gb_sun (by omega)]
  have hpl : 610 ≤ gb_pl s m ∧ gb_pl s m + gb_sz s ≤ 992 := by
    rcases pl_E (m := m) hs with a | a | a | a <;> omega
  have hdj : ∀ j, gb_hd s p2 fE j = if p2 = -1 ∧ j = s then fE 1 s + 1 else fE 1 j := fun j => by
    unfold gb_hd
    by_cases c : p2 = -1
    · rw [if_pos c]
      by_cases d : j = s
      · rw [d, pk_us, if_pos ⟨c, rfl⟩]
      · rw [pk_un d, if_neg (fun z => d z.2)]
    · rw [if_neg c, if_neg (fun z => c z.1)]
  have low : ∀ j, j < 610 → f2 1 j = gb_hd s p2 fE j := fun j hj => by
    rw [hf2]
    unfold gb_cpF
    rw [if_neg (by omega)]
  have high : ∀ j, 992 ≤ j → f2 1 j = f 1 j := fun j hj => by
    rw [hf2]
    unfold gb_cpF
    rw [if_neg (by omega), hdj j, if_neg (by omega)]
    exact hf j (by omega) (by omega) (by omega)
  obtain ⟨⟨a1, a2, a3, a4, a5, a6⟩, b2, b3⟩ := h
  have hes : fE 1 s = f 1 s := hf s (by omega) (by omega) (by omega)
  have n22 : (22 : Nat) ≠ 96 + 2 * s + 1 := by omega
  refine ⟨⟨fun j hj => ?_, ?_, ?_, ?_, fun i hi => ?_, fun s' m' hs' hm' => ?_⟩, fun k hk => ?_, fun k hk hn => ?_⟩
  · show (gb_s3t σ2 s m more v4).1 22 j = _
    rw [s22, low j (by omega), hdj j]
    by_cases c : p2 = -1
    · rw [if_neg (fun z => z c)]
      by_cases d : j = s
      · rw [d, pk_us, if_pos ⟨c, rfl⟩, hv4, hes]
      · rw [pk_un d, if_neg (fun z => d z.2), hc 22 (by decide) (by decide) n22, hf j (by omega) (by omega) (by omega)]
        exact a1 j hj
    · rw [if_pos c, if_neg (fun z => c z.1), hc 22 (by decide) (by decide) n22, hf j (by omega) (by omega) (by omega)]
      exact a1 j hj
  · show (gb_s3t σ2 s m more v4).1 1 6 = _
    rw [nS 1 (by omega) (by decide), e6, low 4 (by decide), hdj 4, if_neg (by omega)]
    exact f4.symm
  · show (gb_s3t σ2 s m more v4).1 1 7 = _
    rw [nS 1 (by omega) (by decide), e7, low 5 (by decide), hdj 5, if_neg (by omega)]
    exact f5.symm
  · show (gb_s3t σ2 s m more v4).1 1 8 = _
    rw [nS 1 (by omega) (by decide), e8, low 6 (by decide), hdj 6, if_neg (by omega)]
    exact f6.symm
  · show gb_byr ((gb_s3t σ2 s m more v4).1 23 i) _
    by_cases hlow : 10 + i < 610
    · rw [nS 23 (by omega) (by decide), hc 23 (by decide) (by decide) (by omega), low _ hlow, hdj, if_neg (by omega), hf _ (by omega) (by omega) (by omega)]
      exact a5 i hi
    · omega
  · show gb_RS s' ((gb_s3t σ2 s m more v4).1 (1 + gb_o s' m')) _
    have hcnt : f2 1 s' = gb_hd s p2 fE s' := low s' (by omega)
    have i2 := hl_0 hT1 hs'
    have i22 := i2.2
    by_cases same : s' = s ∧ m' = m
    · obtain ⟨rfl, rfl⟩ := same
      refine rs_ext hs hRS (rg_of hs (fun j hj => ?_)) sS (fun j hj => ?_)
      · have hj97 : j < 97 := by
          rcases pl_E (m := m') hs with a | a | a | a <;> omega
        exact hI.2.2.1 h8 j hj97
      · show f2 1 (gb_pl s' m' + j) = fE 3 j
        rw [hf2]
        unfold gb_cpF
        rw [if_pos (by omega), Nat.add_sub_cancel_left]
    · have hm1 : m' ≤ 1 := by omega
      have hlt : m' < (f 1 s').toInt.toNat := by
        rw [hcnt, hdj s'] at hm'
        by_cases c : p2 = -1 ∧ s' = s
        · rw [if_pos c, hes] at hm'
          have := hnew c.1
          have e1 : (f 1 s + 1).toInt = (f 1 s).toInt + 1 := gb_i1 (hl_0 hM.2 (by omega)) ⟨by decide, by decide⟩
          have c2 := c.2
          subst c2
          have : ¬ m' = m := fun z => same ⟨rfl, z⟩
          omega
        · rw [if_neg c, hf s' (by omega) (by omega) (by omega)] at hm'
          exact hm'
      have hne : gb_o s' m' ≠ gb_o s m := fun z => by
        unfold gb_o at z
        omega
      rw [nS _ (by omega) (by unfold gb_o; omega), hc _ (by unfold gb_o; omega) (by unfold gb_o; omega) (by unfold gb_o; omega)]
      have dj := pl_disj (s := s) (m := m) (s2 := s') (m2 := m') hs hm (by omega) hm1 (fun z => same ⟨z.1.symm, z.2.symm⟩)
      have i2f := (hl_0 hM.2 hs').2
      have rgf := rg_F (q := 0) hM.2 (s := s') (m := m') (by omega) hm1
      have e00 : (fun j => f 1 (992 * 0 + (gb_pl s' m' + j))) = (fun j => f 1 (gb_pl s' m' + j)) := funext (fun j => by rw [show 992 * 0 + (gb_pl s' m' + j) = gb_pl s' m' + j by omega])
      rw [e00] at rgf
      refine rs_ext (by omega) (a6 s' m' hs' hlt) rgf (fun _ _ => rfl) (fun j hj => ?_)
      show f2 1 (gb_pl s' m' + j) = f 1 (gb_pl s' m' + j)
      have p6 : 610 ≤ gb_pl s' m' := by
        rcases pl_E (s := s') (m := m') (by omega) with a | a | a | a <;> omega
      rw [hf2]
      unfold gb_cpF
      rw [if_neg (dj j hj), hdj, if_neg (by omega)]
      exact hf _ (by omega) (by omega) (by omega)
  · rw [nS 94 (by omega) (by decide), hc 94 (by decide) (by decide) (by omega), h2]
    exact b2 k hk
  · rw [h2] at hn
    have e0 : (fun i => f2 1 (992 * (k + 1) + i)) = (fun i => f 1 (992 * (k + 1) + i)) := funext (fun i => high _ (by omega))
    rw [e0]
    exact rt_cp (fun d hd => (nS _ (by omega) (by omega)).trans (hc _ (by omega) (by omega) (by omega))) (fun s hs => hl_2 hM.2 hs) (b3 k hk hn)
/-! text(): both sides -/
set_option maxHeartbeats 4000000 in
theorem R_text {σ σ2 : gb_S} {f f2 : gb_F} {w w2 : Int64} {p1 p2 ra qa : Int32} (hT : gb_TC σ) (hM : gb_TM f) (hM2 : gb_TM f2) (h : gb_R σ f) (ec : cs_Face_text gb_N σ p1 p2 = some (σ2, ra)) (em : ms_text gb_N f w p1 p2 = some (f2, w2, qa)) : ra = qa ∧ gb_R σ2 f2 := by
  have hn := gb_NN0
  obtain ⟨N, eN, hN⟩ := gb_len hT
  have h22 : ∀ s, s < 4 → σ.1 22 s = f 1 s := fun s hs => h.1.1 s hs
  have h16 : σ.1 1 6 = f 1 4 := h.1.2.1
  have f4N : (f 1 4).toInt = N := by rw [← h16]; exact eN
  -- the state at the start of text()
  have s1e : (gb_s1t σ).1 1 6 = 0 ∧ (gb_s1t σ).1 1 7 = 0 ∧ (gb_s1t σ).1 1 8 = -1 := by
    rw [gb_s1t1]
    exact ⟨by rw [pk_un (by decide), pk_un (by decide), pk_us], by rw [pk_un (by decide), pk_us], by rw [pk_us]⟩
  have F1e : gb_F1 (f 1) 4 = 0 ∧ gb_F1 (f 1) 5 = 0 ∧ gb_F1 (f 1) 6 = -1 := by
    unfold gb_F1
    exact ⟨by rw [pk_un (by decide), pk_un (by decide), pk_us], by rw [pk_un (by decide), pk_us], by rw [pk_us]⟩
  have F1n : ∀ j, j ≠ 4 → j ≠ 5 → j ≠ 6 → gb_F1 (f 1) j = f 1 j := fun j a b c => by
    unfold gb_F1
    rw [pk_un c, pk_un b, pk_un a]
  have main : gb_hc (cs_Face_text gb_N σ p1 p2) (fun σ3 r => ∀ (f3 : gb_F) (w3 : Int64) (q : Int32), gb_TM f3 → ms_text gb_N f w p1 p2 = some (f3, w3, q) → r = q ∧ gb_R σ3 f3) := by
    refine ch_text hT (fun s es hs cond => ?_) (fun ref f3 w3 q hM3 e3 => ?_)
    · -- a text is read
      refine hc_mono (ch_read (p2 := p2) (f := f) hn es hs eN hN f4N (fun i hi => by rw [gb_s1tn (by decide)]; exact h.1.2.2.2.2.1 i hi) hM) (fun sR _ hR s3 r hct f3 w3 q hM3 e3 => ?_)
      obtain ⟨σ0, z0, hR⟩ := hR
      have key : gb_hm (ms_text gb_N f w p1 p2) (fun f4 w4 q4 => ∃ g : gb_F, gb_go s p2 f g ∧ gb_E1 gb_N N s p1 p2 σ0 sR g f4 w4 q4) := by
        refine mh_text hM (fun s' g w' es' hs' _ hg hz => ?_) (fun g w' g1 g2 ref => ?_)
        · have : s' = s := by omega
          subst this
          exact hm_mono (hR g w' hg hz) (fun f4 w4 q4 hh => ⟨g, hg, hh⟩)
        · exfalso
          rw [h22 s (by omega)] at cond
          rcases ref with z | ⟨s', e1, e2, z⟩
          · omega
          · have : s' = s := by omega
            subst this
            rcases cond with c | c <;> rcases z with z | z
            · omega
            · exact z.1 c.1
            · exact c.1 z.1
            · omega
      obtain ⟨g, hg, fE, wE, hX, e178⟩ := key _ _ _ e3
      obtain ⟨fr, ⟨k2, kj⟩, hI, hcase⟩ := hX
      obtain ⟨g1, g2, g3, g4, g5, g6, g7, g8⟩ := hg
      -- the reference's cells behind its loop
      have fEj : ∀ j, j ≠ 4 → j ≠ 5 → j ≠ 6 → fE 1 j = f 1 j := fun j a b c => by
        rw [kj j b c, g7]
        exact F1n j a b c
      have fE4 : fE 1 4 = 0 := by
        rw [kj 4 (by decide) (by decide), g7]
        exact F1e.1
      have fEs : fE 1 s = f 1 s := fEj s (by omega) (by omega) (by omega)
      have fE2 : fE 2 = f 2 := k2.trans g8
      have cond2 : (p2 = -1 ∧ (f 1 s).toInt < 2) ∨ (¬ p2 = -1 ∧ 0 ≤ p2.toInt ∧ p2.toInt < (f 1 s).toInt) := by
        rw [h22 s (by omega)] at cond
        exact cond
      have i2 := hl_0 hM.2 (s := s) (by omega)
      have i21 := i2.1
      have i22 := i2.2
      have hnt : gb_nt s p2 fE = if p2 = -1 then f 1 s else p2 := by
        unfold gb_nt
        rw [fEs]
      obtain ⟨k, hk, hk1⟩ : ∃ k : Nat, (gb_nt s p2 fE).toInt = k ∧ k ≤ 1 := by
        rw [hnt]
        rcases cond2 with c | c
        · rw [if_pos c.1]
          exact ⟨(f 1 s).toInt.toNat, by omega, by omega⟩
        · rw [if_neg c.1]
          exact ⟨p2.toInt.toNat, by omega, by omega⟩
      have htx := mh_text_178 es hs hk hk1 hI.2.2.2.2 _ _ _ e178
      -- the class's cells behind the Reader
      have cR : ∀ k, k ≠ 106 → k ≠ 107 → k ≠ 96 + 2 * s + 1 → k ≠ 1 → sR.1 k = σ.1 k := fun k a b c d => by
        rw [fr.2.1 k a b c, z0 k a c, gb_s1tn d]
      have cR1 : sR.1 1 = (gb_s1t σ).1 1 := by
        rw [fr.2.1 1 (by decide) (by decide) (by omega), z0 1 (by decide) (by omega)]
      have t6 : (gb_s2t sR).1 1 6 = 0 := by
        rw [gb_s2t1, pk_un (by decide), pk_un (by decide), cR1]
        exact s1e.1
      have t7 : (gb_s2t sR).1 1 7 = sR.1 106 4 := by rw [gb_s2t1, pk_un (by decide), pk_us]
      have t8 : (gb_s2t sR).1 1 8 = sR.1 106 5 := by rw [gb_s2t1, pk_us]
      have tn : ∀ k, 1 < k → k ≤ 94 → (gb_s2t sR).1 k = σ.1 k := fun k a b => by
        rw [gb_s2tn (by omega)]
        exact cR k (by omega) (by omega) (by omega) (by omega)
      rcases hcase with ⟨x1, x2, x3⟩ | ⟨x1, x2, x3, x4⟩ | ⟨x1, x2, x3, x4, x5, x6⟩
      · -- a fault
        rcases hct with ⟨c1, c2, c3⟩ | ⟨c1, -⟩
        · have hf5 : ¬ fE 1 5 = 0 := by rw [← x2]; exact x1
          rcases htx with ⟨-, t2, t3⟩ | ⟨t1, -⟩ | ⟨t1, -⟩
          · refine ⟨c2.trans t2.symm, ?_⟩
            rw [c3, t3]
            refine R_now hM h tn fE2 fEj (t6.trans fE4.symm) (t7.trans x2) (t8.trans x3)
          · exact absurd t1 hf5
          · exact absurd t1 hf5
        · exact absurd c1 x1
      · -- a PATH that was seen twice
        have c4n : ¬ sR.1 106 4 = 0 := by rw [x1]; decide
        rcases hct with ⟨c1, c2, c3⟩ | ⟨c1, -⟩
        · rcases htx with ⟨t1, -⟩ | ⟨-, -, t2, t3, t4⟩ | ⟨-, t1, -⟩
          · exact absurd x3 t1
          · refine ⟨c2.trans t2.symm, ?_⟩
            rw [c3]
            refine R_now hM h tn ((t4 2 (by decide)).trans fE2) (fun j a b c => ?_) ?_ ?_ ?_
            · rw [t3, pk_un c, pk_un b]
              exact fEj j a b c
            · rw [t3, pk_un (by decide), pk_un (by decide)]
              exact t6.trans fE4.symm
            · rw [t3, pk_un (by decide), pk_us]
              exact t7.trans x1
            · rw [t3, pk_us]
              exact t8.trans x2
          · exact absurd t1 x4
        · exact absurd c1 c4n
      · -- the text is told
        rcases hct with ⟨c1, -⟩ | ⟨-, m, c2, c3, c4, c5⟩
        · exact absurd x1 c1
        · rcases htx with ⟨t1, -⟩ | ⟨-, t1, -⟩ | ⟨-, -, t2, t3, t4⟩
          · exact absurd x3 t1
          · exact absurd x5 t1
          · have hrq : r = q := by
              rw [c2, t2, hnt]
              rcases cond2 with c | c
              · have e1 : (if p2 = -1 then (1 : Int32) else 0) = 1 := if_pos c.1
                rw [e1, if_neg (by decide), if_pos c.1]
                exact h22 s (by omega)
              · have e1 : (if p2 = -1 then (1 : Int32) else 0) = 0 := if_neg c.1
                rw [e1, if_pos rfl, if_neg c.1]
            have hmk : m = k := by
              have : r.toInt = k := by rw [hrq, t2]; exact hk
              omega
            subst hmk
            have h8 : fE 0 8 = 0 := Classical.byContradiction (fun z => hI.2.2.2.2 z x3)
            refine ⟨hrq, ?_⟩
            rw [c5]
            refine R_new (f := f) (fE := fE) (p2 := p2) (k := 0) hs hk1 hM hM3.2 h hI h8 (fun k a b _ => tn k a b) t6 (t7.trans x1) (t8.trans x2) ?_ fEj fE4 x3 x4 ((t4 2 (by decide)).trans fE2) t3 ?_ (h22 s (by omega)) ?_ ?_
            · rw [gb_s2tn (by omega), show 97 + 2 * s = 96 + 2 * s + 1 by omega]
              exact x6
            · by_cases c : p2 = -1
              · rw [if_pos c]
                exact ⟨fun z => absurd z (by decide), fun z => absurd c z⟩
              · rw [if_neg c]
                exact ⟨fun _ => c, fun _ => rfl⟩
            · intro c
              rw [hnt, if_pos c] at hk
              exact hk
            · intro c
              rw [hnt, if_neg c] at hk
              rcases cond2 with d | d
              · exact absurd d.1 c
              · omega
    · -- no text is read
      have key : gb_hm (ms_text gb_N f w p1 p2) (fun f4 _ q4 => (-2 : Int32) = q4 ∧ f4 1 = gb_F1 (f 1) ∧ f4 2 = f 2) := by
        refine mh_text hM (fun s g w' es hs cond _ _ => ?_) (fun g w' g1 g2 _ => ⟨rfl, g1, g2⟩)
        exfalso
        rcases ref with z | ⟨s', e1, e2, z⟩
        · omega
        · have : s' = s := by omega
          subst this
          rw [h22 s' (by omega)] at z
          rcases cond with c | c <;> rcases z with z | z
          · omega
          · exact z.1 c.1
          · exact c.1 z.1
          · omega
      obtain ⟨y1, y2, y3⟩ := key _ _ _ e3
      refine ⟨y1, R_now hM h (fun k a b => gb_s1tn (by omega)) y3 (fun j a b c => by rw [y2]; exact F1n j a b c) ?_ ?_ ?_⟩
      · rw [y2]
        exact s1e.1.trans F1e.1.symm
      · rw [y2]
        exact s1e.2.1.trans F1e.2.1.symm
      · rw [y2]
        exact s1e.2.2.trans F1e.2.2.symm
  exact main _ _ ec _ _ _ hM2 em
/-! LOOKING UP what is told: both sides; fault, count, border -/
theorem e_fault {σ σ2 : gb_S} {f f2 : gb_F} {w w2 : Int64} {p1 ra qa : Int32} (h : gb_R σ f) (ec : cs_Face_fault gb_N σ p1 = some (σ2, ra)) (em : ms_fault gb_N f w p1 = some (f2, w2, qa)) : ra = qa := by
  have t5 : Int32.toNatClampNeg 5 = 5 := by decide
  have t6 : Int32.toNatClampNeg 6 = 6 := by decide
  have e5 : σ.1 1 7 = f 1 5 := h.1.2.2.1
  have e6 : σ.1 1 8 = f 1 6 := h.1.2.2.2.1
  have hm : gb_hm (ms_fault gb_N f w p1) (fun _ _ r => r = if p1 = 0 then f 1 5 else if p1 = 1 then f 1 6 else -1) := by
    unfold ms_fault
    rw [t5, t6]
    refine hm_if (fun c => hm_lt (fun x ex => hm_some (by rw [if_pos c]; exact ex))) (fun c => hm_if (fun d => hm_lt (fun x ex => hm_some (by rw [if_neg c, if_pos d]; exact ex))) (fun d => hm_some (by rw [if_neg c, if_neg d])))
  have hc : gb_hc (cs_Face_fault gb_N σ p1) (fun _ r => r = if p1 = 0 then f 1 5 else if p1 = 1 then f 1 6 else -1) := by
    unfold cs_Face_fault
    refine hc_if (fun c => hc_some (by rw [if_pos c]; exact e5)) (fun c => hc_if (fun d => hc_some (by rw [if_neg c, if_pos d]; exact e6)) (fun d => hc_some (by rw [if_neg c, if_neg d])))
  rw [hc _ _ ec, hm _ _ _ em]
theorem e_count {σ σ2 : gb_S} {f f2 : gb_F} {w w2 : Int64} {p1 ra qa : Int32} (h : gb_R σ f) (ec : cs_Face_count gb_N σ p1 = some (σ2, ra)) (em : ms_count gb_N f w p1 = some (f2, w2, qa)) : ra = qa := by
  have c0 : (0 : Int32).toInt = 0 := by decide
  have c3 : (3 : Int32).toInt = 3 := by decide
  have c4 : (4 : Int32).toInt = 4 := by decide
  have hm : gb_hm (ms_count gb_N f w p1) (fun _ _ r => ((p1.toInt < 0 ∨ 3 < p1.toInt) ∧ r = -2) ∨ ∃ j : Nat, p1.toInt = j ∧ j < 4 ∧ r = f 1 j) := by
    unfold ms_count
    refine hm_bd mh_isIn (fun g u r g1 => ?_)
    obtain ⟨rfl, rfl, g1⟩ := g1
    refine hm_if (fun c => hm_some (Or.inl ⟨?_, rfl⟩)) (fun c => hm_ck (fun a b => hm_lt (fun x ex => hm_some (Or.inr ?_))))
    · rcases g1 with z | z
      · rw [c] at z
        exact absurd z.1 (by decide)
      · omega
    · rcases g1 with z | z
      · obtain ⟨j, ej, tj⟩ := gi_nn (x := p1) (by omega)
        exact ⟨j, ej, by omega, by rw [ex, tj]⟩
      · exact absurd z.1 c
  have hc : gb_hc (cs_Face_count gb_N σ p1) (fun _ r => ((p1.toInt < 0 ∨ 3 < p1.toInt) ∧ r = -2) ∨ ∃ j : Nat, p1.toInt = j ∧ j < 4 ∧ r = σ.1 22 j) := by
    unfold cs_Face_count
    refine hc_if (fun c => hc_some (Or.inl ⟨by have := gi_lt c; omega, rfl⟩)) (fun c => hc_if (fun d => hc_some (Or.inl ⟨by have := gi_le d; omega, rfl⟩)) (fun d => hc_ck (fun a b => hc_lt (fun x ex => hc_some (Or.inr ?_)))))
    have h1 := gi_nlt c
    have h2 := gi_nle d
    obtain ⟨j, ej, tj⟩ := gi_nn (x := p1) (by omega)
    exact ⟨j, ej, by omega, by rw [ex, tj]⟩
  rcases hc _ _ ec with ⟨a1, a2⟩ | ⟨j, a1, a2, a3⟩ <;> rcases hm _ _ _ em with ⟨b1, b2⟩ | ⟨k, b1, b2, b3⟩
  · rw [a2, b2]
  · omega
  · omega
  · have : j = k := by omega
    subst this
    rw [a3, b3]
    exact h.1.1 j a2
/-! the sheet of a number -/
def gb_Lk (s : Nat) (p : Int32) (h : Int32) (m : Nat) : Prop := p.toInt = m ∧ (m : Int) < h.toInt
def gb_Nk (p : Int32) (h : Int32) : Prop := p.toInt < 0 ∨ h.toInt ≤ p.toInt
theorem ch_borderAt {n : Nat} {σ : gb_S} {p1 : Int32} : gb_hc (cs_Face_borderAt n σ p1) (fun s r => s = σ ∧ ((r = 0 ∧ gb_Nk p1 (σ.1 22 0)) ∨ ∃ m : Nat, gb_Lk 0 p1 (σ.1 22 0) m ∧ m < 2 ∧ r = gb_o 0 m ∧ r ≠ 0)) := by
  unfold cs_Face_borderAt
  have c0 : (0 : Int32).toInt = 0 := by decide
  have t0 : Int32.toNatClampNeg 0 = 0 := by decide
  rw [t0]
  refine hc_if (fun c => hc_some ⟨rfl, Or.inl ⟨rfl, Or.inl (by have := gi_lt c; omega)⟩⟩) (fun c => hc_lt (fun x ex => hc_if (fun d => hc_some ⟨rfl, Or.inl ⟨rfl, Or.inr (by have := gi_le d; rw [ex] at this; exact this)⟩⟩) (fun d => hc_ck (fun a b => hc_lt (fun k ek => hc_kk (fun _ => hc_some ⟨rfl, Or.inr ?_⟩))))))
  have d1 := gi_nle d
  rw [ex] at d1
  obtain ⟨m, em, tm⟩ := gi_nn a
  have hm : m = 0 ∨ m = 1 := by omega
  refine ⟨m, ⟨em, by omega⟩, by omega, ?_, ?_⟩
  · rw [ek, tm]
    rcases hm with rfl | rfl <;> rfl
  · rw [ek, tm]
    rcases hm with rfl | rfl <;> decide
theorem ch_nightAt {n : Nat} {σ : gb_S} {p1 : Int32} : gb_hc (cs_Face_nightAt n σ p1) (fun s r => s = σ ∧ ((r = 0 ∧ gb_Nk p1 (σ.1 22 1)) ∨ ∃ m : Nat, gb_Lk 1 p1 (σ.1 22 1) m ∧ m < 2 ∧ r = gb_o 1 m ∧ r ≠ 0)) := by
  unfold cs_Face_nightAt
  have c0 : (0 : Int32).toInt = 0 := by decide
  have t0 : Int32.toNatClampNeg 1 = 1 := by decide
  rw [t0]
  refine hc_if (fun c => hc_some ⟨rfl, Or.inl ⟨rfl, Or.inl (by have := gi_lt c; omega)⟩⟩) (fun c => hc_lt (fun x ex => hc_if (fun d => hc_some ⟨rfl, Or.inl ⟨rfl, Or.inr (by have := gi_le d; rw [ex] at this; exact this)⟩⟩) (fun d => hc_ck (fun a b => hc_lt (fun k ek => hc_kk (fun _ => hc_some ⟨rfl, Or.inr ?_⟩))))))
  have d1 := gi_nle d
  rw [ex] at d1
  obtain ⟨m, em, tm⟩ := gi_nn a
  have hm : m = 0 ∨ m = 1 := by omega
  refine ⟨m, ⟨em, by omega⟩, by omega, ?_, ?_⟩
  · rw [ek, tm]
    rcases hm with rfl | rfl <;> rfl
  · rw [ek, tm]
    rcases hm with rfl | rfl <;> decide
theorem ch_lawAt {n : Nat} {σ : gb_S} {p1 : Int32} : gb_hc (cs_Face_lawAt n σ p1) (fun s r => s = σ ∧ ((r = 0 ∧ gb_Nk p1 (σ.1 22 2)) ∨ ∃ m : Nat, gb_Lk 2 p1 (σ.1 22 2) m ∧ m < 2 ∧ r = gb_o 2 m ∧ r ≠ 0)) := by
  unfold cs_Face_lawAt
  have c0 : (0 : Int32).toInt = 0 := by decide
  have t0 : Int32.toNatClampNeg 2 = 2 := by decide
  rw [t0]
  refine hc_if (fun c => hc_some ⟨rfl, Or.inl ⟨rfl, Or.inl (by have := gi_lt c; omega)⟩⟩) (fun c => hc_lt (fun x ex => hc_if (fun d => hc_some ⟨rfl, Or.inl ⟨rfl, Or.inr (by have := gi_le d; rw [ex] at this; exact this)⟩⟩) (fun d => hc_ck (fun a b => hc_lt (fun k ek => hc_kk (fun _ => hc_some ⟨rfl, Or.inr ?_⟩))))))
  have d1 := gi_nle d
  rw [ex] at d1
  obtain ⟨m, em, tm⟩ := gi_nn a
  have hm : m = 0 ∨ m = 1 := by omega
  refine ⟨m, ⟨em, by omega⟩, by omega, ?_, ?_⟩
  · rw [ek, tm]
    rcases hm with rfl | rfl <;> rfl
  · rw [ek, tm]
    rcases hm with rfl | rfl <;> decide
theorem ch_dawnAt {n : Nat} {σ : gb_S} {p1 : Int32} : gb_hc (cs_Face_dawnAt n σ p1) (fun s r => s = σ ∧ ((r = 0 ∧ gb_Nk p1 (σ.1 22 3)) ∨ ∃ m : Nat, gb_Lk 3 p1 (σ.1 22 3) m ∧ m < 2 ∧ r = gb_o 3 m ∧ r ≠ 0)) := by
  unfold cs_Face_dawnAt
  have c0 : (0 : Int32).toInt = 0 := by decide
  have t0 : Int32.toNatClampNeg 3 = 3 := by decide
  rw [t0]
  refine hc_if (fun c => hc_some ⟨rfl, Or.inl ⟨rfl, Or.inl (by have := gi_lt c; omega)⟩⟩) (fun c => hc_lt (fun x ex => hc_if (fun d => hc_some ⟨rfl, Or.inl ⟨rfl, Or.inr (by have := gi_le d; rw [ex] at this; exact this)⟩⟩) (fun d => hc_ck (fun a b => hc_lt (fun k ek => hc_kk (fun _ => hc_some ⟨rfl, Or.inr ?_⟩))))))
  have d1 := gi_nle d
  rw [ex] at d1
  obtain ⟨m, em, tm⟩ := gi_nn a
  have hm : m = 0 ∨ m = 1 := by omega
  refine ⟨m, ⟨em, by omega⟩, by omega, ?_, ?_⟩
  · rw [ek, tm]
    rcases hm with rfl | rfl <;> rfl
  · rw [ek, tm]
    rcases hm with rfl | rfl <;> decide
theorem mh_isOf {n : Nat} {f : gb_F} {w : Int64} {p1 p2 : Int32} {s : Nat} (hM : gb_TM f) (e1 : p1.toInt = s) (hs : s < 4) : gb_hm (ms_isOf n f w p1 p2) (fun f2 w2 r => f2 = f ∧ w2 = w ∧ ((r = 0 ∧ gb_Nk p2 (f 1 s)) ∨ ∃ m : Nat, r = 1 ∧ gb_Lk s p2 (f 1 s) m ∧ m < 2)) := by
  unfold ms_isOf
  have c0 : (0 : Int32).toInt = 0 := by decide
  have c1 : (1 : Int32).toInt = 1 := by decide
  have i := hl_0 hM.2 hs
  have i1 := i.1
  have i2 := i.2
  rw [gi_tn e1]
  refine hm_ck (fun _ _ => hm_lt (fun x ex => hm_bd mh_isIn (fun g u r hg => hm_cb (fun _ => hm_some ⟨hg.1, hg.2.1, ?_⟩))))
  have e : (x - 1).toInt = (f 1 s).toInt - 1 := by
    rw [ex, gb_tsub (by omega) (by omega), c1]
  have h := hg.2.2
  rw [e, c0] at h
  rcases h with h | h
  · obtain ⟨m, em, -⟩ := gi_nn (x := p2) (by omega)
    exact Or.inr ⟨m, h.1, ⟨em, by omega⟩, by omega⟩
  · exact Or.inl ⟨h.1, by unfold gb_Nk; omega⟩
/-- the place of a border, night, law, dawn in the reference -/
def gb_mb (j : Nat) (s m : Nat) (f : gb_F) : Prop := (f 0 j).toInt = gb_pl s m
theorem mh_isBorder {n : Nat} {f : gb_F} {w : Int64} {p1 : Int32} (hM : gb_TM f) : gb_hm (ms_isBorder n f w p1) (fun f2 w2 r => w2 = w ∧ ((r = 0 ∧ f2 = f ∧ gb_Nk p1 (f 1 0)) ∨ ∃ m : Nat, r = 1 ∧ gb_Lk 0 p1 (f 1 0) m ∧ m < 2 ∧ gb_mb 11 0 m f2 ∧ ∃ v : Int32, f2 = gb_u f 0 (upd (f 0) 11 v))) := by
  unfold ms_isBorder
  refine hm_bd (mh_isOf hM (s := 0) (by decide) (by decide)) (fun g u r hg => ?_)
  obtain ⟨rfl, rfl, hg⟩ := hg
  refine hm_if (fun c => hm_some ⟨rfl, Or.inl ⟨rfl, rfl, ?_⟩⟩) (fun c => ?_)
  · rcases hg with z | ⟨m, z, -⟩
    · exact z.2
    · rw [c] at z
      exact absurd z (by decide)
  · rcases hg with z | ⟨m, z1, z2, z3⟩
    · exact absurd z.1 c
    · refine hm_bd (hm_of (mt_placeOfE (s := 0) (by decide) (by decide) z2.1 (by omega))) (fun g2 u2 r2 h2 => hm_lt (fun x ex => hm_some ⟨h2.2.1, Or.inr ⟨m, rfl, z2, z3, ?_, r2, ?_⟩⟩))
      · unfold gb_mb
        rw [ex, gb_us, pk_us]
        exact h2.2.2
      · rw [ex, h2.1]
theorem mh_of {n : Nat} {f : gb_F} {w : Int64} {p1 : Int32} {m j : Nat} (hb : gb_mb 11 0 m f) (hm : m < 2) (e : p1.toInt = j) (hj : j ≤ 1000) : gb_hm (ms_of n f w p1) (fun f2 w2 r => f2 = f ∧ w2 = w ∧ r = f 1 (gb_pl 0 m + j)) := by
  unfold ms_of
  have hb' : (f 0 11).toInt = gb_pl 0 m := hb
  have hp : gb_pl 0 m = 610 + 58 * m := rfl
  have e1 : ((f 0 11) + p1).toInt = ((gb_pl 0 m + j : Nat) : Int) := by
    rw [gb_tadd (by omega) (by omega), hb', e]
    omega
  rw [gi_tn e1]
  exact hm_ck (fun _ _ => hm_lt (fun x ex => hm_some ⟨rfl, rfl, ex⟩))
theorem mh_paths {n : Nat} {f : gb_F} {w : Int64} {m : Nat} (hb : gb_mb 11 0 m f) (hm : m < 2) : gb_hm (ms_paths n f w) (fun f2 w2 r => f2 = f ∧ w2 = w ∧ r = f 1 (gb_pl 0 m)) := by
  unfold ms_paths
  exact hm_bd (mh_of hb hm (j := 0) (by decide) (by decide)) (fun g u r h => hm_some h)
theorem mh_geese {n : Nat} {f : gb_F} {w : Int64} {m : Nat} (hb : gb_mb 11 0 m f) (hm : m < 2) : gb_hm (ms_geese n f w) (fun f2 w2 r => f2 = f ∧ w2 = w ∧ r = f 1 (gb_pl 0 m + 1)) := by
  unfold ms_geese
  exact hm_bd (mh_of hb hm (j := 1) (by decide) (by decide)) (fun g u r h => hm_some h)
theorem mh_ofPath {n : Nat} {f : gb_F} {w : Int64} {m p j : Nat} {p1 p2 : Int32} (hb : gb_mb 11 0 m f) (hm : m < 2) (e1 : p1.toInt = p) (hp : p ≤ 100) (e2 : p2.toInt = j) (hj : j ≤ 100) : gb_hm (ms_ofPath n f w p1 p2) (fun f2 w2 r => f2 = f ∧ w2 = w ∧ r = f 1 (gb_pl 0 m + (3 + 3 * p + j))) := by
  unfold ms_ofPath
  have c3 : (3 : Int32).toInt = 3 := by decide
  have m1 : (3 * p1).toInt = ((3 * p : Nat) : Int) := by
    rw [gb_tmul (by rw [c3, e1]; omega) (by rw [c3, e1]; omega), c3, e1]
    omega
  have m2 : (3 + 3 * p1).toInt = ((3 + 3 * p : Nat) : Int) := by
    rw [gb_tadd (by rw [c3, m1]; omega) (by rw [c3, m1]; omega), c3, m1]
    omega
  have m3 : (3 + 3 * p1 + p2).toInt = ((3 + 3 * p + j : Nat) : Int) := by
    rw [gb_tadd (by rw [m2, e2]; omega) (by rw [m2, e2]; omega), m2, e2]
    omega
  exact hm_bd (mh_of hb hm m3 (by omega)) (fun g u r h => hm_some h)
theorem mh_ofGoose {n : Nat} {f : gb_F} {w : Int64} {m p j : Nat} {p1 p2 : Int32} (hb : gb_mb 11 0 m f) (hm : m < 2) (e1 : p1.toInt = p) (hp : p ≤ 100) (e2 : p2.toInt = j) (hj : j ≤ 100) : gb_hm (ms_ofGoose n f w p1 p2) (fun f2 w2 r => f2 = f ∧ w2 = w ∧ r = f 1 (gb_pl 0 m + (18 + 5 * p + j))) := by
  unfold ms_ofGoose
  have c5 : (5 : Int32).toInt = 5 := by decide
  have c18 : (18 : Int32).toInt = 18 := by decide
  have m1 : (5 * p1).toInt = ((5 * p : Nat) : Int) := by
    rw [gb_tmul (by rw [c5, e1]; omega) (by rw [c5, e1]; omega), c5, e1]
    omega
  have m2 : (18 + 5 * p1).toInt = ((18 + 5 * p : Nat) : Int) := by
    rw [gb_tadd (by rw [c18, m1]; omega) (by rw [c18, m1]; omega), c18, m1]
    omega
  have m3 : (18 + 5 * p1 + p2).toInt = ((18 + 5 * p + j : Nat) : Int) := by
    rw [gb_tadd (by rw [m2, e2]; omega) (by rw [m2, e2]; omega), m2, e2]
    omega
  exact hm_bd (mh_of hb hm m3 (by omega)) (fun g u r h => hm_some h)
/-- there is one of that number below a count -/
def gb_lk (x c : Int32) (p : Nat) : Prop := x.toInt = p ∧ (p : Int) < c.toInt
def gb_nk (x c : Int32) : Prop := x.toInt < 0 ∨ c.toInt ≤ x.toInt
theorem mh_below {n : Nat} {f : gb_F} {w : Int64} {x c : Int32} (hc : gb_iv 0 1000 c) : gb_hm (ms_isIn n f w x 0 (c - 1)) (fun f2 w2 r => f2 = f ∧ w2 = w ∧ ((r = 0 ∧ gb_nk x c) ∨ ∃ p : Nat, r = 1 ∧ gb_lk x c p)) := by
  have c0 : (0 : Int32).toInt = 0 := by decide
  have c1 : (1 : Int32).toInt = 1 := by decide
  have i1 := hc.1
  have i2 := hc.2
  have e : (c - 1).toInt = c.toInt - 1 := by rw [gb_tsub (by omega) (by omega), c1]
  refine hm_mono mh_isIn (fun f2 w2 r h => ⟨h.1, h.2.1, ?_⟩)
  have g := h.2.2
  rw [e, c0] at g
  rcases g with g | g
  · obtain ⟨p, ep, -⟩ := gi_nn (x := x) (by omega)
    exact Or.inr ⟨p, g.1, ep, by omega⟩
  · exact Or.inl ⟨g.1, by unfold gb_nk; omega⟩
theorem mh_isPath {n : Nat} {f : gb_F} {w : Int64} {m : Nat} {x : Int32} (hM : gb_TM f) (hb : gb_mb 11 0 m f) (hm : m < 2) : gb_hm (ms_isPath n f w x) (fun f2 w2 r => f2 = f ∧ w2 = w ∧ ((r = 0 ∧ gb_nk x (f 1 (gb_pl 0 m))) ∨ ∃ p : Nat, r = 1 ∧ gb_lk x (f 1 (gb_pl 0 m)) p)) := by
  unfold ms_isPath
  have rg := (rg_F (q := 0) hM.2 (s := 0) (m := m) (by decide) (by omega)).1 rfl
  have i0 : gb_iv 0 1000 (f 1 (gb_pl 0 m)) := by
    have this : gb_iv 0 5 (f 1 (992 * 0 + (gb_pl 0 m + 0))) := rg.1
    have e : 992 * 0 + (gb_pl 0 m + 0) = gb_pl 0 m := by omega
    rw [e] at this
    exact gb_iw this (by decide)
  refine hm_bd (mh_paths hb hm) (fun g u r h => ?_)
  obtain ⟨rfl, rfl, rfl⟩ := h
  exact hm_bd (mh_below i0) (fun g2 u2 r2 h2 => hm_cb (fun _ => hm_some h2))
theorem mh_isGoose {n : Nat} {f : gb_F} {w : Int64} {m : Nat} {x : Int32} (hM : gb_TM f) (hb : gb_mb 11 0 m f) (hm : m < 2) : gb_hm (ms_isGoose n f w x) (fun f2 w2 r => f2 = f ∧ w2 = w ∧ ((r = 0 ∧ gb_nk x (f 1 (gb_pl 0 m + 1))) ∨ ∃ p : Nat, r = 1 ∧ gb_lk x (f 1 (gb_pl 0 m + 1)) p)) := by
  unfold ms_isGoose
  have rg := (rg_F (q := 0) hM.2 (s := 0) (m := m) (by decide) (by omega)).1 rfl
  have i0 : gb_iv 0 1000 (f 1 (gb_pl 0 m + 1)) := by
    have this : gb_iv 0 8 (f 1 (992 * 0 + (gb_pl 0 m + 1))) := rg.2
    have e : 992 * 0 + (gb_pl 0 m + 1) = gb_pl 0 m + 1 := by omega
    rw [e] at this
    exact gb_iw this (by decide)
  refine hm_bd (mh_geese hb hm) (fun g u r h => ?_)
  obtain ⟨rfl, rfl, rfl⟩ := h
  exact hm_bd (mh_below i0) (fun g2 u2 r2 h2 => hm_cb (fun _ => hm_some h2))
theorem ch_paths {n : Nat} {σ : gb_S} {k0 : Nat} : gb_hc (cs_Border_paths_B n σ k0) (fun s r => s = σ ∧ r = σ.1 (k0 + 1) 0) := by
  unfold cs_Border_paths_B
  exact hc_kk (fun _ => hc_lt (fun x ex => hc_some ⟨rfl, ex⟩))
theorem ch_geese {n : Nat} {σ : gb_S} {k0 : Nat} : gb_hc (cs_Border_geese_B n σ k0) (fun s r => s = σ ∧ r = σ.1 (k0 + 1) 1) := by
  unfold cs_Border_geese_B
  exact hc_kk (fun _ => hc_lt (fun x ex => hc_some ⟨rfl, ex⟩))
theorem ch_cap {n : Nat} {σ : gb_S} {k0 : Nat} : gb_hc (cs_Border_cap_B n σ k0) (fun s r => s = σ ∧ r = σ.1 (k0 + 1) 2) := by
  unfold cs_Border_cap_B
  exact hc_kk (fun _ => hc_lt (fun x ex => hc_some ⟨rfl, ex⟩))
theorem ch_hasPath {n : Nat} {σ : gb_S} {k0 : Nat} {x : Int32} : gb_hc (cs_Border_hasPath_B n σ k0 x) (fun s r => s = σ ∧ ((r = 0 ∧ gb_nk x (σ.1 (k0 + 1) 0)) ∨ ∃ p : Nat, r = 1 ∧ gb_lk x (σ.1 (k0 + 1) 0) p)) := by
  unfold cs_Border_hasPath_B
  have c0 : (0 : Int32).toInt = 0 := by decide
  refine hc_kk (fun _ => hc_if (fun c => hc_some ⟨rfl, Or.inl ⟨rfl, Or.inl (by have := gi_lt c; omega)⟩⟩) (fun c => hc_cd ch_paths (fun s r h => ?_)))
  obtain ⟨rfl, rfl⟩ := h
  have h1 := gi_nlt c
  refine hc_if (fun d => hc_some ⟨rfl, Or.inl ⟨rfl, Or.inr (gi_le d)⟩⟩) (fun d => hc_some ⟨rfl, Or.inr ?_⟩)
  obtain ⟨p, ep, -⟩ := gi_nn (x := x) (by omega)
  exact ⟨p, rfl, ep, by have := gi_nle d; omega⟩
theorem ch_hasGoose {n : Nat} {σ : gb_S} {k0 : Nat} {x : Int32} : gb_hc (cs_Border_hasGoose_B n σ k0 x) (fun s r => s = σ ∧ ((r = 0 ∧ gb_nk x (σ.1 (k0 + 1) 1)) ∨ ∃ p : Nat, r = 1 ∧ gb_lk x (σ.1 (k0 + 1) 1) p)) := by
  unfold cs_Border_hasGoose_B
  have c0 : (0 : Int32).toInt = 0 := by decide
  refine hc_kk (fun _ => hc_if (fun c => hc_some ⟨rfl, Or.inl ⟨rfl, Or.inl (by have := gi_lt c; omega)⟩⟩) (fun c => hc_cd ch_geese (fun s r h => ?_)))
  obtain ⟨rfl, rfl⟩ := h
  have h1 := gi_nlt c
  refine hc_if (fun d => hc_some ⟨rfl, Or.inl ⟨rfl, Or.inr (gi_le d)⟩⟩) (fun d => hc_some ⟨rfl, Or.inr ?_⟩)
  obtain ⟨p, ep, -⟩ := gi_nn (x := x) (by omega)
  exact ⟨p, rfl, ep, by have := gi_nle d; omega⟩
/-! A BORDER on both sides: R its numbers as the reference has them -/
def gb_cbx (k0 : Nat) (R : Nat → Int32) (σ : gb_S) : Prop := gb_RS 0 (σ.1 (k0 + 1)) R
/-- what one leaves -/
def gb_mk (toes miles boots limp fr : Int32) : Int32 := if limp = 1 then 2 * ((if fr = 0 then 2 * (if boots < miles then boots else miles) else 0) + toes * (miles - (if boots < miles then boots else miles))) else (if fr = 0 then 2 * (if boots < miles then boots else miles) else 0) + toes * (miles - (if boots < miles then boots else miles))
def gb_toe (R : Nat → Int32) (g : Nat) : Int32 := R (18 + 5 * g) + R (18 + 5 * g + 1)
def gb_fm (R : Nat → Int32) (g p : Nat) : Int32 := gb_mk (gb_toe R g) (R (3 + 3 * p)) (R (18 + 5 * g + 2)) (R (18 + 5 * g + 3)) 0
def gb_pd (R : Nat → Int32) (p : Nat) (n : Int32) : Int32 := n + (n * R (3 + 3 * p + 2)) / 10
def gb_py (R : Nat → Int32) (p : Nat) (n : Int32) : Int32 := R (3 + 3 * p + 1) * gb_pd R p n
def gb_nP (R : Nat → Int32) : Nat := (R 0).toInt.toNat
def gb_nG (R : Nat → Int32) : Nat := (R 1).toInt.toNat
def gb_rB (R : Nat → Int32) : Prop := ∀ j, j < 58 → gb_iv (gt_R 0 j).1 (gt_R 0 j).2 (R j)
def gb_mbx (m : Nat) (R : Nat → Int32) (f : gb_F) : Prop := gb_rB R ∧ m < 2 ∧ gb_mb 11 0 m f ∧ ∀ j, f 1 (gb_pl 0 m + j) = R j
theorem rB_P {R : Nat → Int32} (h : gb_rB R) : gb_iv 0 5 (R 0) := gb_iw (h 0 (by decide)) (by decide)
theorem rB_G {R : Nat → Int32} (h : gb_rB R) : gb_iv 0 8 (R 1) := gb_iw (h 1 (by decide)) (by decide)
theorem rB_nP {R : Nat → Int32} (h : gb_rB R) : (R 0).toInt = gb_nP R ∧ gb_nP R ≤ 5 := by
  have := rB_P h
  have h1 := this.1
  have h2 := this.2
  unfold gb_nP
  omega
theorem rB_nG {R : Nat → Int32} (h : gb_rB R) : (R 1).toInt = gb_nG R ∧ gb_nG R ≤ 8 := by
  have := rB_G h
  have h1 := this.1
  have h2 := this.2
  unfold gb_nG
  omega
theorem rB_mi {R : Nat → Int32} {p : Nat} (h : gb_rB R) (hp : p < 5) : gb_iv 0 20 (R (3 + 3 * p)) := by
  have := h (3 + 3 * p) (by omega)
  have e := gt_R0p (c := p) (i := 0) (by omega) (by decide)
  rw [if_pos rfl, Nat.add_zero] at e
  rw [e] at this
  exact this
theorem rB_ra {R : Nat → Int32} {p : Nat} (h : gb_rB R) (hp : p < 5) : gb_iv 0 9 (R (3 + 3 * p + 1)) := by
  have := h (3 + 3 * p + 1) (by omega)
  have e := gt_R0p (c := p) (i := 1) (by omega) (by decide)
  rw [if_neg (by decide)] at e
  rw [e] at this
  exact this
theorem rB_pa {R : Nat → Int32} {p : Nat} (h : gb_rB R) (hp : p < 5) : gb_iv 0 9 (R (3 + 3 * p + 2)) := by
  have := h (3 + 3 * p + 2) (by omega)
  have e := gt_R0p (c := p) (i := 2) (by omega) (by decide)
  rw [if_neg (by decide)] at e
  rw [e] at this
  exact this
theorem rB_to {R : Nat → Int32} {g i : Nat} (h : gb_rB R) (hg : g < 8) (hi : i < 2) : gb_iv 0 4 (R (18 + 5 * g + i)) := by
  have := h (18 + 5 * g + i) (by omega)
  have e := gt_R0g (c := g) (i := i) (by omega) (by omega)
  rw [if_pos hi] at e
  rw [e] at this
  exact this
theorem rB_bo {R : Nat → Int32} {g : Nat} (h : gb_rB R) (hg : g < 8) : gb_iv 0 60 (R (18 + 5 * g + 2)) := by
  have := h (18 + 5 * g + 2) (by omega)
  have e := gt_R0g (c := g) (i := 2) (by omega) (by decide)
  rw [if_neg (by decide), if_pos rfl] at e
  rw [e] at this
  exact this
theorem rB_li {R : Nat → Int32} {g : Nat} (h : gb_rB R) (hg : g < 8) : gb_iv 0 1 (R (18 + 5 * g + 3)) := by
  have := h (18 + 5 * g + 3) (by omega)
  have e := gt_R0g (c := g) (i := 3) (by omega) (by decide)
  rw [if_neg (by decide), if_neg (by decide), if_pos rfl] at e
  rw [e] at this
  exact this
theorem rB_wo {R : Nat → Int32} {g : Nat} (h : gb_rB R) (hg : g < 8) : gb_iv 0 99 (R (18 + 5 * g + 4)) := by
  have := h (18 + 5 * g + 4) (by omega)
  have e := gt_R0g (c := g) (i := 4) (by omega) (by decide)
  rw [if_neg (by decide), if_neg (by decide), if_neg (by decide)] at e
  rw [e] at this
  exact this
theorem rB_of {f : gb_F} {m : Nat} (hM : gb_TM f) (hm : m < 2) : gb_rB (fun j => f 1 (gb_pl 0 m + j)) := fun j hj => by
  have h := hM.2 (gb_pl 0 m + j)
  rw [(gt_1R (by decide) (by omega) (show j < gb_sz 0 from hj)).1] at h
  exact h
theorem mbx_rB {m : Nat} {R : Nat → Int32} {f : gb_F} (h : gb_mbx m R f) : gb_rB R := h.1
/-! the class reads a border -/
theorem gi_3p {x : Int32} {p : Nat} (e : x.toInt = p) (hp : p ≤ 100) : ((3 : Int32) + (x * 3)).toInt = ((3 + 3 * p : Nat) : Int) := by
  have c3 : (3 : Int32).toInt = 3 := by decide
  have m1 : (x * 3).toInt = ((3 * p : Nat) : Int) := by
    rw [gb_tmul (by rw [e, c3]; omega) (by rw [e, c3]; omega), e, c3]
    omega
  rw [gb_tadd (by rw [m1, c3]; omega) (by rw [m1, c3]; omega), m1, c3]
  omega
theorem gi_18 {x : Int32} {g : Nat} (e : x.toInt = g) (hg : g ≤ 100) : ((18 : Int32) + (x * 5)).toInt = ((18 + 5 * g : Nat) : Int) := by
  have c5 : (5 : Int32).toInt = 5 := by decide
  have c18 : (18 : Int32).toInt = 18 := by decide
  have m1 : (x * 5).toInt = ((5 * g : Nat) : Int) := by
    rw [gb_tmul (by rw [e, c5]; omega) (by rw [e, c5]; omega), e, c5]
    omega
  rw [gb_tadd (by rw [m1, c18]; omega) (by rw [m1, c18]; omega), m1, c18]
  omega
theorem gi_pl {x y : Int32} {a b : Nat} (h : x.toInt = a) (g : y.toInt = b) (ha : a ≤ 100000) (hb : b ≤ 100000) : (x + y).toInt = ((a + b : Nat) : Int) := by
  rw [gb_tadd (by omega) (by omega), h, g]
  omega
theorem ch_miles {n : Nat} {σ : gb_S} {k0 p : Nat} {R : Nat → Int32} {x : Int32} (hb : gb_cbx k0 R σ) (hR : gb_rB R) (e : x.toInt = p) (hp : p < gb_nP R) : gb_hc (cs_Border_miles_B n σ k0 x) (fun s r => s = σ ∧ r = R (3 + 3 * p)) := by
  unfold cs_Border_miles_B
  have h5 := (rB_nP hR).2
  rw [gi_tn (gi_3p e (by omega))]
  refine hc_kk (fun _ => hc_ck (fun _ _ => hc_lt (fun y ey => hc_some ⟨rfl, ?_⟩)))
  rw [ey]
  exact (hb.2.1 rfl).2.2.1 p 0 hp (by decide)
theorem ch_rate {n : Nat} {σ : gb_S} {k0 p : Nat} {R : Nat → Int32} {x : Int32} (hb : gb_cbx k0 R σ) (hR : gb_rB R) (e : x.toInt = p) (hp : p < gb_nP R) : gb_hc (cs_Border_rate_B n σ k0 x) (fun s r => s = σ ∧ r = R (3 + 3 * p + 1)) := by
  unfold cs_Border_rate_B
  have h5 := (rB_nP hR).2
  rw [gi_tn (gi_pl (gi_3p e (by omega)) (b := 1) (by decide) (by omega) (by omega))]
  refine hc_kk (fun _ => hc_ck (fun _ _ => hc_lt (fun y ey => hc_some ⟨rfl, ?_⟩)))
  rw [ey]
  exact (hb.2.1 rfl).2.2.1 p 1 hp (by decide)
theorem ch_pad {n : Nat} {σ : gb_S} {k0 p : Nat} {R : Nat → Int32} {x : Int32} (hb : gb_cbx k0 R σ) (hR : gb_rB R) (e : x.toInt = p) (hp : p < gb_nP R) : gb_hc (cs_Border_pad_B n σ k0 x) (fun s r => s = σ ∧ r = R (3 + 3 * p + 2)) := by
  unfold cs_Border_pad_B
  have h5 := (rB_nP hR).2
  rw [gi_tn (gi_pl (gi_3p e (by omega)) (b := 2) (by decide) (by omega) (by omega))]
  refine hc_kk (fun _ => hc_ck (fun _ _ => hc_lt (fun y ey => hc_some ⟨rfl, ?_⟩)))
  rw [ey]
  exact (hb.2.1 rfl).2.2.1 p 2 hp (by decide)
theorem ch_toes {n : Nat} {σ : gb_S} {k0 g : Nat} {R : Nat → Int32} {x : Int32} (hb : gb_cbx k0 R σ) (hR : gb_rB R) (e : x.toInt = g) (hg : g < gb_nG R) : gb_hc (cs_Border_toes_B n σ k0 x) (fun s r => s = σ ∧ r = gb_toe R g) := by
  unfold cs_Border_toes_B
  have h8 := (rB_nG hR).2
  refine hc_kk (fun _ => hc_lt (fun y ey => ?_))
  have e1 := gi_18 e (by omega)
  rw [← ey] at e1
  rw [gi_tn e1, gi_tn (gi_pl e1 (b := 1) (by decide) (by omega) (by omega))]
  refine hc_ck (fun _ _ => hc_lt (fun z ez => hc_ck (fun _ _ => hc_lt (fun u eu => hc_some ⟨rfl, ?_⟩))))
  rw [ez, eu]
  unfold gb_toe
  rw [(hb.2.1 rfl).2.2.2 g 1 hg (by decide)]
  have q0 : σ.1 (k0 + 1) (18 + 5 * g) = R (18 + 5 * g) := (hb.2.1 rfl).2.2.2 g 0 hg (by decide)
  rw [q0]
theorem ch_boots {n : Nat} {σ : gb_S} {k0 g : Nat} {R : Nat → Int32} {x : Int32} (hb : gb_cbx k0 R σ) (hR : gb_rB R) (e : x.toInt = g) (hg : g < gb_nG R) : gb_hc (cs_Border_boots_B n σ k0 x) (fun s r => s = σ ∧ r = R (18 + 5 * g + 2)) := by
  unfold cs_Border_boots_B
  have h8 := (rB_nG hR).2
  rw [gi_tn (gi_pl (gi_18 e (by omega)) (b := 2) (by decide) (by omega) (by omega))]
  refine hc_kk (fun _ => hc_ck (fun _ _ => hc_lt (fun y ey => hc_some ⟨rfl, ?_⟩)))
  rw [ey]
  exact (hb.2.1 rfl).2.2.2 g 2 hg (by decide)
theorem ch_worth {n : Nat} {σ : gb_S} {k0 g : Nat} {R : Nat → Int32} {x : Int32} (hb : gb_cbx k0 R σ) (hR : gb_rB R) (e : x.toInt = g) (hg : g < gb_nG R) : gb_hc (cs_Border_worth_B n σ k0 x) (fun s r => s = σ ∧ r = R (18 + 5 * g + 4)) := by
  unfold cs_Border_worth_B
  have h8 := (rB_nG hR).2
  rw [gi_tn (gi_pl (gi_18 e (by omega)) (b := 4) (by decide) (by omega) (by omega))]
  refine hc_kk (fun _ => hc_ck (fun _ _ => hc_lt (fun y ey => hc_some ⟨rfl, ?_⟩)))
  rw [ey]
  exact (hb.2.1 rfl).2.2.2 g 4 hg (by decide)
theorem ch_limps {n : Nat} {σ : gb_S} {k0 g : Nat} {R : Nat → Int32} {x : Int32} (hb : gb_cbx k0 R σ) (hR : gb_rB R) (e : x.toInt = g) (hg : g < gb_nG R) : gb_hc (cs_Border_limps_B n σ k0 x) (fun s r => s = σ ∧ ((r = 1 ∧ R (18 + 5 * g + 3) = 1) ∨ (r = 0 ∧ ¬ R (18 + 5 * g + 3) = 1))) := by
  unfold cs_Border_limps_B
  have h8 := (rB_nG hR).2
  rw [gi_tn (gi_pl (gi_18 e (by omega)) (b := 3) (by decide) (by omega) (by omega))]
  have h3 := (hb.2.1 rfl).2.2.2 g 3 hg (by decide)
  refine hc_kk (fun _ => hc_ck (fun _ _ => hc_lt (fun y ey => ?_)))
  rw [h3] at ey
  subst ey
  exact hc_if (fun c => hc_some ⟨rfl, Or.inl ⟨rfl, c⟩⟩) (fun c => hc_some ⟨rfl, Or.inr ⟨rfl, c⟩⟩)
theorem ch_marksOver {n : Nat} {σ : gb_S} {k0 g : Nat} {R : Nat → Int32} {x mi bo fr : Int32} (hb : gb_cbx k0 R σ) (hR : gb_rB R) (e : x.toInt = g) (hg : g < gb_nG R) : gb_hc (cs_Border_marksOver_B n σ k0 x mi bo fr) (fun s r => s = σ ∧ r = gb_mk (gb_toe R g) mi bo (R (18 + 5 * g + 3)) fr) := by
  unfold cs_Border_marksOver_B
  refine hc_kk (fun _ => hc_lt (fun y ey => ?_))
  have go : ∀ t0 : Int32, t0 = (if fr = 0 then 2 * y else 0) → gb_hc (cs_Border_marksOver_B_20 n σ k0 x mi y t0) (fun s r => s = σ ∧ r = gb_mk (gb_toe R g) mi bo (R (18 + 5 * g + 3)) fr) := by
    intro t0 et
    unfold cs_Border_marksOver_B_20
    refine hc_kk (fun _ => hc_cd (ch_toes hb hR e hg) (fun s r h => ?_))
    obtain ⟨rfl, rfl⟩ := h
    refine hc_lt (fun z ez => hc_cd (ch_limps hb hR e hg) (fun s2 r2 h2 => ?_))
    obtain ⟨rfl, h2⟩ := h2
    refine hc_if (fun c => hc_some ⟨rfl, ?_⟩) (fun c => hc_some ⟨rfl, ?_⟩)
    · rcases h2 with q | q
      · rw [c] at q
        exact absurd q.1 (by decide)
      · unfold gb_mk
        rw [if_neg q.2, ez, et, ey]
    · rcases h2 with q | q
      · unfold gb_mk
        rw [if_pos q.2, ez, et, ey]
      · exact absurd q.1 c
  exact hc_if (fun c => go _ (by rw [if_pos c])) (fun c => go _ (by rw [if_neg c]))
theorem ch_marksFirst {n : Nat} {σ : gb_S} {k0 g p : Nat} {R : Nat → Int32} {x y : Int32} (hb : gb_cbx k0 R σ) (hR : gb_rB R) (e : x.toInt = g) (hg : g < gb_nG R) (e2 : y.toInt = p) (hp : p < gb_nP R) : gb_hc (cs_Border_marksFirst_B n σ k0 x y) (fun s r => s = σ ∧ r = gb_fm R g p) := by
  unfold cs_Border_marksFirst_B
  refine hc_kk (fun _ => hc_cd (ch_miles hb hR e2 hp) (fun s r h => ?_))
  obtain ⟨rfl, rfl⟩ := h
  refine hc_cd (ch_boots hb hR e hg) (fun s r h => ?_)
  obtain ⟨rfl, rfl⟩ := h
  exact hc_cd (ch_marksOver hb hR e hg) (fun s r h => hc_some h)
theorem ch_padded {n : Nat} {σ : gb_S} {k0 p : Nat} {R : Nat → Int32} {x y : Int32} (hb : gb_cbx k0 R σ) (hR : gb_rB R) (e : x.toInt = p) (hp : p < gb_nP R) : gb_hc (cs_Border_padded_B n σ k0 x y) (fun s r => s = σ ∧ r = gb_pd R p y) := by
  unfold cs_Border_padded_B
  refine hc_kk (fun _ => hc_cd (ch_pad hb hR e hp) (fun s r h => ?_))
  obtain ⟨rfl, rfl⟩ := h
  exact hc_lt (fun z ez => hc_some ⟨rfl, by rw [ez]; rfl⟩)
theorem ch_payOf {n : Nat} {σ : gb_S} {k0 p : Nat} {R : Nat → Int32} {x y : Int32} (hb : gb_cbx k0 R σ) (hR : gb_rB R) (e : x.toInt = p) (hp : p < gb_nP R) : gb_hc (cs_Border_payOf_B n σ k0 x y) (fun s r => s = σ ∧ r = gb_py R p y) := by
  unfold cs_Border_payOf_B
  refine hc_kk (fun _ => hc_cd (ch_rate hb hR e hp) (fun s r h => ?_))
  obtain ⟨rfl, rfl⟩ := h
  refine hc_cd (ch_padded hb hR e hp) (fun s2 r2 h2 => hc_some ⟨h2.1, ?_⟩)
  rw [h2.2]
  rfl
/-! the reference reads a border -/
theorem mx_paths {n m : Nat} {R : Nat → Int32} {f : gb_F} {w : Int64} (h : gb_mbx m R f) : gb_hm (ms_paths n f w) (fun f2 w2 r => f2 = f ∧ w2 = w ∧ r = R 0) := hm_mono (mh_paths h.2.2.1 h.2.1) (fun f2 w2 r g => ⟨g.1, g.2.1, by rw [g.2.2]; exact h.2.2.2 0⟩)
theorem mx_geese {n m : Nat} {R : Nat → Int32} {f : gb_F} {w : Int64} (h : gb_mbx m R f) : gb_hm (ms_geese n f w) (fun f2 w2 r => f2 = f ∧ w2 = w ∧ r = R 1) := hm_mono (mh_geese h.2.2.1 h.2.1) (fun f2 w2 r g => ⟨g.1, g.2.1, by rw [g.2.2]; exact h.2.2.2 1⟩)
theorem mx_ofPath {n m p j : Nat} {R : Nat → Int32} {f : gb_F} {w : Int64} {x y : Int32} (h : gb_mbx m R f) (e1 : x.toInt = p) (hp : p ≤ 100) (e2 : y.toInt = j) (hj : j ≤ 100) : gb_hm (ms_ofPath n f w x y) (fun f2 w2 r => f2 = f ∧ w2 = w ∧ r = R (3 + 3 * p + j)) := hm_mono (mh_ofPath h.2.2.1 h.2.1 e1 hp e2 hj) (fun f2 w2 r g => ⟨g.1, g.2.1, by rw [g.2.2]; exact h.2.2.2 _⟩)
theorem mx_ofGoose {n m p j : Nat} {R : Nat → Int32} {f : gb_F} {w : Int64} {x y : Int32} (h : gb_mbx m R f) (e1 : x.toInt = p) (hp : p ≤ 100) (e2 : y.toInt = j) (hj : j ≤ 100) : gb_hm (ms_ofGoose n f w x y) (fun f2 w2 r => f2 = f ∧ w2 = w ∧ r = R (18 + 5 * p + j)) := hm_mono (mh_ofGoose h.2.2.1 h.2.1 e1 hp e2 hj) (fun f2 w2 r g => ⟨g.1, g.2.1, by rw [g.2.2]; exact h.2.2.2 _⟩)
theorem mx_of {n m j : Nat} {R : Nat → Int32} {f : gb_F} {w : Int64} {x : Int32} (h : gb_mbx m R f) (e : x.toInt = j) (hj : j ≤ 1000) : gb_hm (ms_of n f w x) (fun f2 w2 r => f2 = f ∧ w2 = w ∧ r = R j) := hm_mono (mh_of h.2.2.1 h.2.1 e hj) (fun f2 w2 r g => ⟨g.1, g.2.1, by rw [g.2.2]; exact h.2.2.2 _⟩)
theorem mx_isPath {n m : Nat} {R : Nat → Int32} {f : gb_F} {w : Int64} {x : Int32} (h : gb_mbx m R f) : gb_hm (ms_isPath n f w x) (fun f2 w2 r => f2 = f ∧ w2 = w ∧ ((r = 0 ∧ gb_nk x (R 0)) ∨ ∃ p : Nat, r = 1 ∧ gb_lk x (R 0) p)) := by
  unfold ms_isPath
  refine hm_bd (mx_paths h) (fun g u r k => ?_)
  obtain ⟨rfl, rfl, rfl⟩ := k
  exact hm_bd (mh_below (gb_iw (rB_P h.1) (by decide))) (fun g2 u2 r2 h2 => hm_cb (fun _ => hm_some h2))
theorem mx_isGoose {n m : Nat} {R : Nat → Int32} {f : gb_F} {w : Int64} {x : Int32} (h : gb_mbx m R f) : gb_hm (ms_isGoose n f w x) (fun f2 w2 r => f2 = f ∧ w2 = w ∧ ((r = 0 ∧ gb_nk x (R 1)) ∨ ∃ p : Nat, r = 1 ∧ gb_lk x (R 1) p)) := by
  unfold ms_isGoose
  refine hm_bd (mx_geese h) (fun g u r k => ?_)
  obtain ⟨rfl, rfl, rfl⟩ := k
  exact hm_bd (mh_below (gb_iw (rB_G h.1) (by decide))) (fun g2 u2 r2 h2 => hm_cb (fun _ => hm_some h2))
theorem gb_m1 {x : Int32} (i : gb_iv 0 1 x) (y : Int32) : y * (1 + x) = if x = 1 then 2 * y else y := by
  rcases gb_01 i with e | e
  · subst e
    rw [if_neg (by decide), show (1 : Int32) + 0 = 1 from by decide, Int32.mul_one]
  · subst e
    rw [if_pos rfl, show (1 : Int32) + 1 = 2 from by decide, Int32.mul_comm]
theorem mx_left {n m g : Nat} {R : Nat → Int32} {f : gb_F} {w : Int64} {x mi bo fr li : Int32} (h : gb_mbx m R f) (e : x.toInt = g) (hg : g ≤ 100) (hl : gb_iv 0 1 li) : gb_hm (ms_left n f w x mi bo fr li) (fun f2 w2 r => f2 = f ∧ w2 = w ∧ r = gb_mk (gb_toe R g) mi bo li fr) := by
  have go : ∀ t0 : Int32, t0 = (if bo < mi then bo else mi) → gb_hm (ms_left_10 n f w x mi fr li t0) (fun f2 w2 r => f2 = f ∧ w2 = w ∧ r = gb_mk (gb_toe R g) mi bo li fr) := by
    intro t0 et
    unfold ms_left_10
    refine hm_bd (mx_ofGoose h e hg (j := 0) (by decide) (by decide)) (fun g1 u1 r1 h1 => ?_)
    obtain ⟨rfl, rfl, h1⟩ := h1
    refine hm_bd (mx_ofGoose h e hg (j := 1) (by decide) (by decide)) (fun g2 u2 r2 h2 => ?_)
    obtain ⟨rfl, rfl, h2⟩ := h2
    refine hm_lt (fun y ey => ?_)
    have ty : y = gb_toe R g := by
      rw [ey, h1, h2]
      rfl
    refine hm_if (fun c => hm_some ⟨rfl, rfl, ?_⟩) (fun c => hm_some ⟨rfl, rfl, ?_⟩)
    · unfold gb_mk
      rw [gb_m1 hl, ty, et, if_pos c]
    · unfold gb_mk
      rw [gb_m1 hl, ty, et, if_neg c]
  unfold ms_left
  refine hm_if (fun c => go _ ?_) (fun c => go _ ?_)
  · rw [if_neg (fun z => by have := gi_le c; have := gi_lt z; omega)]
  · rw [if_pos (Int32.lt_iff_toInt_lt.mpr (gi_nle c))]
theorem mx_firstMarks {n m g p : Nat} {R : Nat → Int32} {f : gb_F} {w : Int64} {x y : Int32} (h : gb_mbx m R f) (e : x.toInt = g) (hg : g < 8) (e2 : y.toInt = p) (hp : p < 5) : gb_hm (ms_firstMarks n f w x y) (fun f2 w2 r => f2 = f ∧ w2 = w ∧ r = gb_fm R g p) := by
  unfold ms_firstMarks
  have hR := mbx_rB h
  refine hm_bd (mx_ofPath h e2 (by omega) (j := 0) (by decide) (by decide)) (fun g1 u1 r1 h1 => ?_)
  obtain ⟨rfl, rfl, h1⟩ := h1
  refine hm_bd (mx_ofGoose h e (by omega) (j := 2) (by decide) (by decide)) (fun g2 u2 r2 h2 => ?_)
  obtain ⟨rfl, rfl, h2⟩ := h2
  refine hm_bd (mx_ofGoose h e (by omega) (j := 3) (by decide) (by decide)) (fun g3 u3 r3 h3 => ?_)
  obtain ⟨rfl, rfl, h3⟩ := h3
  rw [Nat.add_zero] at h1
  refine hm_bd (mx_left h e (by omega) (by rw [h3]; exact rB_li hR hg)) (fun g4 u4 r4 h4 => hm_some ⟨h4.1, h4.2.1, ?_⟩)
  rw [h4.2.2, h1, h2, h3]
  rfl
theorem mx_padded {n m p : Nat} {R : Nat → Int32} {f : gb_F} {w : Int64} {x y : Int32} (h : gb_mbx m R f) (e : y.toInt = p) (hp : p ≤ 100) : gb_hm (ms_padded n f w x y) (fun f2 w2 r => f2 = f ∧ w2 = w ∧ r = gb_pd R p x) := by
  unfold ms_padded
  refine hm_bd (mx_ofPath h e hp (j := 2) (by decide) (by decide)) (fun g1 u1 r1 h1 => ?_)
  obtain ⟨rfl, rfl, h1⟩ := h1
  refine hm_lt (fun z ez => hm_some ⟨rfl, rfl, ?_⟩)
  rw [ez, h1]
  rfl
/-! a border is chosen on both sides -/
theorem lk_uq {x c : Int32} {p q : Nat} (h : gb_lk x c p) (g : gb_lk x c q) : p = q := by
  have := h.1
  have := g.1
  omega
theorem lk_no {x c : Int32} {p : Nat} (h : gb_lk x c p) (g : gb_nk x c) : False := by
  have h1 := h.1
  have h2 := h.2
  rcases g with g | g <;> omega
theorem Lk_no {s : Nat} {x c : Int32} {p : Nat} (h : gb_Lk s x c p) (g : gb_Nk x c) : False := by
  have h1 := h.1
  have h2 := h.2
  rcases g with g | g <;> omega
theorem Lk_uq {s : Nat} {x c : Int32} {p q : Nat} (h : gb_Lk s x c p) (g : gb_Lk s x c q) : p = q := by
  have := h.1
  have := g.1
  omega
theorem R_sheet {σ : gb_S} {f : gb_F} {s m : Nat} {p : Int32} (h : gb_R σ f) (hs : s < 4) (hL : gb_Lk s p (f 1 s) m) : gb_RS s (σ.1 (gb_o s m + 1)) (fun j => f 1 (gb_pl s m + j)) := by
  have := h.1.2.2.2.2.2 s m hs (by have := hL.2; omega)
  rw [show gb_o s m + 1 = 1 + gb_o s m by omega]
  exact this
theorem R_held {σ : gb_S} {f : gb_F} {s : Nat} (h : gb_R σ f) (hs : s < 4) : σ.1 22 s = f 1 s := h.1.1 s hs
theorem mbx_u {m : Nat} {f f2 : gb_F} {v : Int32} (hM : gb_TM f) (hm : m < 2) (hb : gb_mb 11 0 m f2) (e : f2 = gb_u f 0 (upd (f 0) 11 v)) : gb_mbx m (fun j => f 1 (gb_pl 0 m + j)) f2 := ⟨rB_of hM hm, hm, hb, fun j => by rw [e, gb_un (by decide)]⟩
abbrev gb_i0 (x c : Int32) : Prop := 0 ≤ x.toInt ∧ x.toInt < c.toInt
theorem in_lk {x c : Int32} {p : Nat} (h : gb_lk x c p) : gb_i0 x c := ⟨by have := h.1; omega, by have := h.1; have := h.2; omega⟩
theorem in_nk {x c : Int32} (h : gb_nk x c) : ¬ gb_i0 x c := fun z => by
  rcases h with h | h
  · have := z.1; omega
  · have := z.2; omega
theorem in_Lk {s : Nat} {x c : Int32} {p : Nat} (h : gb_Lk s x c p) : gb_i0 x c := ⟨by have := h.1; omega, by have := h.1; have := h.2; omega⟩
theorem in_Nk {x c : Int32} (h : gb_Nk x c) : ¬ gb_i0 x c := fun z => by
  rcases h with h | h
  · have := z.1; omega
  · have := z.2; omega
theorem lk_t {x c : Int32} {p : Nat} (h : gb_lk x c p) : x.toInt.toNat = p := by have := h.1; omega
theorem Lk_t {s : Nat} {x c : Int32} {p : Nat} (h : gb_Lk s x c p) : x.toInt.toNat = p := by have := h.1; omega
/-- the numbers of the sheet that a number names -/
def gb_Rs (s : Nat) (f : gb_F) (p : Int32) : Nat → Int32 := fun j => f 1 (gb_pl s p.toInt.toNat + j)
theorem Rs_E {s m : Nat} {f : gb_F} {p c : Int32} (h : gb_Lk s p c m) : gb_Rs s f p = fun j => f 1 (gb_pl s m + j) := by
  unfold gb_Rs
  rw [Lk_t h]
/-- the class finds a border -/
theorem cx_border {n : Nat} {σ : gb_S} {f : gb_F} {p1 : Int32} (h : gb_R σ f) (hM : gb_TM f) : gb_hc (cs_Face_borderAt n σ p1) (fun s r => s = σ ∧ ((r = 0 ∧ ¬ gb_i0 p1 (f 1 0)) ∨ (r ≠ 0 ∧ gb_i0 p1 (f 1 0) ∧ gb_cbx r (gb_Rs 0 f p1) σ ∧ gb_rB (gb_Rs 0 f p1)))) := by
  refine hc_mono ch_borderAt (fun s r g => ⟨g.1, ?_⟩)
  have hh := R_held h (s := 0) (by decide)
  rw [hh] at g
  rcases g.2 with z | ⟨m, z1, z2, z3, z4⟩
  · exact Or.inl ⟨z.1, in_Nk z.2⟩
  · refine Or.inr ⟨z4, in_Lk z1, ?_, ?_⟩
    · rw [Rs_E z1, z3]
      exact R_sheet h (by decide) z1
    · rw [Rs_E z1]
      exact rB_of hM z2
/-- the reference finds a border -/
theorem mx_isBorder {n : Nat} {f : gb_F} {w : Int64} {p1 : Int32} (hM : gb_TM f) : gb_hm (ms_isBorder n f w p1) (fun f2 w2 r => w2 = w ∧ f2 1 = f 1 ∧ gb_TM f2 ∧ ((r = 0 ∧ ¬ gb_i0 p1 (f 1 0)) ∨ (r = 1 ∧ gb_i0 p1 (f 1 0) ∧ ∃ m, gb_mbx m (gb_Rs 0 f p1) f2))) := by
  refine hm_mono (hm_and (mh_isBorder hM) (hm_of (mt_isBorder hM))) (fun f2 w2 r g => ?_)
  obtain ⟨⟨g1, g2⟩, g3, -⟩ := g
  rcases g2 with ⟨z1, z2, z3⟩ | ⟨m, z1, z2, z3, z4, v, z5⟩
  · exact ⟨g1, by rw [z2], g3, Or.inl ⟨z1, in_Nk z3⟩⟩
  · refine ⟨g1, by rw [z5, gb_un (by decide)], g3, Or.inr ⟨z1, in_Lk z2, m, ?_⟩⟩
    rw [Rs_E z2]
    exact mbx_u hM z3 z4 z5
/-! marks -/
def gb_Amarks (f : gb_F) (p1 p2 p3 p4 : Int32) : Int32 := if gb_i0 p1 (f 1 0) then (if gb_i0 p2 (gb_Rs 0 f p1 1) ∧ gb_i0 p3 (gb_Rs 0 f p1 0) then gb_mk (gb_toe (gb_Rs 0 f p1) p2.toInt.toNat) (gb_Rs 0 f p1 (3 + 3 * p3.toInt.toNat)) (gb_Rs 0 f p1 (18 + 5 * p2.toInt.toNat + 2)) (gb_Rs 0 f p1 (18 + 5 * p2.toInt.toNat + 3)) p4 else -1) else -1
theorem cbx_has {n : Nat} {σ : gb_S} {k0 : Nat} {R : Nat → Int32} {x : Int32} (hb : gb_cbx k0 R σ) : gb_hc (cs_Border_hasPath_B n σ k0 x) (fun s r => s = σ ∧ ((r = 0 ∧ ¬ gb_i0 x (R 0)) ∨ (r = 1 ∧ gb_i0 x (R 0) ∧ x.toInt = x.toInt.toNat ∧ x.toInt.toNat < gb_nP R))) := by
  refine hc_mono ch_hasPath (fun s r h => ⟨h.1, ?_⟩)
  have e : σ.1 (k0 + 1) 0 = R 0 := hb.1
  rw [e] at h
  rcases h.2 with z | ⟨p, z1, z2⟩
  · exact Or.inl ⟨z.1, in_nk z.2⟩
  · have h1 := z2.1
    have h2 := z2.2
    exact Or.inr ⟨z1, in_lk z2, by omega, by unfold gb_nP; omega⟩
theorem cbx_hasG {n : Nat} {σ : gb_S} {k0 : Nat} {R : Nat → Int32} {x : Int32} (hb : gb_cbx k0 R σ) : gb_hc (cs_Border_hasGoose_B n σ k0 x) (fun s r => s = σ ∧ ((r = 0 ∧ ¬ gb_i0 x (R 1)) ∨ (r = 1 ∧ gb_i0 x (R 1) ∧ x.toInt = x.toInt.toNat ∧ x.toInt.toNat < gb_nG R))) := by
  refine hc_mono ch_hasGoose (fun s r h => ⟨h.1, ?_⟩)
  have e : σ.1 (k0 + 1) 1 = R 1 := (hb.2.1 rfl).1
  rw [e] at h
  rcases h.2 with z | ⟨p, z1, z2⟩
  · exact Or.inl ⟨z.1, in_nk z.2⟩
  · have h1 := z2.1
    have h2 := z2.2
    exact Or.inr ⟨z1, in_lk z2, by omega, by unfold gb_nG; omega⟩
theorem mbx_has {n m : Nat} {R : Nat → Int32} {f : gb_F} {w : Int64} {x : Int32} (h : gb_mbx m R f) : gb_hm (ms_isPath n f w x) (fun f2 w2 r => f2 = f ∧ w2 = w ∧ ((r = 0 ∧ ¬ gb_i0 x (R 0)) ∨ (r = 1 ∧ gb_i0 x (R 0) ∧ x.toInt = x.toInt.toNat ∧ x.toInt.toNat < gb_nP R))) := by
  refine hm_mono (mx_isPath h) (fun f2 w2 r g => ⟨g.1, g.2.1, ?_⟩)
  rcases g.2.2 with z | ⟨p, z1, z2⟩
  · exact Or.inl ⟨z.1, in_nk z.2⟩
  · have h1 := z2.1
    have h2 := z2.2
    exact Or.inr ⟨z1, in_lk z2, by omega, by unfold gb_nP; omega⟩
theorem mbx_hasG {n m : Nat} {R : Nat → Int32} {f : gb_F} {w : Int64} {x : Int32} (h : gb_mbx m R f) : gb_hm (ms_isGoose n f w x) (fun f2 w2 r => f2 = f ∧ w2 = w ∧ ((r = 0 ∧ ¬ gb_i0 x (R 1)) ∨ (r = 1 ∧ gb_i0 x (R 1) ∧ x.toInt = x.toInt.toNat ∧ x.toInt.toNat < gb_nG R))) := by
  refine hm_mono (mx_isGoose h) (fun f2 w2 r g => ⟨g.1, g.2.1, ?_⟩)
  rcases g.2.2 with z | ⟨p, z1, z2⟩
  · exact Or.inl ⟨z.1, in_nk z.2⟩
  · have h1 := z2.1
    have h2 := z2.2
    exact Or.inr ⟨z1, in_lk z2, by omega, by unfold gb_nG; omega⟩
/-- a yes or no that was answered -/
theorem yn_0 {r : Int32} {P Q : Prop} (h : (r = 0 ∧ P) ∨ (r = 1 ∧ Q)) (c : r = 0) : P := by
  rcases h with z | z
  · exact z.2
  · rw [c] at z
    exact absurd z.1 (by decide)
theorem yn_1 {r : Int32} {P Q : Prop} (h : (r = 0 ∧ P) ∨ (r = 1 ∧ Q)) (c : ¬ r = 0) : Q := by
  rcases h with z | z
  · exact absurd z.1 c
  · exact z.2
theorem c_marks {n : Nat} {σ : gb_S} {f : gb_F} {p1 p2 p3 p4 : Int32} (h : gb_R σ f) (hM : gb_TM f) : gb_hc (cs_Face_marks n σ p1 p2 p3 p4) (fun _ r => r = gb_Amarks f p1 p2 p3 p4) := by
  unfold cs_Face_marks
  refine hc_cd (cx_border h hM) (fun s r g => ?_)
  obtain ⟨rfl, g⟩ := g
  rcases g with ⟨g1, g2⟩ | ⟨g1, g2, g3, g4⟩
  · rw [if_pos g1]
    refine hc_some ?_
    unfold gb_Amarks
    rw [if_neg g2]
  · rw [if_neg g1]
    refine hc_kk (fun _ => hc_cd (cbx_hasG g3) (fun s2 r2 k => ?_))
    obtain ⟨rfl, k⟩ := k
    refine hc_if (fun c => hc_some ?_) (fun c => ?_)
    · unfold gb_Amarks
      rw [if_pos g2, if_neg (fun z => (yn_0 k c) z.1)]
    · obtain ⟨k1, k2, k3⟩ := yn_1 k c
      refine hc_cd (cbx_has g3) (fun s3 r3 k' => ?_)
      obtain ⟨rfl, k'⟩ := k'
      refine hc_if (fun c => hc_some ?_) (fun c => ?_)
      · unfold gb_Amarks
        rw [if_pos g2, if_neg (fun z => (yn_0 k' c) z.2)]
      · obtain ⟨l1, l2, l3⟩ := yn_1 k' c
        refine hc_cd (ch_miles g3 g4 l2 l3) (fun s4 r4 e4 => ?_)
        obtain ⟨rfl, rfl⟩ := e4
        refine hc_cd (ch_boots g3 g4 k2 k3) (fun s5 r5 e5 => ?_)
        obtain ⟨rfl, rfl⟩ := e5
        refine hc_cd (ch_marksOver g3 g4 k2 k3) (fun s6 r6 e6 => hc_some ?_)
        rw [e6.2]
        unfold gb_Amarks
        rw [if_pos g2, if_pos ⟨k1, l1⟩]
theorem m_marks {n : Nat} {f : gb_F} {w : Int64} {p1 p2 p3 p4 : Int32} (hM : gb_TM f) : gb_hm (ms_marks n f w p1 p2 p3 p4) (fun _ _ r => r = gb_Amarks f p1 p2 p3 p4) := by
  unfold ms_marks
  refine hm_bd (mx_isBorder hM) (fun f1 w1 r g => ?_)
  obtain ⟨-, -, hM1, g⟩ := g
  refine hm_if (fun c => hm_some ?_) (fun c => ?_)
  · unfold gb_Amarks
    rw [if_neg (yn_0 g c)]
  · obtain ⟨g2, m, g3⟩ := yn_1 g c
    have g4 := mbx_rB g3
    refine hm_bd (mbx_hasG g3) (fun f2 w2 r2 k => ?_)
    obtain ⟨rfl, rfl, k⟩ := k
    refine hm_if (fun c => hm_some ?_) (fun c => ?_)
    · unfold gb_Amarks
      rw [if_pos g2, if_neg (fun z => (yn_0 k c) z.1)]
    · obtain ⟨k1, k2, k3⟩ := yn_1 k c
      have k8 := (rB_nG g4).2
      refine hm_bd (mbx_has g3) (fun f3 w3 r3 k' => ?_)
      obtain ⟨rfl, rfl, k'⟩ := k'
      refine hm_if (fun c => hm_some ?_) (fun c => ?_)
      · unfold gb_Amarks
        rw [if_pos g2, if_neg (fun z => (yn_0 k' c) z.2)]
      · obtain ⟨l1, l2, l3⟩ := yn_1 k' c
        have l5 := (rB_nP g4).2
        refine hm_bd (mx_ofPath g3 l2 (by omega) (j := 0) (by decide) (by decide)) (fun f4 w4 r4 e4 => ?_)
        obtain ⟨rfl, rfl, e4⟩ := e4
        refine hm_bd (mx_ofGoose g3 k2 (by omega) (j := 2) (by decide) (by decide)) (fun f5 w5 r5 e5 => ?_)
        obtain ⟨rfl, rfl, e5⟩ := e5
        refine hm_bd (mx_ofGoose g3 k2 (by omega) (j := 3) (by decide) (by decide)) (fun f6 w6 r6 e6 => ?_)
        obtain ⟨rfl, rfl, e6⟩ := e6
        rw [Nat.add_zero] at e4
        refine hm_bd (mx_left g3 k2 (by omega) (by rw [e6]; exact rB_li g4 (by omega))) (fun f7 w7 r7 e7 => hm_some ?_)
        rw [e7.2.2, e4, e5, e6]
        unfold gb_Amarks
        rw [if_pos g2, if_pos ⟨k1, l1⟩]
theorem e_marks {σ σ2 : gb_S} {f f2 : gb_F} {w w2 : Int64} {p1 p2 p3 p4 ra qa : Int32} (_ : gb_TC σ) (hM : gb_TM f) (h : gb_R σ f) (ec : cs_Face_marks gb_N σ p1 p2 p3 p4 = some (σ2, ra)) (em : ms_marks gb_N f w p1 p2 p3 p4 = some (f2, w2, qa)) : ra = qa := (c_marks h hM _ _ ec).trans (m_marks hM _ _ _ em).symm
