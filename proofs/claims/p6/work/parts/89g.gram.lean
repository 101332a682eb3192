/-! THE GRAMMAR of lines, pure; bytes of both sides; the class's Reader: blanks, words -/
def gb_num (T : Nat → Int32) (N p q e : Nat) (v : Int) : Prop := gb_run (gb_bl T N) p q ∧ gb_run (gb_di T N) q e ∧ q < e ∧ e - q ≤ 3 ∧ v = gb_val T q (e - q)
def gb_nonum (T : Nat → Int32) (N p q : Nat) : Prop := gb_run (gb_bl T N) p q ∧ ∀ e, gb_run (gb_di T N) q e → e = q ∨ 3 < e - q
def gb_semi (T : Nat → Int32) (N p q : Nat) : Prop := gb_run (gb_bl T N) p q ∧ q < N ∧ T q = 59
def gb_nosemi (T : Nat → Int32) (N p q : Nat) : Prop := gb_run (gb_bl T N) p q ∧ ¬ (q < N ∧ T q = 59)
def gb_kn (l : Nat) : Nat := ([3, 5, 1, 2, 2, 2, 3, 2, 1, 0, 0, 1, 1, 2, 2, 1, 1, 2] : List Nat).getD l 0
def gb_fl (s : Nat) : Nat := ([0, 3, 12, 17, 18] : List Nat).getD s 0
def gb_nums (T : Nat → Int32) (N : Nat) (ps qs : Nat → Nat) (vs : Nat → Int) (k : Nat) : Prop := ∀ i, i < k → gb_num T N (ps i) (qs i) (ps (i + 1)) (vs i)
def gb_word (T : Nat → Int32) (N s a l e : Nat) : Prop := gb_fl s ≤ l ∧ l < gb_fl (s + 1) ∧ gb_run (gb_lt1 T N) a e ∧ gb_isw T a e l
def gb_bad (T : Nat → Int32) (N s a q : Nat) : Prop := (q = a ∧ ∀ l e, ¬ gb_word T N s a l e) ∨ ∃ (l : Nat) (ps qs : Nat → Nat) (vs : Nat → Int) (i : Nat), gb_word T N s a l (ps 0) ∧ gb_nums T N ps qs vs i ∧ ((i < gb_kn l ∧ gb_nonum T N (ps i) q) ∨ (i = gb_kn l ∧ gb_nosemi T N (ps i) q))
def gb_goodl (T : Nat → Int32) (N s a l : Nat) (ps qs : Nat → Nat) (vs : Nat → Int) (e : Nat) : Prop := gb_word T N s a l (ps 0) ∧ gb_nums T N ps qs vs (gb_kn l) ∧ ∃ q, gb_semi T N (ps (gb_kn l)) q ∧ e = q + 1
/-- the first fault told stays -/
def gb_note (fp : Int32 × Int32) (k : Int32) (q : Nat) : Int32 × Int32 := if fp.1 = 0 then (k, nI q) else fp
abbrev gb_can (l i : Nat) (v v0 : Int) : Prop := ¬ (l = 6 ∧ i = 1 ∧ v = v0) ∧ (if l = 0 ∧ i = 0 then (1 : Int) else 0) ≤ v ∧ v ≤ (gb_tb2 (5 * l + i)).toInt
/-- faults of the first so many numbers of a line -/
def gb_ff (l : Nat) (qs : Nat → Nat) (vs : Nat → Int) (fp : Int32 × Int32) : Nat → Int32 × Int32
  | 0 => fp
  | i + 1 => if gb_can l i (vs i) (vs 0) then gb_ff l qs vs fp i else gb_note (gb_ff l qs vs fp i) 2 (qs i)
def gb_byr (c F : Int32) : Prop := (0 ≤ c.toInt ∧ F = c) ∨ (c.toInt < 0 ∧ 128 ≤ F.toInt)
theorem byr_eq {c F k : Int32} (h : gb_byr c F) (h0 : 0 ≤ k.toInt) (h1 : k.toInt ≤ 127) : c = k ↔ F = k := by
  rcases h with ⟨a, b⟩ | ⟨a, b⟩
  · rw [b]
  · constructor
    · intro e
      rw [e] at a
      omega
    · intro e
      rw [e] at b
      omega
theorem byr_rg {c F : Int32} {lo hi : Int} (h : gb_byr c F) (h0 : 0 ≤ lo) (h1 : hi ≤ 127) : (lo ≤ c.toInt ∧ c.toInt ≤ hi) ↔ (lo ≤ F.toInt ∧ F.toInt ≤ hi) := by
  rcases h with ⟨a, b⟩ | ⟨a, b⟩
  · rw [b]
  · constructor <;> (intro e; omega)
theorem byr_in {c F : Int32} (h : gb_byr c F) (h1 : F.toInt ≤ 127) : F = c := by
  rcases h with ⟨a, b⟩ | ⟨a, b⟩
  · exact b
  · omega
def gb_rc (T : Nat → Int32) (N : Nat) (σ : gb_S) : Prop := σ.2.1 0 = 23 ∧ (σ.1 106 2).toInt = N ∧ N ≤ 600 ∧ ∀ i, i < N → gb_byr (σ.1 23 i) (T i)
def gb_at1 (σ : gb_S) (q : Nat) (σ2 : gb_S) : Prop := σ2.2 = σ.2 ∧ (∀ k, k ≠ 106 → σ2.1 k = σ.1 k) ∧ (∀ j, j ≠ 3 → σ2.1 106 j = σ.1 106 j) ∧ (σ2.1 106 3).toInt = q
theorem at_u {σ : gb_S} {v : Int32} {q : Nat} (e : v.toInt = q) : gb_at1 σ q (gb_su σ 106 (upd (σ.1 106) 3 v)) := ⟨rfl, fun k hk => gb_sun hk, fun j hj => by rw [gb_sus, pk_un hj], by rw [gb_sus, pk_us]; exact e⟩
theorem at_r {σ : gb_S} {q : Nat} (e : (σ.1 106 3).toInt = q) : gb_at1 σ q σ := ⟨rfl, fun _ _ => rfl, fun _ _ => rfl, e⟩
theorem at_t {σ σ1 σ2 : gb_S} {p q : Nat} (h : gb_at1 σ p σ1) (g : gb_at1 σ1 q σ2) : gb_at1 σ q σ2 := ⟨g.1.trans h.1, fun k hk => (g.2.1 k hk).trans (h.2.1 k hk), fun j hj => (g.2.2.1 j hj).trans (h.2.2.1 j hj), g.2.2.2⟩
theorem rc_at {T : Nat → Int32} {N q : Nat} {σ σ2 : gb_S} (h : gb_rc T N σ) (g : gb_at1 σ q σ2) : gb_rc T N σ2 := ⟨by rw [g.1]; exact h.1, by rw [g.2.2.1 2 (by decide)]; exact h.2.1, h.2.2.1, fun i hi => by rw [g.2.1 23 (by decide)]; exact h.2.2.2 i hi⟩
theorem ch_skip0 {n : Nat} {T : Nat → Int32} {N : Nat} : ∀ (mm : Nat) (σ : gb_S) (p : Nat), gb_rc T N σ → (σ.1 106 3).toInt = p → p ≤ N → gb_hc (cs_Reader_skipBlanks_0 n mm σ) (fun σ2 _ => ∃ q, gb_run (gb_bl T N) p q ∧ q ≤ N ∧ gb_at1 σ q σ2) := by
  intro mm
  induction mm with
  | zero =>
    intros
    exact hc_none
  | succ mm ih =>
    intro σ p hx h3 hp
    rw [cs_Reader_skipBlanks_0]
    have hN := hx.2.2.1
    have hlen := hx.2.1
    have tp := gi_tn h3
    have step : ∀ s : gb_S, gb_bl T N p → s = gb_su σ 106 (upd (σ.1 106) 3 ((σ.1 106 3) + 1)) → gb_hc (cs_Reader_skipBlanks_0 n mm s) (fun σ2 _ => ∃ q, gb_run (gb_bl T N) p q ∧ q ≤ N ∧ gb_at1 σ q σ2) := fun s hb es => by
      have hpN := hb.1
      have a1 : gb_at1 σ (p + 1) s := by
        rw [es]
        exact at_u (gi_s1 h3 (by omega))
      refine hc_mono (ih s (p + 1) (rc_at hx a1) a1.2.2.2 (by omega)) (fun σ2 _ h => ?_)
      obtain ⟨q, g1, g2, g3⟩ := h
      exact ⟨q, run_s hb g1, g2, at_t a1 g3⟩
    refine hc_if (fun c => hc_some ⟨p, run_0 (fun z => ?_), hp, at_r h3⟩) (fun c => ?_)
    · have := gi_le c
      have := z.1
      omega
    · have hpN : p < N := by
        have := gi_nle c
        omega
      have hb := hx.2.2.2 p hpN
      rw [hx.1, tp]
      refine hc_kk (fun _ => hc_ck (fun _ _ => hc_lt (fun x ex => ?_)))
      subst ex
      refine hc_if (fun d => hc_lt (fun s es => step s ⟨hpN, Or.inl ((byr_eq hb (by decide) (by decide)).mp d)⟩ es)) (fun d => ?_)
      refine hc_kk (fun _ => hc_ck (fun _ _ => hc_lt (fun x ex => ?_)))
      subst ex
      refine hc_if (fun e => hc_lt (fun s es => step s ⟨hpN, Or.inr ((byr_eq hb (by decide) (by decide)).mp e)⟩ es)) (fun e => hc_some ⟨p, run_0 (fun z => ?_), hp, at_r h3⟩)
      rcases z.2 with y | y
      · exact d ((byr_eq hb (by decide) (by decide)).mpr y)
      · exact e ((byr_eq hb (by decide) (by decide)).mpr y)
theorem ch_skip {n : Nat} {T : Nat → Int32} {N : Nat} {σ : gb_S} {p : Nat} (hx : gb_rc T N σ) (h3 : (σ.1 106 3).toInt = p) (hp : p ≤ N) : gb_hc (cs_Reader_skipBlanks n σ) (fun σ2 _ => ∃ q, gb_run (gb_bl T N) p q ∧ q ≤ N ∧ gb_at1 σ q σ2) := by
  have e : cs_Reader_skipBlanks n σ = cs_Reader_skipBlanks_0 n (n + 1) σ := by
    unfold cs_Reader_skipBlanks
    rw [cs_Reader_skipBlanks_0]
  rw [e]
  exact ch_skip0 (n + 1) σ p hx h3 hp
/-! words of the class -/
theorem ch_strlen {n : Nat} {σ : gb_S} {k : Nat} : gb_hc (cs_java_lang_String_length_W n σ k) (fun s r => s = σ ∧ k < 18 ∧ r.toInt = gb_ln k) := by
  by_cases hk : gb_kW k = true
  · exact hc_mono (hc_of (ct_strlen hk)) (fun s r h => ⟨h.1, gb_kW_lt hk, h.2⟩)
  · unfold cs_java_lang_String_length_W
    exact hc_kk (fun q => absurd q hk)
theorem gb_wch : ∀ l : Fin 18, ∀ i : Fin 6, i.val < gb_ln l.val → ((((gb_wby l.val i.val) &&& 255) : Int32).toUInt32 % 65536).toInt32 = gb_wby l.val i.val := by decide +kernel
theorem ch_charAt {n : Nat} {σ : gb_S} {k : Nat} {p : Int32} {i : Nat} (hk : k < 18) (e : p.toInt = i) (hi : i < gb_ln k) : gb_hc (cs_java_lang_String_charAt_W n σ k p) (fun s r => s = σ ∧ r = gb_wby k i) := by
  have h6 : gb_ln k ≤ 6 := (gb_wtab ⟨k, hk⟩).2.2
  unfold cs_java_lang_String_charAt_W cs_java_lang_String_isLatin1_W
  refine hc_kk (fun hw => hc_cd (P := fun s _ => s = σ) (hc_kk (fun _ => hc_if (fun _ => hc_some rfl) (fun _ => hc_if (fun _ => hc_some rfl) (fun _ => hc_some rfl)))) (fun s r hs => ?_))
  subst hs
  refine hc_if (fun _ => hc_none) (fun _ => ?_)
  refine hc_cd (P := fun s2 r2 => s2 = s ∧ r2 = gb_wby k i) ?_ (fun s2 r2 h2 => hc_cc (hc_some h2))
  unfold cs_java_lang_StringLatin1_charAt_V
  refine hc_kk (fun _ => hc_cd (P := fun s2 _ => s2 = s) ?_ (fun s2 r2 h2 => hc_ck (fun _ _ => hc_some ⟨h2, ?_⟩)))
  · unfold cs_java_lang_String_checkIndex cs_jdk_internal_util_Preconditions_checkIndex_n
    exact hc_cd (P := fun s2 _ => s2 = s) (hc_if (fun _ => hc_none) (fun _ => hc_if (fun _ => hc_some rfl) (fun _ => hc_none))) (fun s2 _ h2 => hc_some h2)
  · rw [gi_tn e]
    exact gb_wch ⟨k, hk⟩ ⟨i, by omega⟩ hi
theorem ch_isw17 {n : Nat} {T : Nat → Int32} {N : Nat} {σ : gb_S} {k a : Nat} (hx : gb_rc T N σ) (hk : k < 18) (ha : (σ.1 106 3).toInt = a) (hl : a + gb_ln k ≤ N) : ∀ (mm : Nat) (v3 : Int32) (i : Nat), v3.toInt = i → i ≤ gb_ln k → (∀ j, j < i → T (a + j) = gb_wby k j) → gb_hc (cs_Reader_isWord_W_17 n mm σ k v3) (fun s r => s = σ ∧ ((r = 1 ∧ ∀ j, j < gb_ln k → T (a + j) = gb_wby k j) ∨ (r = 0 ∧ ¬ ∀ j, j < gb_ln k → T (a + j) = gb_wby k j))) := by
  have hN := hx.2.2.1
  have h6 : gb_ln k ≤ 6 := (gb_wtab ⟨k, hk⟩).2.2
  intro mm
  induction mm with
  | zero =>
    intros
    exact hc_none
  | succ mm ih =>
    intro v3 i e3 hi hj
    rw [cs_Reader_isWord_W_17]
    refine hc_kk (fun _ => hc_cd ch_strlen (fun s r h => ?_))
    obtain ⟨rfl, -, hr⟩ := h
    refine hc_if (fun c => hc_some ⟨rfl, Or.inl ⟨rfl, fun j hj2 => hj j (by have := gi_le c; omega)⟩⟩) (fun c => ?_)
    have hi2 : i < gb_ln k := by
      have := gi_nle c
      omega
    have ea : ((s.1 106 3) + v3).toInt = ((a + i : Nat) : Int) := by
      rw [gb_tadd (by omega) (by omega), ha, e3]
      omega
    have hb := hx.2.2.2 (a + i) (by omega)
    rw [hx.1, gi_tn ea]
    refine hc_kk (fun _ => hc_ck (fun _ _ => hc_lt (fun x ex => hc_cd (ch_charAt hk e3 hi2) (fun s2 r2 h2 => ?_))))
    obtain ⟨rfl, hr2⟩ := h2
    subst ex
    subst hr2
    have wb := gb_wb hk hi2
    refine hc_if (fun d => hc_lt (fun y ey => ih y (i + 1) (by rw [ey]; exact gi_s1 e3 (by omega)) (by omega) (fun j hj2 => ?_))) (fun d => hc_some ⟨rfl, Or.inr ⟨rfl, fun z => d ((byr_eq hb (by omega) (by omega)).mpr (z i hi2))⟩⟩)
    by_cases q : j = i
    · rw [q]
      exact (byr_eq hb (by omega) (by omega)).mp d
    · exact hj j (by omega)
theorem ch_isWord {n : Nat} {T : Nat → Int32} {N : Nat} {σ : gb_S} {k a e : Nat} {p2 : Int32} (hx : gb_rc T N σ) (hk : k < 18) (ha : (σ.1 106 3).toInt = a) (h2 : p2.toInt = e) (hae : a ≤ e) (heN : e ≤ N) : gb_hc (cs_Reader_isWord_W n σ k p2) (fun s r => s = σ ∧ ((r = 1 ∧ gb_isw T a e k) ∨ (r = 0 ∧ ¬ gb_isw T a e k))) := by
  have hN := hx.2.2.1
  unfold cs_Reader_isWord_W
  refine hc_kk (fun _ => hc_cd ch_strlen (fun s r h => ?_))
  obtain ⟨rfl, -, hr⟩ := h
  have es : (p2 - (s.1 106 3)).toInt = ((e - a : Nat) : Int) := by
    rw [gb_tsub (by omega) (by omega), h2, ha]
    omega
  have z : (0 : Int32).toInt = ((0 : Nat) : Int) := by decide
  refine hc_if (fun c => ?_) (fun c => hc_some ⟨rfl, Or.inr ⟨rfl, fun q => c (gb_ieq ?_)⟩⟩)
  · rw [c] at es
    have hl : e = a + gb_ln k := by omega
    refine hc_mono (ch_isw17 hx hk ha (by omega) n 0 0 z (Nat.zero_le _) (fun j hj => absurd hj (Nat.not_lt_zero _))) (fun s2 r2 h => ⟨h.1, ?_⟩)
    rcases h.2 with q | q
    · exact Or.inl ⟨q.1, hl, q.2⟩
    · exact Or.inr ⟨q.1, fun y => q.2 y.2⟩
  · rw [es, hr, q.1]
    omega
theorem gb_fl0 {v : Int32} {s : Nat} (e : v.toInt = s) (hs : s ≤ 4) : (gb_tb0 (Int32.toNatClampNeg v)).toInt = gb_fl s := by
  rw [gi_tn e]
  have : s = 0 ∨ s = 1 ∨ s = 2 ∨ s = 3 ∨ s = 4 := by omega
  rcases this with rfl | rfl | rfl | rfl | rfl <;> decide
theorem gb_fl18 {s : Nat} (hs : s ≤ 4) : gb_fl s ≤ 18 := by
  have : s = 0 ∨ s = 1 ∨ s = 2 ∨ s = 3 ∨ s = 4 := by omega
  rcases this with rfl | rfl | rfl | rfl | rfl <;> decide
theorem ch_wordOf {n : Nat} {σ : gb_S} {p : Int32} {l : Nat} (e : p.toInt = l) (hl : l < 18) : gb_hc (cs_Reader_wordOf n σ p) (fun s r => s = σ ∧ r = l) := by
  unfold cs_Reader_wordOf
  have key : ∀ (k : Int32) (j : Nat), k.toInt = j → p = k → j = l := fun k j hk hp => by
    rw [hp, hk] at e
    omega
  have nky : ∀ (k : Int32) (j : Nat), k.toInt = j → ¬ p = k → l ≠ j := fun k j hk hp q => hp (gi_eq e (by rw [q]; exact hk))
  refine hc_if (fun c => hc_some ⟨rfl, key 0 0 (by decide) c⟩) (fun c0 => ?_)
  refine hc_if (fun c => hc_some ⟨rfl, key 1 1 (by decide) c⟩) (fun c1 => ?_)
  refine hc_if (fun c => hc_some ⟨rfl, key 2 2 (by decide) c⟩) (fun c2 => ?_)
  refine hc_if (fun c => hc_some ⟨rfl, key 3 3 (by decide) c⟩) (fun c3 => ?_)
  refine hc_if (fun c => hc_some ⟨rfl, key 4 4 (by decide) c⟩) (fun c4 => ?_)
  refine hc_if (fun c => hc_some ⟨rfl, key 5 5 (by decide) c⟩) (fun c5 => ?_)
  refine hc_if (fun c => hc_some ⟨rfl, key 6 6 (by decide) c⟩) (fun c6 => ?_)
  refine hc_if (fun c => hc_some ⟨rfl, key 7 7 (by decide) c⟩) (fun c7 => ?_)
  refine hc_if (fun c => hc_some ⟨rfl, key 8 8 (by decide) c⟩) (fun c8 => ?_)
  refine hc_if (fun c => hc_some ⟨rfl, key 9 9 (by decide) c⟩) (fun c9 => ?_)
  refine hc_if (fun c => hc_some ⟨rfl, key 10 10 (by decide) c⟩) (fun c10 => ?_)
  refine hc_if (fun c => hc_some ⟨rfl, key 11 11 (by decide) c⟩) (fun c11 => ?_)
  refine hc_if (fun c => hc_some ⟨rfl, key 12 12 (by decide) c⟩) (fun c12 => ?_)
  refine hc_if (fun c => hc_some ⟨rfl, key 13 13 (by decide) c⟩) (fun c13 => ?_)
  refine hc_if (fun c => hc_some ⟨rfl, key 14 14 (by decide) c⟩) (fun c14 => ?_)
  refine hc_if (fun c => hc_some ⟨rfl, key 15 15 (by decide) c⟩) (fun c15 => ?_)
  refine hc_if (fun c => hc_some ⟨rfl, key 16 16 (by decide) c⟩) (fun c16 => ?_)
  have := nky 0 0 (by decide) c0
  have := nky 1 1 (by decide) c1
  have := nky 2 2 (by decide) c2
  have := nky 3 3 (by decide) c3
  have := nky 4 4 (by decide) c4
  have := nky 5 5 (by decide) c5
  have := nky 6 6 (by decide) c6
  have := nky 7 7 (by decide) c7
  have := nky 8 8 (by decide) c8
  have := nky 9 9 (by decide) c9
  have := nky 10 10 (by decide) c10
  have := nky 11 11 (by decide) c11
  have := nky 12 12 (by decide) c12
  have := nky 13 13 (by decide) c13
  have := nky 14 14 (by decide) c14
  have := nky 15 15 (by decide) c15
  have := nky 16 16 (by decide) c16
  exact hc_some ⟨rfl, by omega⟩
def gb_tw (T : Nat → Int32) (N s a : Nat) (σ σ2 : gb_S) (r : Int32) : Prop := (r = -1 ∧ σ2 = σ ∧ ∀ l e, ¬ gb_word T N s a l e) ∨ ∃ l e : Nat, r.toInt = l ∧ gb_word T N s a l e ∧ e ≤ N ∧ gb_at1 σ e σ2
theorem ch_tw47 {n : Nat} {T : Nat → Int32} {N s a e : Nat} {σ : gb_S} {v1 v2 : Int32} (hx : gb_rc T N σ) (e1 : v1.toInt = s) (hs : s ≤ 3) (ha : (σ.1 106 3).toInt = a) (h2 : v2.toInt = e) (heN : e ≤ N) (hrun : gb_run (gb_lt1 T N) a e) : ∀ (mm : Nat) (v3 : Int32) (l : Nat), v3.toInt = l → gb_fl s ≤ l → l ≤ gb_fl (s + 1) → (∀ j, gb_fl s ≤ j → j < l → ¬ gb_isw T a e j) → gb_hc (cs_Reader_takeWord_47 n mm σ v1 v2 v3) (fun σ2 r => gb_tw T N s a σ σ2 r) := by
  have h18 := gb_fl18 (s := s + 1) (by omega)
  intro mm
  induction mm with
  | zero =>
    intros
    exact hc_none
  | succ mm ih =>
    intro v3 l e3 hl0 hl1 hno
    rw [cs_Reader_takeWord_47]
    have ft := gb_fl0 (gi_s1 e1 (by omega)) (by omega)
    refine hc_ck (fun _ _ => hc_lt (fun x ex => ?_))
    rw [← ex] at ft
    refine hc_if (fun c => hc_some (Or.inl ⟨rfl, rfl, fun l2 e2 hw => ?_⟩)) (fun c => ?_)
    · have := gi_le c
      obtain ⟨w1, w2, w3, w4⟩ := hw
      have := run_uq hrun w3
      subst this
      exact hno l2 w1 (by omega) w4
    · have hl2 : l < gb_fl (s + 1) := by
        have := gi_nle c
        omega
      refine hc_cd (ch_wordOf e3 (by omega)) (fun s2 r h => ?_)
      obtain ⟨rfl, rfl⟩ := h
      refine hc_kk (fun _ => hc_cd (ch_isWord hx (by omega) ha h2 hrun.1 heN) (fun s3 r3 h3 => ?_))
      obtain ⟨rfl, h3⟩ := h3
      refine hc_if (fun d => hc_lt (fun y ey => ih y (r + 1) (by rw [ey]; exact gi_s1 e3 (by omega)) (by omega) (by omega) (fun j j1 j2 => ?_))) (fun d => hc_lt (fun s4 e4 => hc_some (Or.inr ⟨r, e, e3, ⟨hl0, hl2, hrun, ?_⟩, heN, by rw [e4]; exact at_u h2⟩)))
      · by_cases q : j = r
        · rw [q]
          rcases h3 with y | y
          · rw [d] at y
            exact absurd y.1 (by decide)
          · exact y.2
        · exact hno j j1 (by omega)
      · rcases h3 with y | y
        · exact y.2
        · exact absurd y.1 d
theorem ch_tw5 {n : Nat} {T : Nat → Int32} {N s a : Nat} {σ : gb_S} {v1 : Int32} (hx : gb_rc T N σ) (e1 : v1.toInt = s) (hs : s ≤ 3) (ha : (σ.1 106 3).toInt = a) : ∀ (mm : Nat) (v2 : Int32) (p : Nat), v2.toInt = p → a ≤ p → p ≤ N → (∀ i, a ≤ i → i < p → gb_lt1 T N i) → gb_hc (cs_Reader_takeWord_5 n mm σ v1 v2) (fun σ2 r => gb_tw T N s a σ σ2 r) := by
  have hN := hx.2.2.1
  have hlen := hx.2.1
  have c97 : (97 : Int32).toInt = 97 := by decide
  have c122 : (122 : Int32).toInt = 122 := by decide
  intro mm
  induction mm with
  | zero =>
    intros
    exact hc_none
  | succ mm ih =>
    intro v2 p e2 hap hp hD
    rw [cs_Reader_takeWord_5]
    have stop : ¬ gb_lt1 T N p → gb_hc (gb_ck v1 5 (gb_lt (gb_tb0 (Int32.toNatClampNeg v1)) (fun x_4 => cs_Reader_takeWord_47 n n σ v1 v2 x_4))) (fun σ2 r => gb_tw T N s a σ σ2 r) := fun hn => by
      refine hc_ck (fun _ _ => hc_lt (fun x ex => ?_))
      have ft := gb_fl0 e1 (by omega)
      rw [← ex] at ft
      refine ch_tw47 hx e1 hs ha e2 hp ⟨hap, hD, hn⟩ n x (gb_fl s) ft (Nat.le_refl _) ?_ (fun j j1 j2 => absurd j2 (by omega))
      have : s = 0 ∨ s = 1 ∨ s = 2 ∨ s = 3 := by omega
      rcases this with rfl | rfl | rfl | rfl <;> decide
    refine hc_if (fun c => stop (fun z => ?_)) (fun c => ?_)
    · have := gi_le c
      have := z.1
      omega
    · have hpN : p < N := by
        have := gi_nle c
        omega
      have hb := hx.2.2.2 p hpN
      have rg := byr_rg (lo := 97) (hi := 122) hb (by decide) (by decide)
      rw [hx.1, gi_tn e2]
      refine hc_kk (fun _ => hc_ck (fun _ _ => hc_lt (fun x ex => ?_)))
      subst ex
      refine hc_if (fun d => stop (fun z => ?_)) (fun d => ?_)
      · have := gi_lt d
        have := (rg.mpr z.2).1
        omega
      · refine hc_kk (fun _ => hc_ck (fun _ _ => hc_lt (fun x ex => ?_)))
        subst ex
        refine hc_if (fun g => stop (fun z => ?_)) (fun g => hc_lt (fun y ey => ih y (p + 1) (by rw [ey]; exact gi_s1 e2 (by omega)) (by omega) (by omega) (fun i i1 i2 => ?_)))
        · have := gi_lt g
          have := (rg.mpr z.2).2
          omega
        · by_cases q : i = p
          · rw [q]
            have h1 := gi_nlt d
            have h2 := gi_nlt g
            exact ⟨hpN, rg.mp ⟨by omega, by omega⟩⟩
          · exact hD i i1 (by omega)
theorem ch_takeWord {n : Nat} {T : Nat → Int32} {N s a : Nat} {σ : gb_S} {p1 : Int32} (hx : gb_rc T N σ) (e1 : p1.toInt = s) (hs : s ≤ 3) (ha : (σ.1 106 3).toInt = a) (haN : a ≤ N) : gb_hc (cs_Reader_takeWord n σ p1) (fun σ2 r => gb_tw T N s a σ σ2 r) := by
  unfold cs_Reader_takeWord
  exact hc_lt (fun x ex => ch_tw5 hx e1 hs ha n x a (by rw [ex]; exact ha) (Nat.le_refl _) haN (fun i i1 i2 => absurd i2 (by omega)))
