/-! THE CLASS's text(), but the Reader, exactly -/
def gb_s1t (σ : gb_S) : gb_S := gb_su (gb_su (gb_su σ 1 (upd (σ.1 1) 6 0)) 1 (upd ((gb_su σ 1 (upd (σ.1 1) 6 0)).1 1) 7 0)) 1 (upd ((gb_su (gb_su σ 1 (upd (σ.1 1) 6 0)) 1 (upd ((gb_su σ 1 (upd (σ.1 1) 6 0)).1 1) 7 0)).1 1) 8 (-1))
theorem gb_s1t1 {σ : gb_S} : (gb_s1t σ).1 1 = upd (upd (upd (σ.1 1) 6 0) 7 0) 8 (-1) := by
  unfold gb_s1t
  rw [gb_sus, gb_sus, gb_sus]
theorem gb_s1tn {σ : gb_S} {k : Nat} (h : k ≠ 1) : (gb_s1t σ).1 k = σ.1 k := by
  unfold gb_s1t
  rw [gb_sun h, gb_sun h, gb_sun h]
/-- the fault of the reader is the text's -/
def gb_s2t (σ : gb_S) : gb_S := gb_su (gb_su σ 1 (upd (σ.1 1) 7 (σ.1 106 4))) 1 (upd ((gb_su σ 1 (upd (σ.1 1) 7 (σ.1 106 4))).1 1) 8 ((gb_su σ 1 (upd (σ.1 1) 7 (σ.1 106 4))).1 106 5))
theorem gb_s2t1 {σ : gb_S} : (gb_s2t σ).1 1 = upd (upd (σ.1 1) 7 (σ.1 106 4)) 8 (σ.1 106 5) := by
  unfold gb_s2t
  rw [gb_sus, gb_sus, gb_sun (by decide)]
theorem gb_s2tn {σ : gb_S} {k : Nat} (h : k ≠ 1) : (gb_s2t σ).1 k = σ.1 k := by
  unfold gb_s2t
  rw [gb_sun h, gb_sun h]
/-- the draft becomes the text, and there is one more -/
def gb_s3t (σ : gb_S) (s m : Nat) (more v4 : Int32) : gb_S := if more = 0 then gb_su σ (1 + gb_o s m) (va_cpy (σ.1 (97 + 2 * s)) (σ.1 (1 + gb_o s m)) 0 0 (gb_gz s)) else gb_su (gb_su σ (1 + gb_o s m) (va_cpy (σ.1 (97 + 2 * s)) (σ.1 (1 + gb_o s m)) 0 0 (gb_gz s))) 22 (upd ((gb_su σ (1 + gb_o s m) (va_cpy (σ.1 (97 + 2 * s)) (σ.1 (1 + gb_o s m)) 0 0 (gb_gz s))).1 22) s (v4 + 1))
theorem gb_s3tn {σ : gb_S} {s m k : Nat} {more v4 : Int32} (h : k ≠ 1 + gb_o s m) (h2 : k ≠ 22) : (gb_s3t σ s m more v4).1 k = σ.1 k := by
  unfold gb_s3t
  split
  · rw [gb_sun h]
  · rw [gb_sun h2, gb_sun h]
theorem ch_text_171 {n : Nat} {σ : gb_S} {v1 v4 v5 t0 : Int32} {s m : Nat} (e1 : v1.toInt = s) (hs : s < 4) (e0 : t0.toInt = m) : gb_hc (cs_Face_text_171 n σ v1 v4 v5 (96 + 2 * s) t0) (fun σ2 r => r = t0 ∧ m < 2 ∧ σ2 = gb_s3t σ s m v5 v4) := by
  unfold cs_Face_text_171
  refine hc_cd (ch_sheetOf e1 hs e0) (fun sA r hA => ?_)
  obtain ⟨rfl, er, hm2, hkd⟩ := hA
  have fin : ∀ (z : Nat) (s3 : gb_S), z = gb_gz s → s3 = gb_su sA (r + 1) (va_cpy (sA.1 (96 + 2 * s + 1)) (sA.1 (r + 1)) 0 0 z) → gb_hc (if v5 = 0 then some (s3, t0) else gb_ck v1 4 (gb_lt (gb_su s3 22 (upd (s3.1 22) (Int32.toNatClampNeg v1) (v4 + 1))) (fun s_36 => some (s_36, t0)))) (fun σ2 r => r = t0 ∧ m < 2 ∧ σ2 = gb_s3t sA s m v5 v4) := by
    intro z s3 ez e3
    have en : 96 + 2 * s + 1 = 97 + 2 * s := by omega
    rw [ez, er, en] at e3
    refine hc_if (fun c => hc_some ⟨rfl, hm2, ?_⟩) (fun c => hc_ck (fun _ _ => hc_lt (fun s4 e4 => hc_some ⟨rfl, hm2, ?_⟩)))
    · unfold gb_s3t
      rw [if_pos c, e3]
    · unfold gb_s3t
      rw [if_neg c, e4, e3, gi_tn e1]
  refine hc_if (fun _ => hc_none) (fun _ => ?_)
  refine hc_if (fun b => hc_kk (fun _ => ?_)) (fun nb => hc_if (fun b => hc_kk (fun _ => ?_)) (fun nn => hc_if (fun b => hc_kk (fun _ => ?_)) (fun nl => hc_if (fun b => hc_kk (fun _ => ?_)) (fun nd => hc_none))))
  · have hs0 : s = 0 := by
      rcases hkd with q | q | q | q
      · exact q.1
      · exact absurd b (gc_BN q.2)
      · exact absurd b (gc_BL q.2).1
      · exact absurd b (gc_BD q.2).1
    refine hc_cd ch_cpB (fun s3 _ h3 => fin 58 s3 ?_ h3)
    rw [hs0]
    rfl
  · have hs0 : s = 1 := by
      rcases hkd with q | q | q | q
      · exact absurd q.2 nb
      · exact q.1
      · exact absurd b (gc_BL q.2).2
      · exact absurd b (gc_BD q.2).2.1
    refine hc_cd ch_cpN (fun s3 _ h3 => fin 97 s3 ?_ h3)
    rw [hs0]
    rfl
  · have hs0 : s = 2 := by
      rcases hkd with q | q | q | q
      · exact absurd q.2 nb
      · exact absurd q.2 nn
      · exact q.1
      · exact absurd b (gc_BD q.2).2.2
    refine hc_cd ch_cpL (fun s3 _ h3 => fin 25 s3 ?_ h3)
    rw [hs0]
    rfl
  · have hs0 : s = 3 := by
      rcases hkd with q | q | q | q
      · exact absurd q.2 nb
      · exact absurd q.2 nn
      · exact absurd q.2 nl
      · exact q.1
    refine hc_cd ch_cpD (fun s3 _ h3 => fin 16 s3 ?_ h3)
    rw [hs0]
    rfl
theorem gb_dr {v : Int32} {s : Nat} (e : v.toInt = s) (hs : s < 4) : ([96, 98, 100, 102] : List Nat).getD (Int32.toNatClampNeg v) 0 = 96 + 2 * s := by
  rw [gi_tn e]
  have : s = 0 ∨ s = 1 ∨ s = 2 ∨ s = 3 := by omega
  rcases this with rfl | rfl | rfl | rfl <;> rfl
/-- the end of text(): by the state of the class behind the Reader -/
def gb_ctd (s : Nat) (p2 v4 more : Int32) (σ σ2 : gb_S) (r : Int32) : Prop := (¬ σ.1 106 4 = 0 ∧ r = -1 ∧ σ2 = gb_s2t σ) ∨ (σ.1 106 4 = 0 ∧ ∃ m : Nat, r = (if more = 0 then p2 else v4) ∧ r.toInt = m ∧ m < 2 ∧ σ2 = gb_s3t (gb_s2t σ) s m more v4)
theorem ch_text_94 {n : Nat} {σ : gb_S} {v1 v2 v3 v4 v5 : Int32} {s : Nat} {Q : gb_S → Int32 → Prop} (e1 : v1.toInt = s) (hs : s < 4) (h2 : v5 = 0 → 0 ≤ v2.toInt) (h4 : ¬ v5 = 0 → 0 ≤ v4.toInt) (K : gb_hc (cs_Reader_read_c23_S n σ v3 v1 (96 + 2 * s)) (fun s2 _ => ∀ (s3 : gb_S) (r : Int32), gb_ctd s v2 v4 v5 s2 s3 r → Q s3 r)) : gb_hc (cs_Face_text_94 n σ v1 v2 v3 v4 v5) Q := by
  unfold cs_Face_text_94
  refine hc_ck (fun _ _ => hc_lt (fun a ea => ?_))
  rw [gb_dr e1 hs] at ea
  subst ea
  refine hc_cd K (fun s2 _ hK => hc_lt (fun sA eA => hc_lt (fun sB eB => ?_)))
  have eB' : sB = gb_s2t s2 := by
    rw [eB, eA]
    rfl
  have e7 : sB.1 1 7 = s2.1 106 4 := by
    rw [eB', gb_s2t1, pk_un (by decide), pk_us]
  refine hc_if (fun c => hc_if (fun d => ?_) (fun d => ?_)) (fun c => ?_)
  · obtain ⟨m, em, -⟩ := gi_nn (h2 d)
    refine hc_mono (ch_text_171 e1 hs em) (fun s3 r h3 => hK s3 r (Or.inr ⟨e7.symm.trans c, m, ?_, ?_, h3.2.1, ?_⟩))
    · rw [if_pos d]
      exact h3.1
    · rw [h3.1]
      exact em
    · rw [h3.2.2, eB']
  · obtain ⟨m, em, -⟩ := gi_nn (h4 d)
    refine hc_mono (ch_text_171 e1 hs em) (fun s3 r h3 => hK s3 r (Or.inr ⟨e7.symm.trans c, m, ?_, ?_, h3.2.1, ?_⟩))
    · rw [if_neg d]
      exact h3.1
    · rw [h3.1]
      exact em
    · rw [h3.2.2, eB']
  · exact hc_some (hK _ _ (Or.inl ⟨fun q => c (e7.trans q), rfl, eB'⟩))
set_option maxHeartbeats 2000000 in
theorem ch_text {n : Nat} {Q : gb_S → Int32 → Prop} {σ : gb_S} {p1 p2 : Int32} (hT : gb_TC σ) (K : ∀ (s : Nat), p1.toInt = s → s ≤ 3 → (p2 = -1 ∧ (σ.1 22 s).toInt < 2 ∨ ¬ p2 = -1 ∧ 0 ≤ p2.toInt ∧ p2.toInt < (σ.1 22 s).toInt) → gb_hc (cs_Reader_read_c23_S n (gb_s1t σ) (σ.1 1 6) p1 (96 + 2 * s)) (fun s2 _ => ∀ (s3 : gb_S) (r : Int32), gb_ctd s p2 (σ.1 22 s) (if p2 = -1 then 1 else 0) s2 s3 r → Q s3 r)) (K2 : ((p1.toInt < 0 ∨ 3 < p1.toInt) ∨ ∃ s : Nat, p1.toInt = s ∧ s ≤ 3 ∧ (p2 = -1 ∧ 2 ≤ (σ.1 22 s).toInt ∨ ¬ p2 = -1 ∧ (p2.toInt < 0 ∨ (σ.1 22 s).toInt ≤ p2.toInt))) → Q (gb_s1t σ) (-2)) : gb_hc (cs_Face_text n σ p1 p2) Q := by
  unfold cs_Face_text
  have c0 : (0 : Int32).toInt = 0 := by decide
  have c2 : (2 : Int32).toInt = 2 := by decide
  have c4 : (4 : Int32).toInt = 4 := by decide
  refine hc_lt (fun x ex => hc_lt (fun sA eA => hc_lt (fun sB eB => hc_lt (fun sC eC => ?_))))
  have eC' : sC = gb_s1t σ := by
    rw [eC, eB, eA]
    rfl
  subst eC'
  refine hc_if (fun c => hc_some (K2 (Or.inl (Or.inl (by have := gi_lt c; omega))))) (fun c => hc_if (fun d => ?_) (fun d => hc_some (K2 (Or.inl (Or.inr (by have := gi_nlt d; omega))))))
  have a1 := gi_nlt c
  have a2 := gi_lt d
  obtain ⟨s, es, ts⟩ := gi_nn (x := p1) (by omega)
  have hs : s ≤ 3 := by omega
  refine hc_ck (fun _ _ => hc_lt (fun y ey => ?_))
  rw [ts, gb_s1tn (by decide)] at ey
  subst ey
  subst ex
  have i22 : gb_iv 0 2 (σ.1 22 s) := gc_rd (c := 5) hT rfl ⟨Int.le_refl 0, Int.le_refl 2⟩
  refine hc_if (fun e => ?_) (fun e => ?_)
  · unfold cs_Face_text_65
    rw [if_neg (by decide : ¬ (1 : Int32) = 0)]
    refine hc_if (fun g => ?_) (fun g => hc_some (K2 (Or.inr ⟨s, es, hs, Or.inl ⟨e, by have := gi_nlt g; omega⟩⟩)))
    have g1 := gi_lt g
    refine ch_text_94 es (by omega) (fun q => absurd q (by decide)) (fun _ => i22.1) ?_
    refine hc_mono (K s es hs (Or.inl ⟨e, by omega⟩)) (fun s2 _ h s3 r h3 => h s3 r ?_)
    rw [if_pos e]
    exact h3
  · unfold cs_Face_text_65
    rw [if_pos rfl]
    refine hc_if (fun g => hc_some (K2 (Or.inr ⟨s, es, hs, Or.inr ⟨e, Or.inl (by have := gi_lt g; omega)⟩⟩))) (fun g => hc_if (fun u => ?_) (fun u => hc_some (K2 (Or.inr ⟨s, es, hs, Or.inr ⟨e, Or.inr (gi_nlt u)⟩⟩))))
    have g1 := gi_nlt g
    have u1 := gi_lt u
    refine ch_text_94 es (by omega) (fun _ => by omega) (fun q => absurd rfl q) ?_
    refine hc_mono (K s es hs (Or.inr ⟨e, by omega, u1⟩)) (fun s2 _ h s3 r h3 => h s3 r ?_)
    rw [if_neg e]
    exact h3
/-! text() leaves the tape empty, images and what is kept as they were -/
def gb_Wq (k : Nat) : Prop := k = 0 ∨ 95 ≤ k
theorem gb_Wq_sc : gb_sc gb_Wq := ⟨Or.inl rfl, fun k h => Or.inr h⟩
theorem ch_textz {n : Nat} {σ : gb_S} {p1 p2 : Int32} (hT : gb_TC σ) : gb_hc (cs_Face_text n σ p1 p2) (fun s2 _ => s2.1 1 6 = 0 ∧ ∀ k, 24 ≤ k → k ≤ 94 → s2.1 k = σ.1 k) := by
  have z1 : (gb_s1t σ).1 1 6 = 0 := by
    rw [gb_s1t1, pk_un (by decide), pk_un (by decide), pk_us]
  refine ch_text hT (fun s es hs _ => ?_) (fun _ => ⟨z1, fun k h1 h2 => gb_s1tn (by omega)⟩)
  refine hc_mono (hc_pf (cf_Reader_read_c23_S (W := gb_Wq) gb_Wq_sc (Or.inr (by omega)) fs_rf)) (fun s2 _ hW s3 r h3 => ?_)
  have w1 : s2.1 1 = (gb_s1t σ).1 1 := hW 1 (by unfold gb_Wq; omega)
  have w2 : ∀ k, 24 ≤ k → k ≤ 94 → s2.1 k = σ.1 k := fun k h1 h2 => (hW k (by unfold gb_Wq; omega)).trans (gb_s1tn (by omega))
  have y1 : (gb_s2t s2).1 1 6 = 0 := by
    rw [gb_s2t1, pk_un (by decide), pk_un (by decide), w1]
    exact z1
  have y2 : ∀ k, 24 ≤ k → k ≤ 94 → (gb_s2t s2).1 k = σ.1 k := fun k h1 h2 => (gb_s2tn (by omega)).trans (w2 k h1 h2)
  rcases h3 with h3 | h3
  · rw [h3.2.2]
    exact ⟨y1, y2⟩
  · obtain ⟨-, m, -, -, hm, h5⟩ := h3
    rw [h5]
    have o1 : 1 + gb_o s m ≠ 1 := by unfold gb_o; omega
    have o2 : 1 + gb_o s m < 24 := by unfold gb_o; omega
    refine ⟨?_, fun k h1 h2 => ?_⟩
    · rw [gb_s3tn (by omega) (by omega)]
      exact y1
    · rw [gb_s3tn (by omega) (by omega)]
      exact y2 k h1 h2
