/-! THE REFERENCE: what holds of its numbers in every state, and its small methods -/
def gt_R (s j : Nat) : Int × Int :=
  if s = 0 then (if j = 0 then (0, 5) else if j = 1 then (0, 8) else if j = 2 then (-1, 999) else if j < 18 then (if (j - 3) % 3 = 0 then (0, 20) else (0, 9)) else (if (j - 18) % 5 < 2 then (0, 4) else if (j - 18) % 5 = 2 then (0, 60) else if (j - 18) % 5 = 3 then (0, 1) else (0, 99)))
  else if s = 1 then (if j = 0 then (0, 24) else if (j - 1) % 4 = 0 then (0, 8) else if (j - 1) % 4 = 1 then (-1, 10) else if (j - 1) % 4 = 2 then (-1, 60) else (-1, 4))
  else if s = 2 then (if j = 0 then (0, 8) else if (j - 1) % 3 = 0 then (0, 4) else if (j - 1) % 3 = 1 then (-1, 999) else (-1, 99))
  else (if j = 0 then (0, 5) else if (j - 1) % 2 = 0 then (0, 4) else (0, 999))
def gt_1 (j : Nat) : Int × Int :=
  if j < 4 then (0, 2) else if j = 4 then (0, 600) else if j = 5 then (0, 4) else if j = 6 then (-1, 600) else if j < 10 then (0, 0) else if j < 610 then (0, 255)
  else if j < 726 then gt_R 0 ((j - 610) % 58) else if j < 920 then gt_R 1 ((j - 726) % 97) else if j < 970 then gt_R 2 ((j - 920) % 25) else gt_R 3 ((j - 970) % 11)
def gb_T1 (F : Nat → Int32) : Prop := ∀ j, gb_iv (gt_1 (j % 992)).1 (gt_1 (j % 992)).2 (F j)
def gb_T0 (F : Nat → Int32) : Prop := ((F 11 = 0 ∨ F 11 = 610 ∨ F 11 = 668) ∧ (F 12 = 0 ∨ F 12 = 726 ∨ F 12 = 823) ∧ (F 25 = 0 ∨ F 25 = 920 ∨ F 25 = 945) ∧ (F 29 = 0 ∨ F 29 = 970 ∨ F 29 = 981)) ∧ (gb_iv 0 600 (F 2) ∧ gb_iv 0 600 (F 3) ∧ gb_iv 0 600 (F 4) ∧ gb_iv 0 24 (F 23))
def gb_TM (f : gb_F) : Prop := gb_T0 (f 0) ∧ gb_T1 (f 1)
def gb_KM (f0 f : gb_F) : Prop := f 1 = f0 1 ∧ f 0 11 = f0 0 11 ∧ f 0 12 = f0 0 12 ∧ f 0 25 = f0 0 25 ∧ f 0 29 = f0 0 29
def gb_XK (f0 f : gb_F) : Prop := gb_TM f ∧ gb_KM f0 f
def gb_PP (f : gb_F) : Prop := 1 ≤ (f 1 (Int32.toNatClampNeg ((f 0 11) + 0))).toInt
theorem gb_XKr {f : gb_F} (h : gb_TM f) : gb_XK f f := ⟨h, rfl, rfl, rfl, rfl, rfl⟩
theorem gb_XKt {f0 f f2 : gb_F} (h : gb_XK f0 f) (g : gb_XK f f2) : gb_XK f0 f2 := by
  obtain ⟨-, h1, h2, h3, h4, h5⟩ := h
  obtain ⟨g0, g1, g2, g3, g4, g5⟩ := g
  exact ⟨g0, g1.trans h1, g2.trans h2, g3.trans h3, g4.trans h4, g5.trans h5⟩
theorem gb_PPx {f0 f : gb_F} (h : gb_XK f0 f) (g : gb_PP f0) : gb_PP f := by
  unfold gb_PP
  rw [h.2.1, h.2.2.1]
  exact g
theorem gb_PPy {f0 f : gb_F} (h : gb_XK f0 f) (g : gb_PP f) : gb_PP f0 := by
  unfold gb_PP at g
  rw [h.2.1, h.2.2.1] at g
  exact g
def gb_NN (f : gb_F) : Prop := f 0 12 = 726 ∨ f 0 12 = 823
theorem gb_NNx {f0 f : gb_F} (h : gb_XK f0 f) (g : gb_NN f0) : gb_NN f := by
  unfold gb_NN
  rw [h.2.2.2.1]
  exact g
theorem gb_XKu {f0 f : gb_F} {k : Nat} {F : Nat → Int32} (h : gb_XK f0 f) (hk : Nat.ble 2 k = true) : gb_XK f0 (gb_u f k F) := by
  have h2 := Nat.le_of_ble_eq_true hk
  have e0 : gb_u f k F 0 = f 0 := if_neg (by omega)
  have e1 : gb_u f k F 1 = f 1 := if_neg (by omega)
  unfold gb_XK gb_TM gb_KM
  rw [e0, e1]
  exact h
def gb_fj (j : Nat) : Bool := !([2, 3, 4, 11, 12, 23, 25, 29].contains j)
theorem gb_XKf {f0 f : gb_F} {j : Nat} {v : Int32} (h : gb_XK f0 f) (hj : gb_fj j = true) : gb_XK f0 (gb_u f 0 (upd (f 0) j v)) := by
  have e0 : gb_u f 0 (upd (f 0) j v) 0 = upd (f 0) j v := if_pos rfl
  have e1 : gb_u f 0 (upd (f 0) j v) 1 = f 1 := if_neg (by decide)
  have hn : 2 ≠ j ∧ 3 ≠ j ∧ 4 ≠ j ∧ 11 ≠ j ∧ 12 ≠ j ∧ 23 ≠ j ∧ 25 ≠ j ∧ 29 ≠ j := by
    refine ⟨?_, ?_, ?_, ?_, ?_, ?_, ?_, ?_⟩ <;> (intro e; subst e; cases hj)
  obtain ⟨n1, n2, n3, n4, n5, n6, n7, n8⟩ := hn
  unfold gb_XK gb_TM gb_KM gb_T0
  rw [e0, e1, pk_un n1, pk_un n2, pk_un n3, pk_un n4, pk_un n5, pk_un n6, pk_un n7, pk_un n8]
  exact h
theorem gb_XK23 {f0 f : gb_F} {v : Int32} (h : gb_XK f0 f) (i : gb_iv 0 24 v) : gb_XK f0 (gb_u f 0 (upd (f 0) 23 v)) := by
  obtain ⟨⟨⟨h1, h2, h3, h4, -⟩, h5⟩, h6⟩ := h
  exact ⟨⟨⟨h1, h2, h3, h4, i⟩, h5⟩, h6⟩
theorem gb_TM11 {f : gb_F} {v : Int32} (h : gb_TM f) (i : v = 0 ∨ v = 610 ∨ v = 668) : gb_TM (gb_u f 0 (upd (f 0) 11 v)) := by
  obtain ⟨⟨⟨-, h1⟩, h2⟩, h3⟩ := h
  exact ⟨⟨⟨i, h1⟩, h2⟩, h3⟩
theorem gb_TM12 {f : gb_F} {v : Int32} (h : gb_TM f) (i : v = 0 ∨ v = 726 ∨ v = 823) : gb_TM (gb_u f 0 (upd (f 0) 12 v)) := by
  obtain ⟨⟨⟨h0, -, h1⟩, h2⟩, h3⟩ := h
  exact ⟨⟨⟨h0, i, h1⟩, h2⟩, h3⟩
theorem gb_TM25 {f : gb_F} {v : Int32} (h : gb_TM f) (i : v = 0 ∨ v = 920 ∨ v = 945) : gb_TM (gb_u f 0 (upd (f 0) 25 v)) := by
  obtain ⟨⟨⟨h0, h00, -, h1⟩, h2⟩, h3⟩ := h
  exact ⟨⟨⟨h0, h00, i, h1⟩, h2⟩, h3⟩
theorem gb_TM29 {f : gb_F} {v : Int32} (h : gb_TM f) (i : v = 0 ∨ v = 970 ∨ v = 981) : gb_TM (gb_u f 0 (upd (f 0) 29 v)) := by
  obtain ⟨⟨⟨h0, h00, h01, -⟩, h2⟩, h3⟩ := h
  exact ⟨⟨⟨h0, h00, h01, i⟩, h2⟩, h3⟩
theorem gb_or3 {v : Int32} {lo hi : Int} {a b c : Int32} (h : v = a ∨ v = b ∨ v = c) (ha : gb_iv lo hi a) (hb : gb_iv lo hi b) (hc : gb_iv lo hi c) : gb_iv lo hi v := by
  rcases h with h | h | h <;> (rw [h]; assumption)
theorem gb_i11 {f : gb_F} (h : gb_TM f) : gb_iv 0 668 (f 0 11) := gb_or3 h.1.1.1 ⟨by decide, by decide⟩ ⟨by decide, by decide⟩ ⟨by decide, by decide⟩
theorem gb_i12 {f : gb_F} (h : gb_TM f) : gb_iv 0 823 (f 0 12) := gb_or3 h.1.1.2.1 ⟨by decide, by decide⟩ ⟨by decide, by decide⟩ ⟨by decide, by decide⟩
theorem gb_i25 {f : gb_F} (h : gb_TM f) : gb_iv 0 945 (f 0 25) := gb_or3 h.1.1.2.2.1 ⟨by decide, by decide⟩ ⟨by decide, by decide⟩ ⟨by decide, by decide⟩
theorem gb_i29 {f : gb_F} (h : gb_TM f) : gb_iv 0 981 (f 0 29) := gb_or3 h.1.1.2.2.2 ⟨by decide, by decide⟩ ⟨by decide, by decide⟩ ⟨by decide, by decide⟩
theorem gb_i2 {f : gb_F} (h : gb_TM f) : gb_iv 0 600 (f 0 2) := h.1.2.1
theorem gb_i3 {f : gb_F} (h : gb_TM f) : gb_iv 0 600 (f 0 3) := h.1.2.2.1
theorem gb_i4 {f : gb_F} (h : gb_TM f) : gb_iv 0 600 (f 0 4) := h.1.2.2.2.1
theorem gb_i23 {f : gb_F} (h : gb_TM f) : gb_iv 0 24 (f 0 23) := h.1.2.2.2.2
theorem gb_r1 {f : gb_F} {j : Nat} {lo hi : Int} (h : gb_TM f) (c : lo ≤ (gt_1 (j % 992)).1 ∧ (gt_1 (j % 992)).2 ≤ hi) : gb_iv lo hi (f 1 j) := gb_iw (h.2 j) c
theorem gb_r12 {f : gb_F} (h : gb_TM f) : gb_iv 0 24 (f 1 (Int32.toNatClampNeg (f 0 12))) := by
  rcases h.1.1.2.1 with e | e | e <;> (rw [e]; exact gb_r1 h (by decide))
theorem gb_r25 {f : gb_F} (h : gb_TM f) : gb_iv 0 8 (f 1 (Int32.toNatClampNeg (f 0 25))) := by
  rcases h.1.1.2.2.1 with e | e | e <;> (rw [e]; exact gb_r1 h (by decide))
theorem gb_r29 {f : gb_F} (h : gb_TM f) : gb_iv 0 5 (f 1 (Int32.toNatClampNeg (f 0 29))) := by
  rcases h.1.1.2.2.2 with e | e | e <;> (rw [e]; exact gb_r1 h (by decide))
theorem gb_r11 {f : gb_F} (h : gb_TM f) : gb_iv 0 5 (f 1 (Int32.toNatClampNeg ((f 0 11) + 0))) := by
  rcases h.1.1.1 with e | e | e <;> (rw [e]; exact gb_r1 h (by decide))
theorem gb_r111 {f : gb_F} (h : gb_TM f) : gb_iv 0 8 (f 1 (Int32.toNatClampNeg ((f 0 11) + 1))) := by
  rcases h.1.1.1 with e | e | e <;> (rw [e]; exact gb_r1 h (by decide))
theorem gb_r29s {f : gb_F} {k : Int32} (h : gb_TM f) (i : gb_iv 0 4 k) : gb_iv 0 4 (f 1 (Int32.toNatClampNeg ((((f 0 29) + 1) + (2 * k)) + 0))) := by
  obtain ⟨i1, i2⟩ := i
  have c : k.toInt = 0 ∨ k.toInt = 1 ∨ k.toInt = 2 ∨ k.toInt = 3 ∨ k.toInt = 4 := by omega
  have d : k = 0 ∨ k = 1 ∨ k = 2 ∨ k = 3 ∨ k = 4 := by
    rcases c with c | c | c | c | c
    · exact Or.inl (gb_ieq (c.trans (by decide)))
    · exact Or.inr (Or.inl (gb_ieq (c.trans (by decide))))
    · exact Or.inr (Or.inr (Or.inl (gb_ieq (c.trans (by decide)))))
    · exact Or.inr (Or.inr (Or.inr (Or.inl (gb_ieq (c.trans (by decide))))))
    · exact Or.inr (Or.inr (Or.inr (Or.inr (gb_ieq (c.trans (by decide))))))
  rcases h.1.1.2.2.2 with e | e | e <;> (rw [e]; rcases d with d | d | d | d | d <;> (rw [d]; exact gb_r1 h (by decide)))
theorem gm_bdK {ρ τ : Type} {x : gb_MR ρ} {k : gb_F → Int64 → ρ → gb_MR τ} {f0 f : gb_F} {R : ρ → Prop} {Q : gb_F → Int64 → τ → Prop} (hX : gb_XK f0 f) (h : gb_tm x (fun f2 _ r => gb_XK f f2 ∧ R r)) (H : ∀ f2 w r, gb_XK f0 f2 → R r → gb_tm (k f2 w r) Q) : gb_tm (gb_bd x k) Q := by
  obtain ⟨f2, w, r, e, hf, hp⟩ := h
  rw [e]
  exact H f2 w r (gb_XKt hX hf) hp
theorem gm_bdT {ρ τ : Type} {x : gb_MR ρ} {k : gb_F → Int64 → ρ → gb_MR τ} {R : gb_F → ρ → Prop} {Q : gb_F → Int64 → τ → Prop} (h : gb_tm x (fun f2 _ r => gb_TM f2 ∧ R f2 r)) (H : ∀ f2 w r, gb_XK f2 f2 → R f2 r → gb_tm (k f2 w r) Q) : gb_tm (gb_bd x k) Q := by
  obtain ⟨f2, w, r, e, hf, hp⟩ := h
  rw [e]
  exact H f2 w r (gb_XKr hf) hp
theorem gm_ltf {ρ : Type} {f0 v : gb_F} {k : gb_F → gb_MR ρ} {Q : gb_F → Int64 → ρ → Prop} (h : gb_XK f0 v) (H : ∀ f, f = v → gb_XK f0 f → gb_tm (k f) Q) : gb_tm (gb_lt v k) Q := H v rfl h
theorem gm_ltT {ρ : Type} {v : gb_F} {k : gb_F → gb_MR ρ} {Q : gb_F → Int64 → ρ → Prop} (h : gb_TM v) (H : ∀ f, f = v → gb_XK f f → gb_tm (k f) Q) : gb_tm (gb_lt v k) Q := H v rfl (gb_XKr h)
/-! small ones, by hand -/
theorem mt_isIn {n : Nat} {f : gb_F} {w : Int64} {p1 p2 p3 : Int32} : gb_tm (ms_isIn n f w p1 p2 p3) (fun f2 w2 r => f2 = f ∧ w2 = w ∧ (gb_iv 0 1 r ∧ (¬ r = 0 → p2.toInt ≤ p1.toInt ∧ p1.toInt ≤ p3.toInt))) := by
  unfold ms_isIn
  refine gm_if (fun c => gm_some ⟨rfl, rfl, ⟨by decide, by decide⟩, fun h => absurd rfl h⟩) (fun c => ?_)
  refine gm_if (fun c2 => gm_some ⟨rfl, rfl, ⟨by decide, by decide⟩, fun h => absurd rfl h⟩) (fun c2 => ?_)
  have h1 := gb_dnlt c
  have h2 := gb_dnlt c2
  exact gm_some ⟨rfl, rfl, ⟨by decide, by decide⟩, fun h => ⟨by omega, by omega⟩⟩
theorem mt_of {n : Nat} {f : gb_F} {w : Int64} {p1 : Int32} (hT : gb_TM f) (i1 : gb_iv 0 400 p1) : gb_tm (ms_of n f w p1) (fun f2 w2 r => f2 = f ∧ w2 = w ∧ r = f 1 (Int32.toNatClampNeg ((f 0 11) + p1))) := by
  unfold ms_of
  refine gm_ck (gb_iadd (lo := 0) (hi := 1068) (gb_i11 hT) i1 (by decide)) (by decide) ?_
  exact gm_lt (fun x e => gm_some ⟨rfl, rfl, e⟩)
theorem mt_paths {n : Nat} {f : gb_F} {w : Int64} (hT : gb_TM f) : gb_tm (ms_paths n f w) (fun f2 w2 r => f2 = f ∧ w2 = w ∧ (gb_iv 0 5 r ∧ (1 ≤ r.toInt → gb_PP f))) := by
  unfold ms_paths
  refine gm_bdP (mt_of hT (gb_il (a := 0) (by decide) (by decide))) (fun r h => ?_)
  refine gm_some ⟨rfl, rfl, ?_, ?_⟩
  · rw [h]
    exact gb_r11 hT
  · intro q
    rw [h] at q
    exact q
theorem mt_pathsP {n : Nat} {f : gb_F} {w : Int64} (hT : gb_TM f) (hP : gb_PP f) : gb_tm (ms_paths n f w) (fun f2 w2 r => f2 = f ∧ w2 = w ∧ (gb_iv 1 5 r ∧ True)) := by
  unfold ms_paths
  refine gm_bdP (mt_of hT (gb_il (a := 0) (by decide) (by decide))) (fun r h => ?_)
  refine gm_some ⟨rfl, rfl, ?_, trivial⟩
  rw [h]
  exact ⟨hP, (gb_r11 hT).2⟩
theorem mt_geese {n : Nat} {f : gb_F} {w : Int64} (hT : gb_TM f) : gb_tm (ms_geese n f w) (fun f2 w2 r => f2 = f ∧ w2 = w ∧ gb_iv 0 8 r) := by
  unfold ms_geese
  refine gm_bdP (mt_of hT (gb_il (a := 1) (by decide) (by decide))) (fun r h => ?_)
  refine gm_some ⟨rfl, rfl, ?_⟩
  rw [h]
  exact gb_r111 hT
theorem gb_iin {a b lo hi : Int} {x : Int32} {p q : Int32} (h : p.toInt ≤ x.toInt ∧ x.toInt ≤ q.toInt) (hp : lo ≤ p.toInt) (hq : q.toInt ≤ hi) : gb_iv lo hi x := ⟨Int.le_trans hp h.1, Int.le_trans h.2 hq⟩
theorem mt_isPath {n : Nat} {f : gb_F} {w : Int64} {p1 : Int32} (hT : gb_TM f) : gb_tm (ms_isPath n f w p1) (fun f2 w2 r => f2 = f ∧ w2 = w ∧ (gb_iv 0 1 r ∧ (¬ r = 0 → gb_iv 0 4 p1))) := by
  unfold ms_isPath
  refine gm_bdP (mt_paths hT) (fun r h => ?_)
  refine gm_bdP mt_isIn (fun r2 h2 => ?_)
  refine gm_cb h2.1 (gm_some ⟨rfl, rfl, h2.1, fun c => ?_⟩)
  exact gb_iin (a := 0) (b := 0) (h2.2 c) (by decide) (gb_isub (lo := -1) (hi := 4) h.1 (gb_il (lo := 1) (hi := 1) (a := 1) (by decide) (by decide)) (by decide)).2
theorem mt_isGoose {n : Nat} {f : gb_F} {w : Int64} {p1 : Int32} (hT : gb_TM f) : gb_tm (ms_isGoose n f w p1) (fun f2 w2 r => f2 = f ∧ w2 = w ∧ (gb_iv 0 1 r ∧ (¬ r = 0 → gb_iv 0 7 p1))) := by
  unfold ms_isGoose
  refine gm_bdP (mt_geese hT) (fun r h => ?_)
  refine gm_bdP mt_isIn (fun r2 h2 => ?_)
  refine gm_cb h2.1 (gm_some ⟨rfl, rfl, h2.1, fun c => ?_⟩)
  exact gb_iin (a := 0) (b := 0) (h2.2 c) (by decide) (gb_isub (lo := -1) (hi := 7) h (gb_il (lo := 1) (hi := 1) (a := 1) (by decide) (by decide)) (by decide)).2
theorem gt_1s {f : gb_F} {p : Int32} (h : gb_TM f) (i : gb_iv 0 3 p) : gb_iv 0 2 (f 1 (Int32.toNatClampNeg p)) := by
  refine gb_iw (h.2 _) ?_
  obtain ⟨i1, i2⟩ := i
  have hj : Int32.toNatClampNeg p < 4 := by
    unfold Int32.toNatClampNeg
    omega
  have : Int32.toNatClampNeg p % 992 < 4 := by omega
  unfold gt_1
  rw [if_pos this]
  decide
theorem mt_isOf {n : Nat} {f : gb_F} {w : Int64} {p1 p2 : Int32} (hT : gb_TM f) (i1 : gb_iv 0 3 p1) : gb_tm (ms_isOf n f w p1 p2) (fun f2 w2 r => f2 = f ∧ w2 = w ∧ (gb_iv 0 1 r ∧ (¬ r = 0 → gb_iv 0 1 p2))) := by
  unfold ms_isOf
  refine gm_ck i1 (by decide) ?_
  refine gm_lti (gt_1s hT i1) (fun x e i => ?_)
  refine gm_bdP mt_isIn (fun r2 h2 => ?_)
  refine gm_cb h2.1 (gm_some ⟨rfl, rfl, h2.1, fun c => ?_⟩)
  exact gb_iin (a := 0) (b := 0) (h2.2 c) (by decide) (gb_isub (lo := -1) (hi := 1) i (gb_il (lo := 1) (hi := 1) (a := 1) (by decide) (by decide)) (by decide)).2
theorem gb_01 {p : Int32} (i : gb_iv 0 1 p) : p = 0 ∨ p = 1 := by
  obtain ⟨h1, h2⟩ := i
  have c : p.toInt = 0 ∨ p.toInt = 1 := by omega
  rcases c with c | c
  · exact Or.inl (gb_ieq (c.trans (by decide)))
  · exact Or.inr (gb_ieq (c.trans (by decide)))
theorem mt_placeOf0 {n : Nat} {f : gb_F} {w : Int64} {p2 : Int32} (i : gb_iv 0 1 p2) : gb_tm (ms_placeOf n f w 0 p2) (fun f2 w2 r => f2 = f ∧ w2 = w ∧ (r = 610 ∨ r = 668)) := by
  unfold ms_placeOf
  rcases gb_01 i with e | e
  · subst e
    exact gm_some ⟨rfl, rfl, Or.inl (by decide)⟩
  · subst e
    exact gm_some ⟨rfl, rfl, Or.inr (by decide)⟩
theorem mt_placeOf1 {n : Nat} {f : gb_F} {w : Int64} {p2 : Int32} (i : gb_iv 0 1 p2) : gb_tm (ms_placeOf n f w 1 p2) (fun f2 w2 r => f2 = f ∧ w2 = w ∧ (r = 726 ∨ r = 823)) := by
  unfold ms_placeOf
  rcases gb_01 i with e | e
  · subst e
    exact gm_some ⟨rfl, rfl, Or.inl (by decide)⟩
  · subst e
    exact gm_some ⟨rfl, rfl, Or.inr (by decide)⟩
theorem mt_placeOf2 {n : Nat} {f : gb_F} {w : Int64} {p2 : Int32} (i : gb_iv 0 1 p2) : gb_tm (ms_placeOf n f w 2 p2) (fun f2 w2 r => f2 = f ∧ w2 = w ∧ (r = 920 ∨ r = 945)) := by
  unfold ms_placeOf
  rcases gb_01 i with e | e
  · subst e
    exact gm_some ⟨rfl, rfl, Or.inl (by decide)⟩
  · subst e
    exact gm_some ⟨rfl, rfl, Or.inr (by decide)⟩
theorem mt_placeOf3 {n : Nat} {f : gb_F} {w : Int64} {p2 : Int32} (i : gb_iv 0 1 p2) : gb_tm (ms_placeOf n f w 3 p2) (fun f2 w2 r => f2 = f ∧ w2 = w ∧ (r = 970 ∨ r = 981)) := by
  unfold ms_placeOf
  rcases gb_01 i with e | e
  · subst e
    exact gm_some ⟨rfl, rfl, Or.inl (by decide)⟩
  · subst e
    exact gm_some ⟨rfl, rfl, Or.inr (by decide)⟩
theorem mt_isBorder {n : Nat} {f : gb_F} {w : Int64} {p1 : Int32} (hT : gb_TM f) : gb_tm (ms_isBorder n f w p1) (fun f2 _ r => gb_TM f2 ∧ (gb_iv 0 1 r ∧ True)) := by
  unfold ms_isBorder
  refine gm_bdP (mt_isOf hT (gb_il (a := 0) (by decide) (by decide))) (fun r h => ?_)
  refine gm_if (fun c => gm_some ⟨hT, ⟨by decide, by decide⟩, trivial⟩) (fun c => ?_)
  refine gm_bdP (mt_placeOf0 (h.2 c)) (fun r3 h3 => ?_)
  exact gm_lt (fun x e => gm_some ⟨by rw [e]; exact gb_TM11 hT (Or.inr h3), ⟨by decide, by decide⟩, trivial⟩)
theorem mt_areTold {n : Nat} {f : gb_F} {w : Int64} {p1 p2 : Int32} (hT : gb_TM f) : gb_tm (ms_areTold n f w p1 p2) (fun f2 _ r => gb_TM f2 ∧ (gb_iv 0 1 r ∧ (¬ r = 0 → gb_NN f2))) := by
  unfold ms_areTold
  refine gm_bdT (mt_isBorder hT) (fun f1 w1 r1 hX h1 => ?_)
  refine gm_if (fun c => gm_some ⟨hX.1, ⟨by decide, by decide⟩, fun h => absurd rfl h⟩) (fun c => ?_)
  refine gm_bdP (mt_isOf hX.1 (gb_il (a := 1) (by decide) (by decide))) (fun r h => ?_)
  refine gm_if (fun c => gm_some ⟨hX.1, ⟨by decide, by decide⟩, fun h => absurd rfl h⟩) (fun c => ?_)
  refine gm_bdP (mt_placeOf1 (h.2 c)) (fun r3 h3 => ?_)
  have h5 : ∀ r3 : Int32, (r3 = 726 ∨ r3 = 823) → (r3 = 726 ∨ r3 = 823) := fun _ h => h
  refine gm_lt (fun x e => ?_)
  have h4 : gb_TM x := by rw [e]; exact gb_TM12 hX.1 (Or.inr h3)
  refine gm_lt (fun y e2 => gm_some ⟨by rw [e2]; exact (gb_XKf (gb_XKr h4) rfl).1, ⟨by decide, by decide⟩, fun _ => ?_⟩)
  have e5 : y 0 12 = r3 := by
    rw [e2, e]
    rfl
  unfold gb_NN
  rw [e5]
  exact h5 r3 h3
theorem mt_areSeen {n : Nat} {f : gb_F} {w : Int64} {p1 p2 : Int32} (hT : gb_TM f) : gb_tm (ms_areSeen n f w p1 p2) (fun f2 _ r => gb_TM f2 ∧ (gb_iv 0 1 r ∧ True)) := by
  unfold ms_areSeen
  refine gm_bdT (mt_isBorder hT) (fun f1 w1 r1 hX h1 => ?_)
  refine gm_if (fun c => gm_some ⟨hX.1, ⟨by decide, by decide⟩, trivial⟩) (fun c => ?_)
  refine gm_bdP (mt_isOf hX.1 (gb_il (a := 3) (by decide) (by decide))) (fun r h => ?_)
  refine gm_if (fun c => gm_some ⟨hX.1, ⟨by decide, by decide⟩, trivial⟩) (fun c => ?_)
  refine gm_bdP (mt_placeOf3 (h.2 c)) (fun r3 h3 => ?_)
  exact gm_lt (fun x e => gm_some ⟨by rw [e]; exact gb_TM29 hX.1 (Or.inr h3), ⟨by decide, by decide⟩, trivial⟩)
theorem mt_canMarch {n : Nat} {f : gb_F} {w : Int64} {p1 : Int32} (hT : gb_TM f) : gb_tm (ms_canMarch n f w p1) (fun f2 _ r => gb_TM f2 ∧ (gb_iv 0 1 r ∧ (¬ r = 0 → gb_PP f2))) := by
  unfold ms_canMarch
  refine gm_bdT (mt_isBorder hT) (fun f1 w1 r1 hX h1 => ?_)
  refine gm_if (fun c => gm_some ⟨hX.1, ⟨by decide, by decide⟩, fun h => absurd rfl h⟩) (fun c => ?_)
  refine gm_bdP (mt_geese hX.1) (fun r h => ?_)
  refine gm_if (fun c => gm_some ⟨hX.1, ⟨by decide, by decide⟩, fun h => absurd rfl h⟩) (fun c => ?_)
  refine gm_bdP (mt_paths hX.1) (fun r3 h3 => ?_)
  refine gm_if (fun c => gm_some ⟨hX.1, ⟨by decide, by decide⟩, fun h => absurd rfl h⟩) (fun c => ?_)
  exact gm_some ⟨hX.1, ⟨by decide, by decide⟩, fun _ => h3.2 (gb_dnle c)⟩
theorem mt_seenOf0 {n : Nat} {f : gb_F} {w : Int64} {p1 : Int32} (hT : gb_TM f) (i1 : gb_iv 0 4 p1) : gb_tm (ms_seenOf n f w p1 0) (fun f2 w2 r => f2 = f ∧ w2 = w ∧ gb_iv 0 4 r) := by
  unfold ms_seenOf
  refine gm_ck (gb_iadd (lo := 0) (hi := 990) (gb_iadd (lo := 1) (hi := 990) (gb_iadd (lo := 1) (hi := 982) (gb_i29 hT) (gb_il (lo := 1) (hi := 1) (a := 1) (by decide) (by decide)) (by decide)) (gb_imul (lo := 0) (hi := 8) (gb_il (lo := 2) (hi := 2) (a := 2) (by decide) (by decide)) i1 (by decide)) (by decide)) (gb_il (lo := 0) (hi := 0) (a := 0) (by decide) (by decide)) (by decide)) (by decide) ?_
  exact gm_lt (fun x e => gm_some ⟨rfl, rfl, by rw [e]; exact gb_r29s hT i1⟩)
