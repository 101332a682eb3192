/-! THE REFERENCE: seen ones, whole lines -/
theorem mh_adds2w {n : Nat} {f : gb_F} {w : Int64} {a b c d : Int32} (h0 : 0 ≤ (f 3 0).toInt) : gb_hm (ms_adds n f w 5 2 a b c d) (fun f2 _ _ => (∀ q, q ≠ 3 → f2 q = f q) ∧ ((¬ (f 3 0).toInt < 5 ∧ f2 3 = f 3) ∨ ((f 3 0).toInt < 5 ∧ f2 3 = upd (upd (upd (f 3) (1 + 2 * (f 3 0).toInt.toNat) a) (2 + 2 * (f 3 0).toInt.toNat) b) 0 (f 3 0 + 1)))) := mh_adds2 (by decide) (by decide) h0
def gb_tw9 (f0 : gb_F) (v : Int32) (k : Nat) (g : gb_F) : Prop := ¬ g 0 9 = 0 ↔ (¬ f0 0 9 = 0 ∨ ∃ j, j < k ∧ f0 3 (1 + 2 * j) = v)
set_option maxHeartbeats 2000000 in
theorem mh_seen54 {n : Nat} {T : Nat → Int32} {N l : Nat} {ps qs : Nat → Nat} {vs : Nat → Int} {M Qb : Nat} {fp : Int32 × Int32} {f0 : gb_F} {v2 v3 : Int32} {c i0 : Nat} (fpx : Int32 × Int32) (hc : (f0 3 0).toInt = c) (hc2 : c ≤ 5) {Q : gb_F → Int64 → Unit → Prop} (K : ∀ (g : gb_F) (w : Int64), gb_S1 T N ps qs M Qb i0 fpx g → g 3 = f0 3 → gb_tw9 f0 v2 c g → gb_hm (gb_bd (ms_adds n g w 5 2 v2 v3 (-1) (-1)) (fun f_20 wl_21 _ => gb_bd (ms_endsLine n f_20 wl_21) (fun f_25 wl_26 _ => (some (f_25, wl_26, ()) : gb_MR Unit)))) Q) : ∀ (mm : Nat) (f : gb_F) (w : Int64) (v4 : Int32) (k : Nat), v4.toInt = k → k ≤ c → gb_S1 T N ps qs M Qb i0 fpx f → f 3 = f0 3 → gb_tw9 f0 v2 k f → gb_hm (ms_seenLine_54 n mm f w v2 v3 v4) Q := by
  intro mm
  induction mm with
  | zero =>
    intros
    exact hm_none
  | succ mm ih =>
    intro f w v4 k e4 hk hS h3 h9
    rw [ms_seenLine_54]
    have t0 : Int32.toNatClampNeg 0 = 0 := by decide
    have c1 : (1 : Int32).toInt = 1 := by decide
    have c2 : (2 : Int32).toInt = 2 := by decide
    rw [t0]
    refine hm_lt (fun x ex => hm_if (fun d => ?_) (fun d => ?_))
    · have := gi_le d
      rw [ex, h3, hc, e4] at this
      have hkc : k = c := by omega
      subst hkc
      exact K f w hS h3 h9
    · have hkc : k < c := by
        have := gi_nle d
        rw [ex, h3, hc, e4] at this
        omega
      have m1 : (2 * v4).toInt = ((2 * k : Nat) : Int) := by
        rw [gb_tmul (by rw [c2, e4]; omega) (by rw [c2, e4]; omega), c2, e4]
        omega
      have m2 : (1 + 2 * v4).toInt = ((1 + 2 * k : Nat) : Int) := by
        rw [gb_tadd (by rw [c1, m1]; omega) (by rw [c1, m1]; omega), c1, m1]
        omega
      have step : ∀ (g : gb_F) (v : Int32) (y : Int32), g = gb_u f 0 (upd (f 0) 9 v) → (¬ v = 0 ↔ (¬ f 0 9 = 0 ∨ f0 3 (1 + 2 * k) = v2)) → y = v4 + 1 → ∀ w2, gb_hm (ms_seenLine_54 n mm g w2 v2 v3 y) Q := by
        intro g v y eg hv ey w2
        refine ih g w2 y (k + 1) (by rw [ey]; exact gi_s1 e4 (by omega)) (by omega) (S1_9 hS eg) (by rw [eg, gb_un (by decide)]; exact h3) ?_
        unfold gb_tw9 at h9 ⊢
        rw [eg, gb_us, pk_us, hv, h9]
        constructor
        · intro z
          rcases z with (z | ⟨j, j1, j2⟩) | z
          · exact Or.inl z
          · exact Or.inr ⟨j, by omega, j2⟩
          · exact Or.inr ⟨k, by omega, z⟩
        · intro z
          rcases z with z | ⟨j, j1, j2⟩
          · exact Or.inl (Or.inl z)
          · by_cases q : j = k
            · rw [q] at j2
              exact Or.inr j2
            · exact Or.inl (Or.inr ⟨j, by omega, j2⟩)
      refine hm_if (fun z => hm_ck (fun _ _ => hm_lt (fun x2 ex2 => ?_))) (fun z => hm_lt (fun g eg => hm_lt (fun y ey => step g 1 y eg ⟨fun _ => Or.inl z, fun _ => by decide⟩ ey _)))
      rw [gi_tn m2, h3] at ex2
      refine hm_if (fun d2 => hm_lt (fun g eg => hm_lt (fun y ey => step g 1 y eg ⟨fun _ => Or.inr (by rw [← ex2]; exact d2), fun _ => by decide⟩ ey _))) (fun d2 => hm_lt (fun g eg => hm_lt (fun y ey => step g 0 y eg ⟨fun q => absurd rfl q, fun q => ?_⟩ ey _)))
      rcases q with q | q
      · exact absurd z q
      · exact absurd (by rw [ex2]; exact q) d2
/-- at the first token of a line -/
def gb_ls (T : Nat → Int32) (N a : Nat) (fp : Int32 × Int32) (f : gb_F) : Prop := f 0 8 = 0 ∧ gb_cx T N f ∧ gb_tk T N f a ∧ (f 1 5, f 1 6) = fp ∧ (¬ fp.1 = 0 → fp.2.toInt < a)
/-- the fault of too many, by the sheet ahead of the line -/
def gb_fp3 (s l a : Nat) (R : Nat → Int32) (fp fp2 : Int32 × Int32) : Prop := (gb_room s l R ∧ fp2 = fp) ∨ (¬ gb_room s l R ∧ fp2 = gb_note fp 3 a)
theorem ls_S1 {T : Nat → Int32} {N s a l M Qb : Nat} {ps qs : Nat → Nat} {fp : Int32 × Int32} {f2 : gb_F} {e l2 : Nat} {fpq : (f2 1 5, f2 1 6) = fp} (hs : s ≤ 3) (hw : gb_word T N s a l (ps 0)) (hw2 : gb_word T N s a l2 e) (h8 : f2 0 8 = 0) (hr : gb_rs T N f2 e) (hp : ¬ fp.1 = 0 → fp.2.toInt < a) (hlt : a < e) : gb_S1 T N ps qs M Qb 0 fp f2 ∧ l2 = l ∧ e = ps 0 := by
  have h18 := gb_fl18 (s := s + 1) (by omega)
  have e1 := run_uq hw2.2.2.1 hw.2.2.1
  subst e1
  have l1 := isw_uq (by have := hw2.2.1; omega) (by have := hw.2.1; omega) hw2.2.2.2 hw.2.2.2
  exact ⟨Or.inr ⟨h8, Nat.zero_le _, hr, fpq, fun z => Or.inl (by have := hp z; omega)⟩, l1, rfl⟩
/-! no word goes on -/
def gb_W1 (q : Nat) (f : gb_F) : Prop := ¬ f 0 8 = 0 ∧ f 1 5 = 1 ∧ f 1 6 = nI q
theorem W1_s {q : Nat} {f f2 : gb_F} (h : gb_W1 q f) (h0 : f2 0 8 = f 0 8) (h1 : f2 1 = f 1) : gb_W1 q f2 := ⟨by rw [h0]; exact h.1, by rw [h1]; exact h.2.1, by rw [h1]; exact h.2.2⟩
theorem mh_endsW {n q : Nat} {f : gb_F} {w : Int64} (h : gb_W1 q f) : gb_hm (gb_bd (ms_endsLine n f w) (fun f_45 wl_46 _ => (some (f_45, wl_46, ()) : gb_MR Unit))) (fun f2 _ _ => gb_W1 q f2) := by
  refine hm_bd (P := fun f2 _ _ => gb_W1 q f2) ?_ (fun f2 _ _ g => hm_some g)
  unfold ms_endsLine
  rw [if_neg h.1]
  exact hm_bd (mh_ends1 h.1) (fun f2 w2 _ g => hm_some (by rw [g.1]; exact h))
theorem mh_numW {n q : Nat} {f : gb_F} {w : Int64} {p1 p2 : Int32} (h : gb_W1 q f) : gb_hm (ms_numbered n f w p1 p2) (fun f2 _ _ => f2 = f) := by
  unfold ms_numbered
  rw [if_neg h.1]
  exact hm_bd (mh_ends1 h.1) (fun f2 w2 _ g => hm_some g.1)
theorem mh_pathW {n q : Nat} {f : gb_F} {w : Int64} (h : gb_W1 q f) : gb_hm (ms_pathTold n f w) (fun f2 _ _ => f2 = f) := by
  unfold ms_pathTold
  exact hm_bd (mh_numW h) (fun f2 _ _ g => hm_some g)
theorem mh_addsW {n q : Nat} {f : gb_F} {w : Int64} {p1 p2 p3 p4 p5 p6 : Int32} (h : gb_W1 q f) : gb_hm (ms_adds n f w p1 p2 p3 p4 p5 p6) (fun f2 _ _ => gb_W1 q f2) := by
  have up : ∀ {g g2 : gb_F} {F : Nat → Int32}, gb_W1 q g → g2 = gb_u g 3 F → gb_W1 q g2 := fun hg e => W1_s hg (by rw [e, gb_un (by decide)]) (by rw [e, gb_un (by decide)])
  have t58 : ∀ {g : gb_F} {u : Int64} {a b c : Int32}, gb_W1 q g → gb_hm (ms_adds_58 n g u a b c) (fun f2 _ _ => gb_W1 q f2) := fun hg => by
    unfold ms_adds_58
    exact hm_if (fun _ => hm_lt (fun _ _ => hm_lt (fun _ e => hm_some (up hg e)))) (fun _ => hm_ck (fun _ _ => hm_lt (fun _ e => hm_lt (fun _ _ => hm_lt (fun _ e2 => hm_some (up (up hg e) e2))))))
  unfold ms_adds
  exact hm_lt (fun _ _ => hm_if (fun _ => hm_lt (fun _ _ => hm_lt (fun _ _ => hm_ck (fun _ _ => hm_lt (fun _ e1 => hm_ck (fun _ _ => hm_lt (fun _ e2 => hm_if (fun _ => t58 (up (up h e1) e2)) (fun _ => hm_ck (fun _ _ => hm_lt (fun _ e3 => t58 (up (up (up h e1) e2) e3)))))))))) ) (fun _ => hm_some h))
theorem mh_seen54W {n q : Nat} {v2 v3 : Int32} : ∀ (mm : Nat) (f : gb_F) (w : Int64) (v4 : Int32), gb_W1 q f → gb_hm (ms_seenLine_54 n mm f w v2 v3 v4) (fun f2 _ _ => gb_W1 q f2) := by
  intro mm
  induction mm with
  | zero =>
    intros
    exact hm_none
  | succ mm ih =>
    intro f w v4 h
    rw [ms_seenLine_54]
    have up : ∀ {g2 : gb_F} {v : Int32}, g2 = gb_u f 0 (upd (f 0) 9 v) → gb_W1 q g2 := fun e => W1_s h (by rw [e, gb_us, pk_un (by decide)]) (by rw [e, gb_un (by decide)])
    refine hm_lt (fun _ _ => hm_if (fun _ => hm_bd (mh_addsW h) (fun f2 _ _ g => mh_endsW g)) (fun _ => hm_if (fun _ => hm_ck (fun _ _ => hm_lt (fun _ _ => hm_if (fun _ => hm_lt (fun g e => hm_lt (fun y _ => ih g _ y (up e)))) (fun _ => hm_lt (fun g e => hm_lt (fun y _ => ih g _ y (up e))))))) (fun _ => hm_lt (fun g e => hm_lt (fun y _ => ih g _ y (up e))))))
/-- a line of any sort -/
def gb_line (n s : Nat) (f : gb_F) (w : Int64) : gb_MR Unit := if s = 0 then ms_borderLine n f w else if s = 1 then ms_deedLine n f w else if s = 2 then ms_termLine n f w else ms_seenLine n f w
theorem mh_noword {n : Nat} {T : Nat → Int32} {N s a : Nat} {fp : Int32 × Int32} {f : gb_F} {w : Int64} (hs : s ≤ 3) (hls : gb_ls T N a fp f) (hno : ∀ l e, ¬ gb_word T N s a l e) : gb_hm (gb_line n s f w) (fun f2 _ _ => gb_W1 a f2) := by
  obtain ⟨h8, hx, ht, hf, hp⟩ := hls
  have c4 : (4 : Int32).toInt = 4 := by decide
  have tk : ∀ (p1 p2 : Int32), p1.toInt = ((gb_fl s + 1 : Nat) : Int) → p2.toInt = gb_fl (s + 1) → gb_hm (ms_takes n f w p1 p2) (fun f2 _ r => r = 0 ∧ gb_W1 a f2) := fun p1 p2 e1 e2 => hm_mono (mh_takes hs e1 e2 h8 hx ht) (fun f2 _ r g => by
    rcases g.2 with z | z
    · obtain ⟨l, e, z1, -⟩ := z
      exact absurd z1 (hno l e)
    · exact ⟨z.2.1, z.2.2⟩)
  unfold gb_line
  have hs4 : s = 0 ∨ s = 1 ∨ s = 2 ∨ s = 3 := by omega
  rcases hs4 with rfl | rfl | rfl | rfl
  · rw [if_pos rfl]
    unfold ms_borderLine
    refine hm_lt (fun x ex => hm_bd (tk 1 3 (by decide) (by decide)) (fun f2 u r g => ?_))
    obtain ⟨rfl, g⟩ := g
    rw [if_neg (by decide)]
    unfold ms_borderLine_22
    rw [if_neg (by decide), if_neg (by decide)]
    exact mh_endsW g
  · rw [if_neg (by decide), if_pos rfl]
    unfold ms_deedLine
    refine hm_lt (fun x ex => hm_bd (tk 4 12 (by decide) (by decide)) (fun f2 u r g => ?_))
    obtain ⟨rfl, g⟩ := g
    refine hm_lt (fun y ey => ?_)
    have ey2 : y = -4 := by rw [ey]; decide
    subst ey2
    rw [if_neg g.1]
    unfold ms_deedLine_39
    refine hm_bd (mh_inN (by decide)) (fun g1 u1 r1 h1 => ?_)
    obtain ⟨e1, -, eR⟩ := h1
    subst eR
    subst e1
    rw [if_pos rfl]
    unfold ms_deedLine_61
    refine hm_bd (mh_inN (by decide)) (fun g2 u2 r2 h2 => ?_)
    obtain ⟨e2, -, eR⟩ := h2
    subst eR
    subst e2
    rw [if_pos rfl]
    unfold ms_deedLine_76
    rw [if_neg (by decide)]
    unfold ms_deedLine_125
    rw [if_neg (by decide)]
    unfold ms_deedLine_139
    rw [if_neg (by decide)]
    unfold ms_deedLine_152
    rw [if_neg (by decide)]
    exact hm_bd (mh_addsW g) (fun f3 _ _ k => mh_endsW k)
  · rw [if_neg (by decide), if_neg (by decide), if_pos rfl]
    unfold ms_termLine
    refine hm_lt (fun x ex => hm_bd (tk 13 17 (by decide) (by decide)) (fun f2 u r g => ?_))
    obtain ⟨rfl, g⟩ := g
    refine hm_lt (fun y ey => ?_)
    have ey2 : y = -13 := by rw [ey]; decide
    subst ey2
    rw [if_neg g.1]
    unfold ms_termLine_41
    rw [if_neg (by decide)]
    unfold ms_termLine_58
    rw [if_neg (by decide), if_neg (by decide)]
    unfold ms_termLine_86
    rw [if_neg (by decide)]
    unfold ms_termLine_99
    rw [if_neg (by decide)]
    exact hm_bd (mh_addsW g) (fun f3 _ _ k => mh_endsW k)
  · rw [if_neg (by decide), if_neg (by decide), if_neg (by decide)]
    unfold ms_seenLine
    refine hm_lt (fun x ex => hm_bd (tk 18 18 (by decide) (by decide)) (fun f2 u r g => ?_))
    obtain ⟨-, g⟩ := g
    rw [if_neg g.1]
    refine hm_bd (mh_pathW g) (fun f3 u3 r3 e3 => ?_)
    subst e3
    refine hm_bd (mh_numW g) (fun f4 u4 r4 e4 => ?_)
    subst e4
    exact mh_seen54W n _ _ _ g
set_option maxHeartbeats 4000000 in
theorem mh_line {n : Nat} {T : Nat → Int32} {N s a l : Nat} {ps qs : Nat → Nat} {vs : Nat → Int} {M Qb : Nat} {fp fp2 : Int32 × Int32} {f : gb_F} {w : Int64} (hs : s ≤ 3) (hls : gb_ls T N a fp f) (hw : gb_word T N s a l (ps 0)) (hP : gb_pl1 T N l ps qs vs M Qb) (hf : gb_fp3 s l a (f 3) fp fp2) (h0 : gb_iv 0 24 (f 3 0)) (h03 : s = 3 → gb_iv 0 5 (f 3 0)) (h1 : s = 0 → 0 ≤ (f 3 1).toInt) : gb_hm (gb_line n s f w) (fun f2 _ _ => gb_ml T N s l ps qs vs M Qb fp2 f f2) := by
  obtain ⟨h8, hx, ht, hfp, hp⟩ := hls
  have hN := hx.2.1
  have h00 := h0.1
  have tk : ∀ (p1 p2 : Int32), p1.toInt = ((gb_fl s + 1 : Nat) : Int) → p2.toInt = gb_fl (s + 1) → gb_hm (ms_takes n f w p1 p2) (fun f2 _ r => gb_ke f f2 ∧ r.toInt = ((l + 1 : Nat) : Int) ∧ f2 0 8 = 0 ∧ gb_S1 T N ps qs M Qb 0 fp f2 ∧ a < ps 0 ∧ ps 0 ≤ N) := fun p1 p2 e1 e2 => hm_mono (mh_takes hs e1 e2 h8 hx ht) (fun f2 _ r g => by
    obtain ⟨k, g⟩ := g
    rcases g with z | z
    · obtain ⟨l2, e, z1, z2, z3, z4, z5, z6, z7⟩ := z
      obtain ⟨y1, y2, y3⟩ := ls_S1 (M := M) (Qb := Qb) (qs := qs) (fpq := by rw [z6]; exact hfp) hs hw z1 z5 z7 hp z2
      subst y2
      subst y3
      exact ⟨k, z4, z5, y1, z2, z3⟩
    · exact absurd hw (z.1 l (ps 0)))
  have hmd : ∀ {b : Int32} {k : Nat}, b.toInt = ((l + 1 : Nat) : Int) → l + 1 = k → ∀ {c : Int32}, c.toInt = k → b = c := fun hb hk _ hc => gb_ieq (by rw [hb, hk, hc])
  unfold gb_line
  have hs4 : s = 0 ∨ s = 1 ∨ s = 2 ∨ s = 3 := by omega
  rcases hs4 with rfl | rfl | rfl | rfl
  · rw [if_pos rfl]
    unfold ms_borderLine
    refine hm_lt (fun x ex => hm_bd (tk 1 3 (by decide) (by decide)) (fun f2 u r g => ?_))
    obtain ⟨k, hr, g8, gS, g5, g6⟩ := g
    have exa : x.toInt = a := by rw [ex]; exact ht.1
    have hl3 : l < 3 := hw.2.1
    have l3 : l = 0 ∨ l = 1 ∨ l = 2 := by omega
    have h0' : 0 ≤ (f2 3 0).toInt := by rw [k.1]; exact h00
    have h1' : 0 ≤ (f2 3 1).toInt := by rw [k.1]; exact h1 rfl
    have hf' : gb_fp3 0 l a (f2 3) fp fp2 := by rw [k.1]; exact hf
    rcases l3 with rfl | rfl | rfl
    · have r1 : r = 1 := hmd hr rfl (by decide)
      subst r1
      rw [if_pos rfl]
      refine hm_bd (mh_pathLine hP gS h0' exa g5 (by omega) hp hf') (fun f3 u3 _ g3 => ?_)
      obtain ⟨s3, n3, U, u1, u2⟩ := g3
      rw [k.1] at u2
      unfold ms_borderLine_22
      rw [if_neg (by decide), if_neg (by decide)]
      exact mh_fin (f0 := f) (U := U) hP.2.1 s3 u1 u2 (Or.inl ⟨by decide, n3.trans k.2.2.1⟩)
    · have r1 : r = 2 := hmd hr rfl (by decide)
      subst r1
      rw [if_neg (by decide)]
      unfold ms_borderLine_22
      rw [if_pos rfl]
      refine hm_bd (mh_gooseLine hP gS h1' exa g5 (by omega) hp hf') (fun f3 u3 _ g3 => ?_)
      obtain ⟨s3, n3, U, u1, u2⟩ := g3
      rw [k.1] at u2
      rw [if_neg (by decide)]
      exact mh_fin (f0 := f) (U := U) hP.2.1 s3 u1 u2 (Or.inl ⟨by decide, n3.trans k.2.2.1⟩)
    · have r1 : r = 3 := hmd hr rfl (by decide)
      subst r1
      have t2 : Int32.toNatClampNeg 2 = 2 := by decide
      have rm : gb_room 0 2 (f 3) := by
        unfold gb_room
        rw [if_pos rfl]
        exact Or.inl rfl
      have f2E : fp2 = fp := by
        rcases hf with z | z
        · exact z.2
        · exact absurd rm z.1
      subst f2E
      rw [if_neg (by decide)]
      unfold ms_borderLine_22
      rw [if_neg (by decide), if_pos rfl, t2]
      refine hm_bd (mh_nu (l := 2) (i := 0) (fp := fp2) (lo := 0) (hi := 999) hP.1 (fun z => hP.2.2 (by rw [← z]; decide)) (by decide) (by decide) (fun _ => can_rg (by decide) (by decide) (by decide)) gS) (fun f3 u3 r0 g3 => ?_)
      obtain ⟨s3, v0, k3⟩ := g3
      refine hm_lt (fun f4 e4 => ?_)
      have kk := ke_t k k3
      refine mh_fin (f0 := f) (U := fun _ => r0) hP.2.1 (S1_same s3 (by rw [e4, gb_un (by decide)]) (by rw [e4, gb_un (by decide)])) (fun hM hz j hj => ?_) (Or.inr ⟨rm, Or.inl ⟨rfl, Or.inl ⟨rfl, by rw [e4, gb_us, kk.1]⟩⟩⟩) (Or.inl ⟨by decide, by rw [e4, gb_un (by decide)]; exact kk.2.2.1⟩)
      have cc := (ff_0 _ hz).2
      have hM2 : M = 1 := hM
      have hj2 : j < 1 := hj
      have : j = 0 := by omega
      subst this
      exact v0 (by omega) (cc 0 (by decide))
  · rw [if_neg (by decide), if_pos rfl]
    unfold ms_deedLine
    have t0 : Int32.toNatClampNeg 0 = 0 := by decide
    have c4 : (4 : Int32).toInt = 4 := by decide
    have c24 : (24 : Int32).toInt = 24 := by decide
    rw [t0]
    refine hm_lt (fun x ex => hm_bd (tk 4 12 (by decide) (by decide)) (fun f2 u r g => ?_))
    obtain ⟨k, hr, g8, gS, g5, g6⟩ := g
    have exa : x.toInt = a := by rw [ex]; exact ht.1
    have hl1 : 3 ≤ l := hw.1
    have hl2 : l < 12 := hw.2.1
    have go : ∀ (g : gb_F) (u : Int64) (y : Int32), y = r - 4 → gb_S1 T N ps qs M Qb 0 fp2 g → g 3 = f 3 → g 0 9 = f 0 9 → gb_hm (ms_deedLine_39 n g u y) (fun f2 _ _ => gb_ml T N 1 l ps qs vs M Qb fp2 f f2) := by
      intro g u y ey gS g3 g9
      have hy : y.toInt = ((l - 3 : Nat) : Int) := by
        rw [ey, gb_tsub (by omega) (by omega), hr, c4]
        omega
      have h0g : 0 ≤ (g 3 0).toInt := by rw [g3]; exact h00
      have tr : ∀ f2 : gb_F, gb_ml T N 1 l ps qs vs M Qb fp2 g f2 → gb_ml T N 1 l ps qs vs M Qb fp2 f f2 := fun f2 z => by
        unfold gb_ml at z ⊢
        rw [g3, g9] at z
        exact z
      have c9 : l = 3 ∨ l = 4 ∨ l = 5 ∨ l = 6 ∨ l = 7 ∨ l = 8 ∨ l = 9 ∨ l = 10 ∨ l = 11 := by omega
      rcases c9 with rfl | rfl | rfl | rfl | rfl | rfl | rfl | rfl | rfl
      · rw [show y = 0 from gi_eq hy (by decide)]
        exact hm_mono (mh_deed3 hP gS h0g) (fun f2 _ _ z => tr f2 z)
      · rw [show y = 1 from gi_eq hy (by decide)]
        exact hm_mono (mh_deed4 hP gS h0g) (fun f2 _ _ z => tr f2 z)
      · rw [show y = 2 from gi_eq hy (by decide)]
        exact hm_mono (mh_deed5 hP gS h0g) (fun f2 _ _ z => tr f2 z)
      · rw [show y = 3 from gi_eq hy (by decide)]
        exact hm_mono (mh_deed6 hP gS h0g) (fun f2 _ _ z => tr f2 z)
      · rw [show y = 4 from gi_eq hy (by decide)]
        exact hm_mono (mh_deed7 hP gS h0g) (fun f2 _ _ z => tr f2 z)
      · rw [show y = 5 from gi_eq hy (by decide)]
        exact hm_mono (mh_deed8 hP gS h0g) (fun f2 _ _ z => tr f2 z)
      · rw [show y = 6 from gi_eq hy (by decide)]
        exact hm_mono (mh_deed9 hP gS h0g) (fun f2 _ _ z => tr f2 z)
      · rw [show y = 7 from gi_eq hy (by decide)]
        exact hm_mono (mh_deed10 hP gS h0g) (fun f2 _ _ z => tr f2 z)
      · rw [show y = 8 from gi_eq hy (by decide)]
        exact hm_mono (mh_deed11 hP gS h0g) (fun f2 _ _ z => tr f2 z)
    refine hm_lt (fun y ey => ?_)
    rw [if_pos g8]
    refine hm_lt (fun z ez => hm_if (fun c => ?_) (fun c => ?_))
    · have rm : gb_room 1 l (f 3) := by
        have := gi_lt c
        rw [ez, k.1, c24] at this
        exact this
      have f2E : fp2 = fp := by
        rcases hf with q | q
        · exact q.2
        · exact absurd rm q.1
      exact go f2 u y ey (by rw [f2E]; exact gS) k.1 k.2.2.1
    · have rm : ¬ gb_room 1 l (f 3) := fun q => by
        have := gi_nlt c
        rw [ez, k.1, c24] at this
        have q' : (f 3 0).toInt < 24 := q
        omega
      have f2E : fp2 = gb_note fp 3 a := by
        rcases hf with q | q
        · exact absurd q.1 rm
        · exact q.2
      refine hm_bd (mh_al3 gS exa g5 (by omega) hp) (fun g u2 _ hg => ?_)
      exact go g u2 y ey (by rw [f2E]; exact hg.1) (hg.2.1.trans k.1) (by rw [hg.2.2]; exact k.2.2.1)
  · rw [if_neg (by decide), if_neg (by decide), if_pos rfl]
    unfold ms_termLine
    have t0 : Int32.toNatClampNeg 0 = 0 := by decide
    have c13 : (13 : Int32).toInt = 13 := by decide
    have c8 : (8 : Int32).toInt = 8 := by decide
    rw [t0]
    refine hm_lt (fun x ex => hm_bd (tk 13 17 (by decide) (by decide)) (fun f2 u r g => ?_))
    obtain ⟨k, hr, g8, gS, g5, g6⟩ := g
    have exa : x.toInt = a := by rw [ex]; exact ht.1
    have hl1 : 12 ≤ l := hw.1
    have hl2 : l < 17 := hw.2.1
    have go : ∀ (g : gb_F) (u : Int64) (y : Int32), y = r - 13 → gb_S1 T N ps qs M Qb 0 fp2 g → g 3 = f 3 → g 0 9 = f 0 9 → gb_hm (ms_termLine_41 n g u y) (fun f2 _ _ => gb_ml T N 2 l ps qs vs M Qb fp2 f f2) := by
      intro g u y ey gS g3 g9
      have hy : y.toInt = ((l - 12 : Nat) : Int) := by
        rw [ey, gb_tsub (by omega) (by omega), hr, c13]
        omega
      have h0g : 0 ≤ (g 3 0).toInt := by rw [g3]; exact h00
      have tr : ∀ f2 : gb_F, gb_ml T N 2 l ps qs vs M Qb fp2 g f2 → gb_ml T N 2 l ps qs vs M Qb fp2 f f2 := fun f2 z => by
        unfold gb_ml at z ⊢
        rw [g3, g9] at z
        exact z
      have c9 : l = 12 ∨ l = 13 ∨ l = 14 ∨ l = 15 ∨ l = 16 := by omega
      rcases c9 with rfl | rfl | rfl | rfl | rfl
      · rw [show y = 0 from gi_eq hy (by decide)]
        exact hm_mono (mh_term12 hP gS h0g) (fun f2 _ _ z => tr f2 z)
      · rw [show y = 1 from gi_eq hy (by decide)]
        exact hm_mono (mh_term13 hP gS h0g) (fun f2 _ _ z => tr f2 z)
      · rw [show y = 2 from gi_eq hy (by decide)]
        exact hm_mono (mh_term14 hP gS h0g) (fun f2 _ _ z => tr f2 z)
      · rw [show y = 3 from gi_eq hy (by decide)]
        exact hm_mono (mh_term15 hP gS h0g) (fun f2 _ _ z => tr f2 z)
      · rw [show y = 4 from gi_eq hy (by decide)]
        exact hm_mono (mh_term16 hP gS h0g) (fun f2 _ _ z => tr f2 z)
    refine hm_lt (fun y ey => ?_)
    rw [if_pos g8]
    refine hm_lt (fun z ez => hm_if (fun c => ?_) (fun c => ?_))
    · have rm : gb_room 2 l (f 3) := by
        have := gi_lt c
        rw [ez, k.1, c8] at this
        exact this
      have f2E : fp2 = fp := by
        rcases hf with q | q
        · exact q.2
        · exact absurd rm q.1
      exact go f2 u y ey (by rw [f2E]; exact gS) k.1 k.2.2.1
    · have rm : ¬ gb_room 2 l (f 3) := fun q => by
        have := gi_nlt c
        rw [ez, k.1, c8] at this
        have q' : (f 3 0).toInt < 8 := q
        omega
      have f2E : fp2 = gb_note fp 3 a := by
        rcases hf with q | q
        · exact absurd q.1 rm
        · exact q.2
      refine hm_bd (mh_al3 gS exa g5 (by omega) hp) (fun g u2 _ hg => ?_)
      exact go g u2 y ey (by rw [f2E]; exact hg.1) (hg.2.1.trans k.1) (by rw [hg.2.2]; exact k.2.2.1)
  · rw [if_neg (by decide), if_neg (by decide), if_neg (by decide)]
    unfold ms_seenLine
    have t0 : Int32.toNatClampNeg 0 = 0 := by decide
    have c5 : (5 : Int32).toInt = 5 := by decide
    have z0 : (0 : Int32).toInt = ((0 : Nat) : Int) := by decide
    rw [t0]
    refine hm_lt (fun x ex => hm_bd (tk 18 18 (by decide) (by decide)) (fun f2 u r g => ?_))
    obtain ⟨k, hr, g8, gS, g5, g6⟩ := g
    have exa : x.toInt = a := by rw [ex]; exact ht.1
    have hl1 : 17 ≤ l := hw.1
    have hl2 : l < 18 := hw.2.1
    have l17 : l = 17 := by omega
    subst l17
    have i5 := h03 rfl
    have i51 := i5.1
    have i52 := i5.2
    obtain ⟨c, ec, -⟩ := gi_nn i51
    have go : ∀ (g : gb_F) (u : Int64), gb_S1 T N ps qs M Qb 0 fp2 g → g 3 = f 3 → g 0 9 = f 0 9 → gb_hm (gb_bd (ms_pathTold n g u) (fun f_42 wl_43 r_44 => gb_bd (ms_numbered n f_42 wl_43 0 999) (fun f_47 wl_48 r_49 => ms_seenLine_54 n n f_47 wl_48 r_44 r_49 0))) (fun f2 _ _ => gb_ml T N 3 17 ps qs vs M Qb fp2 f f2) := by
      intro g u gS g3 g9
      refine hm_bd (mh_pathTold (l := 17) (i := 0) (fp := fp2) hP.1 (fun z => hP.2.2 (by rw [← z]; decide)) (fun _ => can_rg (by decide) (by decide) (by decide)) gS) (fun f3 u3 r0 k3 => ?_)
      obtain ⟨s3, v0, k3⟩ := k3
      refine hm_bd (mh_nu (l := 17) (i := 1) (fp := fp2) (lo := 0) (hi := 999) hP.1 (fun z => hP.2.2 (by rw [← z]; decide)) (by decide) (by decide) (fun _ => can_rg (by decide) (by decide) (by decide)) s3) (fun f4 u4 r1 k4 => ?_)
      obtain ⟨s4, v1, k4⟩ := k4
      have kk := ke_t k3 k4
      have f43 : f4 3 = f 3 := kk.1.trans g3
      have f49 : f4 0 9 = f 0 9 := kk.2.2.1.trans g9
      have cc2 : (f 3 0).toInt.toNat = c := by omega
      refine mh_seen54 (T := T) (N := N) (l := 17) (ps := ps) (qs := qs) (vs := vs) (M := M) (Qb := Qb) (fp := fp2) (f0 := f) (c := c) (i0 := 2) (gb_ff 17 qs vs fp2 2) ec (by omega) (fun g5 u5 q1 q2 q3 => ?_) n f4 u4 0 0 z0 (Nat.zero_le _) s4 f43 ?_
      · refine hm_bd (mh_adds2w (by rw [q2]; exact h00)) (fun g6 u6 _ q6 => ?_)
        obtain ⟨n6, a6⟩ := q6
        rw [q2] at a6
        refine mh_fin (f0 := f) (U := fun j => if j = 0 then r0 else r1) hP.2.1 (S1_same q1 (n6 0 (by decide)) (n6 1 (by decide))) (fun hM hz j hj => ?_) (addR_3 rfl rfl a6) (Or.inr ⟨rfl, ?_⟩)
        · have cc := (ff_0 _ hz).2
          have hM2 : M = 2 := hM
          have hj2 : j < 2 := hj
          have : j = 0 ∨ j = 1 := by omega
          rcases this with rfl | rfl
          · exact v0 (by omega) (cc 0 (by decide))
          · exact v1 (by omega) (cc 1 (by decide))
        · rw [n6 0 (by decide), cc2]
          exact q3
      · unfold gb_tw9
        rw [f49]
        constructor
        · intro z
          exact Or.inl z
        · intro z
          rcases z with z | ⟨j, j1, -⟩
          · exact z
          · exact absurd j1 (Nat.not_lt_zero _)
    rw [if_pos g8]
    refine hm_lt (fun z ez => hm_if (fun d => ?_) (fun d => ?_))
    · have rm : gb_room 3 17 (f 3) := by
        have := gi_lt d
        rw [ez, k.1, c5] at this
        exact this
      have f2E : fp2 = fp := by
        rcases hf with q | q
        · exact q.2
        · exact absurd rm q.1
      exact go f2 u (by rw [f2E]; exact gS) k.1 k.2.2.1
    · have rm : ¬ gb_room 3 17 (f 3) := fun q => by
        have := gi_nlt d
        rw [ez, k.1, c5] at this
        have q' : (f 3 0).toInt < 5 := q
        omega
      have f2E : fp2 = gb_note fp 3 a := by
        rcases hf with q | q
        · exact absurd q.1 rm
        · exact q.2
      refine hm_bd (mh_al3 gS exa g5 (by omega) hp) (fun g u2 _ hg => ?_)
      exact go g u2 (by rw [f2E]; exact hg.1) (hg.2.1.trans k.1) (by rw [hg.2.2]; exact k.2.2.1)
