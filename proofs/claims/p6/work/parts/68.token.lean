/-! THE REFERENCE: bytes and tokens -/
theorem gb_TMf2 {f : gb_F} {v : Int32} (h : gb_TM f) (i : gb_iv 0 600 v) : gb_TM (gb_u f 0 (upd (f 0) 2 v)) := by
  obtain ⟨⟨h1, -, h2⟩, h3⟩ := h
  exact ⟨⟨h1, i, h2⟩, h3⟩
theorem gb_TMf3 {f : gb_F} {v : Int32} (h : gb_TM f) (i : gb_iv 0 600 v) : gb_TM (gb_u f 0 (upd (f 0) 3 v)) := by
  obtain ⟨⟨h1, h4, -, h2⟩, h3⟩ := h
  exact ⟨⟨h1, h4, i, h2⟩, h3⟩
theorem gb_TMf4 {f : gb_F} {v : Int32} (h : gb_TM f) (i : gb_iv 0 600 v) : gb_TM (gb_u f 0 (upd (f 0) 4 v)) := by
  obtain ⟨⟨h1, h4, h5, -, h2⟩, h3⟩ := h
  exact ⟨⟨h1, h4, h5, i, h2⟩, h3⟩
theorem gb_TMfj {f : gb_F} {j : Nat} {v : Int32} (h : gb_TM f) (hj : gb_fj j = true) : gb_TM (gb_u f 0 (upd (f 0) j v)) := (gb_XKf (gb_XKr h) hj).1
def gb_by (f : gb_F) : Int32 := if (f 0 2) ≤ (f 0 3) then (-1) else f 1 (Int32.toNatClampNeg (10 + (f 0 3)))
theorem mt_byteE {n : Nat} {f : gb_F} {w : Int64} (hT : gb_TM f) : gb_tm (ms_byteAt n f w (f 0 3)) (fun f2 w2 r => f2 = f ∧ w2 = w ∧ r = gb_by f) := by
  unfold ms_byteAt gb_by
  by_cases c : (f 0 2) ≤ (f 0 3)
  · rw [if_pos c, if_pos c]
    exact gm_some ⟨rfl, rfl, rfl⟩
  · rw [if_neg c, if_neg c]
    exact gm_ck (gb_iadd (lo := 10) (hi := 610) (gb_ic (a := 10) (by decide)) (gb_i3 hT) (by decide)) (by decide) (gm_lt (fun x e => gm_some ⟨rfl, rfl, e⟩))
theorem gb_by_lt {f : gb_F} (h : ¬ gb_by f = -1) (hT : gb_TM f) : gb_iv 0 599 (f 0 3) := by
  unfold gb_by at h
  by_cases c : (f 0 2) ≤ (f 0 3)
  · rw [if_pos c] at h
    exact absurd rfl h
  · have h1 := gb_dnle c
    have h2 := (gb_i2 hT).2
    have h3 := (gb_i3 hT).1
    exact ⟨h3, by omega⟩
theorem gb_by_eq {f f2 : gb_F} (h1 : f2 1 = f 1) (h2 : f2 0 2 = f 0 2) (h3 : f2 0 3 = f 0 3) : gb_by f2 = gb_by f := by
  unfold gb_by
  rw [h1, h2, h3]
theorem mt_isLetterE {n : Nat} {f : gb_F} {w : Int64} {p : Int32} : gb_tm (ms_isLetter n f w p) (fun f2 w2 r => f2 = f ∧ w2 = w ∧ (gb_iv 97 122 p ∧ r = 1 ∨ ¬ gb_iv 97 122 p ∧ r = 0)) := by
  have c1 : (97 : Int32).toInt = 97 := by decide
  have c2 : (122 : Int32).toInt = 122 := by decide
  unfold ms_isLetter
  refine gm_if (fun c => gm_some ⟨rfl, rfl, Or.inr ⟨fun h => ?_, rfl⟩⟩) (fun c => gm_if (fun d => gm_some ⟨rfl, rfl, Or.inr ⟨fun h => ?_, rfl⟩⟩) (fun d => gm_some ⟨rfl, rfl, Or.inl ⟨?_, rfl⟩⟩))
  · have := gb_dlt c
    have := h.1
    omega
  · have := gb_dlt d
    have := h.2
    omega
  · have := gb_dnlt c
    have := gb_dnlt d
    exact ⟨by omega, by omega⟩
theorem mt_isDigitE {n : Nat} {f : gb_F} {w : Int64} {p : Int32} : gb_tm (ms_isDigit n f w p) (fun f2 w2 r => f2 = f ∧ w2 = w ∧ (gb_iv 48 57 p ∧ r = 1 ∨ ¬ gb_iv 48 57 p ∧ r = 0)) := by
  have c1 : (48 : Int32).toInt = 48 := by decide
  have c2 : (57 : Int32).toInt = 57 := by decide
  unfold ms_isDigit
  refine gm_if (fun c => gm_some ⟨rfl, rfl, Or.inr ⟨fun h => ?_, rfl⟩⟩) (fun c => gm_if (fun d => gm_some ⟨rfl, rfl, Or.inr ⟨fun h => ?_, rfl⟩⟩) (fun d => gm_some ⟨rfl, rfl, Or.inl ⟨?_, rfl⟩⟩))
  · have := gb_dlt c
    have := h.1
    omega
  · have := gb_dlt d
    have := h.2
    omega
  · have := gb_dnlt c
    have := gb_dnlt d
    exact ⟨by omega, by omega⟩
theorem mt_four {n : Nat} {f : gb_F} {w : Int64} {p1 p2 p3 p4 : Int32} : gb_tm (ms_four n f w p1 p2 p3 p4) (fun f2 w2 _ => f2 = f ∧ w2 = w ∧ True) := by
  unfold ms_four
  exact gm_some ⟨rfl, rfl, trivial⟩
theorem mt_eight {n : Nat} {f : gb_F} {w : Int64} {p1 p2 p3 p4 p5 p6 p7 p8 : Int32} : gb_tm (ms_eight n f w p1 p2 p3 p4 p5 p6 p7 p8) (fun f2 w2 _ => f2 = f ∧ w2 = w ∧ True) := by
  unfold ms_eight
  exact gm_bdP (R := fun _ => True) mt_four (fun _ _ => gm_bdP (R := fun _ => True) mt_four (fun _ _ => gm_some ⟨rfl, rfl, trivial⟩))
theorem mt_wordOf {n : Nat} {f : gb_F} {w : Int64} {p1 : Int64} : gb_tm (ms_wordOf n f w p1) (fun f2 w2 _ => f2 = f ∧ w2 = w ∧ True) := by
  unfold ms_wordOf
  refine gm_bdP (R := fun _ => True) mt_four (fun _ _ => gm_if (fun _ => gm_some ⟨rfl, rfl, trivial⟩) (fun _ => ?_))
  refine gm_bdP (R := fun _ => True) mt_eight (fun _ _ => gm_if (fun _ => gm_some ⟨rfl, rfl, trivial⟩) (fun _ => ?_))
  refine gm_bdP (R := fun _ => True) mt_four (fun _ _ => gm_if (fun _ => gm_some ⟨rfl, rfl, trivial⟩) (fun _ => ?_))
  refine gm_bdP (R := fun _ => True) mt_eight (fun _ _ => gm_if (fun _ => gm_some ⟨rfl, rfl, trivial⟩) (fun _ => ?_))
  refine gm_bdP (R := fun _ => True) mt_four (fun _ _ => gm_if (fun _ => gm_some ⟨rfl, rfl, trivial⟩) (fun _ => ?_))
  refine gm_bdP (R := fun _ => True) mt_four (fun _ _ => gm_if (fun _ => gm_some ⟨rfl, rfl, trivial⟩) (fun _ => ?_))
  refine gm_bdP (R := fun _ => True) mt_eight (fun _ _ => gm_if (fun _ => gm_some ⟨rfl, rfl, trivial⟩) (fun _ => ?_))
  refine gm_bdP (R := fun _ => True) mt_eight (fun _ _ => gm_if (fun _ => gm_some ⟨rfl, rfl, trivial⟩) (fun _ => ?_))
  refine gm_bdP (R := fun _ => True) mt_four (fun _ _ => gm_if (fun _ => gm_some ⟨rfl, rfl, trivial⟩) (fun _ => ?_))
  refine gm_bdP (R := fun _ => True) mt_eight (fun _ _ => gm_if (fun _ => gm_some ⟨rfl, rfl, trivial⟩) (fun _ => ?_))
  refine gm_bdP (R := fun _ => True) mt_four (fun _ _ => gm_if (fun _ => gm_some ⟨rfl, rfl, trivial⟩) (fun _ => ?_))
  refine gm_bdP (R := fun _ => True) mt_four (fun _ _ => gm_if (fun _ => gm_some ⟨rfl, rfl, trivial⟩) (fun _ => ?_))
  refine gm_bdP (R := fun _ => True) mt_four (fun _ _ => gm_if (fun _ => gm_some ⟨rfl, rfl, trivial⟩) (fun _ => ?_))
  refine gm_bdP (R := fun _ => True) mt_eight (fun _ _ => gm_if (fun _ => gm_some ⟨rfl, rfl, trivial⟩) (fun _ => ?_))
  refine gm_bdP (R := fun _ => True) mt_eight (fun _ _ => gm_if (fun _ => gm_some ⟨rfl, rfl, trivial⟩) (fun _ => ?_))
  refine gm_bdP (R := fun _ => True) mt_four (fun _ _ => gm_if (fun _ => gm_some ⟨rfl, rfl, trivial⟩) (fun _ => ?_))
  refine gm_bdP (R := fun _ => True) mt_four (fun _ _ => gm_if (fun _ => gm_some ⟨rfl, rfl, trivial⟩) (fun _ => ?_))
  refine gm_bdP (R := fun _ => True) mt_four (fun _ _ => gm_if (fun _ => gm_some ⟨rfl, rfl, trivial⟩) (fun _ => ?_))
  exact gm_some ⟨rfl, rfl, trivial⟩
/-! what reading a token keeps -/
def gb_V (f f2 : gb_F) : Prop := gb_TM f2 ∧ f2 1 = f 1 ∧ f2 3 = f 3 ∧ f2 0 8 = f 0 8 ∧ f2 0 2 = f 0 2
theorem gb_Vt {f f2 f3 : gb_F} (h : gb_V f f2) (g : gb_V f2 f3) : gb_V f f3 := ⟨g.1, g.2.1.trans h.2.1, g.2.2.1.trans h.2.2.1, g.2.2.2.1.trans h.2.2.2.1, g.2.2.2.2.trans h.2.2.2.2⟩
theorem gb_V3 {f : gb_F} {v : Int32} (h : gb_TM f) (i : gb_iv 0 600 v) : gb_V f (gb_u f 0 (upd (f 0) 3 v)) := ⟨gb_TMf3 h i, rfl, rfl, rfl, rfl⟩
theorem gb_V4 {f : gb_F} {v : Int32} (h : gb_TM f) (i : gb_iv 0 600 v) : gb_V f (gb_u f 0 (upd (f 0) 4 v)) := ⟨gb_TMf4 h i, rfl, rfl, rfl, rfl⟩
theorem gb_V5 {f : gb_F} {v : Int32} (h : gb_TM f) : gb_V f (gb_u f 0 (upd (f 0) 5 v)) := ⟨gb_TMfj h rfl, rfl, rfl, rfl, rfl⟩
theorem gb_V6 {f : gb_F} {v : Int32} (h : gb_TM f) : gb_V f (gb_u f 0 (upd (f 0) 6 v)) := ⟨gb_TMfj h rfl, rfl, rfl, rfl, rfl⟩
theorem gb_V7 {f : gb_F} {v : Int32} (h : gb_TM f) : gb_V f (gb_u f 0 (upd (f 0) 7 v)) := ⟨gb_TMfj h rfl, rfl, rfl, rfl, rfl⟩
/-- from a place on: where the token begins, and that it isn't empty -/
def gb_A (p : Int) (f f2 : gb_F) : Prop := gb_V f f2 ∧ p ≤ (f2 0 4).toInt ∧ (f2 0 4).toInt ≤ (f2 0 3).toInt ∧ (¬ f2 0 5 = 0 → (f2 0 4).toInt < (f2 0 3).toInt)
theorem gb_inc {v : Int32} (i : gb_iv 0 599 v) : gb_iv 0 600 (v + 1) ∧ (v + 1).toInt = v.toInt + 1 := ⟨gb_iw (gb_iadd (lo := 1) (hi := 600) i (gb_ic (a := 1) (by decide)) (by decide)) (by decide), gb_i1 i (by decide)⟩
theorem gb_nn1 {a b : Int} {x : Int32} (h : gb_iv a b x) (k : 0 ≤ a) : ¬ x = -1 := fun e => by
  have h1 := h.1
  rw [e] at h1
  have : (-1 : Int32).toInt = -1 := by decide
  omega
set_option maxHeartbeats 4000000 in
theorem mt_advance_198 {n : Nat} : ∀ (mm : Nat) (f : gb_F) (w : Int64) (p : Int), gb_TM f → p ≤ (f 0 4).toInt → (f 0 4).toInt ≤ (f 0 3).toInt → ((f 0 4).toInt < (f 0 3).toInt ∨ gb_iv 48 57 (gb_by f)) → (600 - (f 0 3).toInt).toNat < mm → gb_tm (ms_advance_198 n mm f w) (fun f2 _ _ => gb_A p f f2) := by
  intro mm
  induction mm with
  | zero =>
    intro f w p hT hp h43 hd hm
    exact absurd hm (Nat.not_lt_zero _)
  | succ mm ih =>
    intro f w p hT hp h43 hd hm
    rw [ms_advance_198]
    refine gm_bdP (mt_byteE hT) (fun r er => ?_)
    refine gm_bdP mt_isDigitE (fun r2 h2 => ?_)
    rw [er] at h2
    refine gm_if (fun c => ?_) (fun c => ?_)
    · have hlt : (f 0 4).toInt < (f 0 3).toInt := by
        rcases h2 with h2 | h2
        · rw [h2.2] at c
          exact absurd c (by decide)
        · rcases hd with hd | hd
          · exact hd
          · exact absurd hd h2.1
      refine gm_if (fun _ => gm_lt (fun f2 e2 => gm_some ?_)) (fun _ => gm_lt (fun f2 e2 => gm_some ?_))
      · rw [e2]
        exact ⟨gb_V5 hT, hp, h43, fun _ => hlt⟩
      · rw [e2]
        exact ⟨gb_V5 hT, hp, h43, fun _ => hlt⟩
    · have hdg : gb_iv 48 57 (gb_by f) := by
        rcases h2 with h2 | h2
        · exact h2.1
        · exact absurd h2.2 c
      have i3 := gb_by_lt (gb_nn1 hdg (by decide)) hT
      obtain ⟨j1, j2⟩ := gb_inc i3
      have h59 := i3.2
      refine gm_if (fun _ => gm_lt (fun f2 e2 => ?_)) (fun _ => ?_)
      · have hV : gb_V f f2 := by
          rw [e2]
          exact gb_V3 hT j1
        have e3 : f2 0 3 = f 0 3 + 1 := by
          rw [e2]
          rfl
        have e4 : f2 0 4 = f 0 4 := by
          rw [e2]
          rfl
        refine gm_mono (ih f2 w p hV.1 (by rw [e4]; exact hp) (by rw [e3, e4, j2]; omega) (Or.inl (by rw [e3, e4, j2]; omega)) (by rw [e3, j2]; omega)) (fun g _ _ h => ⟨gb_Vt hV h.1, h.2⟩)
      · refine gm_bdP (mt_byteE hT) (fun r3 er3 => gm_lt (fun f2 e2 => ?_))
        have hV2 : gb_V f f2 := by
          rw [e2]
          exact gb_V6 hT
        have e23 : f2 0 3 = f 0 3 := by
          rw [e2]
          rfl
        have e24 : f2 0 4 = f 0 4 := by
          rw [e2]
          rfl
        refine gm_lt (fun f3 e3 => ?_)
        have hV3 : gb_V f2 f3 := by
          rw [e3]
          exact gb_V3 hV2.1 (by rw [e23]; exact j1)
        have e33 : f3 0 3 = f 0 3 + 1 := by
          rw [e3, ← e23]
          rfl
        have e34 : f3 0 4 = f 0 4 := by
          rw [e3, ← e24]
          rfl
        refine gm_mono (ih f3 w p hV3.1 (by rw [e34]; exact hp) (by rw [e33, e34, j2]; omega) (Or.inl (by rw [e33, e34, j2]; omega)) (by rw [e33, j2]; omega)) (fun g _ _ h => ⟨gb_Vt (gb_Vt hV2 hV3) h.1, h.2⟩)
set_option maxHeartbeats 4000000 in
theorem mt_advance_77 {n : Nat} : ∀ (mm : Nat) (f : gb_F) (w : Int64) (v2 : Int64) (p : Int), gb_TM f → p ≤ (f 0 4).toInt → (f 0 4).toInt ≤ (f 0 3).toInt → ((f 0 4).toInt < (f 0 3).toInt ∨ gb_iv 97 122 (gb_by f)) → (600 - (f 0 3).toInt).toNat < mm → gb_tm (ms_advance_77 n mm f w v2) (fun f2 _ _ => gb_A p f f2) := by
  intro mm
  induction mm with
  | zero =>
    intro f w v2 p hT hp h43 hd hm
    exact absurd hm (Nat.not_lt_zero _)
  | succ mm ih =>
    intro f w v2 p hT hp h43 hd hm
    rw [ms_advance_77]
    refine gm_bdP (mt_byteE hT) (fun r er => ?_)
    refine gm_bdP mt_isLetterE (fun r2 h2 => ?_)
    rw [er] at h2
    refine gm_if (fun c => ?_) (fun c => ?_)
    · have hlt : (f 0 4).toInt < (f 0 3).toInt := by
        rcases h2 with h2 | h2
        · rw [h2.2] at c
          exact absurd c (by decide)
        · rcases hd with hd | hd
          · exact hd
          · exact absurd hd h2.1
      have fin : ∀ (f2 : gb_F) (x : Int32), gb_V f f2 → f2 0 3 = f 0 3 → f2 0 4 = f 0 4 → gb_A p f (gb_u f2 0 (upd (f2 0) 5 x)) := fun f2 x hV e3 e4 => by
        refine ⟨gb_Vt hV (gb_V5 hV.1), ?_, ?_, fun _ => ?_⟩
        · show p ≤ (f2 0 4).toInt
          rw [e4]
          exact hp
        · show (f2 0 4).toInt ≤ (f2 0 3).toInt
          rw [e3, e4]
          exact h43
        · show (f2 0 4).toInt < (f2 0 3).toInt
          rw [e3, e4]
          exact hlt
      refine gm_if (fun _ => ?_) (fun _ => ?_)
      · refine gm_bdP (R := fun _ => True) mt_wordOf (fun r3 _ => gm_lt (fun f2 e2 => ?_))
        have hV : gb_V f f2 := by
          rw [e2]
          exact gb_V7 hT
        have a3 : f2 0 3 = f 0 3 := by
          rw [e2]
          rfl
        have a4 : f2 0 4 = f 0 4 := by
          rw [e2]
          rfl
        refine gm_if (fun _ => gm_lt (fun f3 e3 => gm_some ?_)) (fun _ => gm_lt (fun f3 e3 => gm_some ?_))
        · rw [e3]
          exact fin f2 4 hV a3 a4
        · rw [e3]
          exact fin f2 3 hV a3 a4
      · refine gm_lt (fun f2 e2 => ?_)
        have hV : gb_V f f2 := by
          rw [e2]
          exact gb_V7 hT
        have a3 : f2 0 3 = f 0 3 := by
          rw [e2]
          rfl
        have a4 : f2 0 4 = f 0 4 := by
          rw [e2]
          rfl
        refine gm_if (fun _ => gm_lt (fun f3 e3 => gm_some ?_)) (fun _ => gm_lt (fun f3 e3 => gm_some ?_))
        · rw [e3]
          exact fin f2 4 hV a3 a4
        · rw [e3]
          exact fin f2 3 hV a3 a4
    · have hdg : gb_iv 97 122 (gb_by f) := by
        rcases h2 with h2 | h2
        · exact h2.1
        · exact absurd h2.2 c
      have i3 := gb_by_lt (gb_nn1 hdg (by decide)) hT
      obtain ⟨j1, j2⟩ := gb_inc i3
      have h59 := i3.2
      have nxt : ∀ (f2 : gb_F) (x : Int64) (w2 : Int64), f2 = gb_u f 0 (upd (f 0) 3 ((f 0 3) + 1)) → gb_tm (ms_advance_77 n mm f2 w2 x) (fun f2 _ _ => gb_A p f f2) := fun f2 x w2 e2 => by
        have hV : gb_V f f2 := by
          rw [e2]
          exact gb_V3 hT j1
        have e3 : f2 0 3 = f 0 3 + 1 := by
          rw [e2]
          rfl
        have e4 : f2 0 4 = f 0 4 := by
          rw [e2]
          rfl
        refine gm_mono (ih f2 w2 x p hV.1 (by rw [e4]; exact hp) (by rw [e3, e4, j2]; omega) (Or.inl (by rw [e3, e4, j2]; omega)) (by rw [e3, j2]; omega)) (fun g _ _ h => ⟨gb_Vt hV h.1, h.2⟩)
      refine gm_if (fun _ => gm_lt (fun f2 e2 => nxt f2 v2 w e2)) (fun _ => ?_)
      exact gm_bdP (mt_byteE hT) (fun r3 er3 => gm_lt (fun x ex => gm_lt (fun f2 e2 => nxt f2 x w e2)))
theorem gb_At {p : Int} {f f2 f3 : gb_F} (h : gb_V f f2) (g : gb_A p f2 f3) : gb_A p f f3 := ⟨gb_Vt h g.1, g.2⟩
/-- behind the blanks -/
theorem mt_tok {n : Nat} (hn : gb_N ≤ n) {f : gb_F} {w : Int64} (hT : gb_TM f) : gb_tm (gb_lt (gb_u f 0 (upd (f 0) 4 (f 0 3))) (fun f_21 => gb_bd (ms_byteAt n f_21 w (f_21 0 3)) (fun f_22 wl_23 r_24 => (if (0 : Int32) ≤ r_24 then gb_bd (ms_isLetter n f_22 wl_23 r_24) (fun f_28 wl_29 r_30 => (if r_30 = 0 then gb_bd (ms_isDigit n f_28 wl_29 r_24) (fun f_34 wl_35 r_36 => (if r_36 = 0 then gb_lt (gb_u f_34 0 (upd (f_34 0) 3 ((f_34 0 3) + 1))) (fun f_40 => (if r_24 = 59 then gb_lt (gb_u f_40 0 (upd (f_40 0) 5 2)) (fun f_43 => (some (f_43, wl_35, ()) : gb_MR Unit)) else gb_lt (gb_u f_40 0 (upd (f_40 0) 5 4)) (fun f_42 => some (f_42, wl_35, ())))) else gb_lt (gb_u f_34 0 (upd (f_34 0) 6 0)) (fun f_44 => ms_advance_198 n n f_44 wl_35))) else ms_advance_77 n n f_28 wl_29 0)) else gb_lt (gb_u f_22 0 (upd (f_22 0) 5 0)) (fun f_102 => some (f_102, wl_23, ())))))) (fun f2 _ _ => gb_A (f 0 3).toInt f f2) := by
  have c0 : (0 : Int32).toInt = 0 := by decide
  refine gm_lt (fun f2 e2 => ?_)
  have hV : gb_V f f2 := by
    rw [e2]
    exact gb_V4 hT (gb_i3 hT)
  have a3 : f2 0 3 = f 0 3 := by
    rw [e2]
    rfl
  have a4 : f2 0 4 = f 0 3 := by
    rw [e2]
    rfl
  refine gm_bdP (mt_byteE hV.1) (fun r er => ?_)
  refine gm_if (fun c => ?_) (fun c => ?_)
  · have hge := gb_dle c
    have hby : ¬ gb_by f2 = -1 := by
      rw [← er]
      exact gb_nn1 (a := 0) (b := 2147483647) ⟨by omega, (gb_it r).2⟩ (by decide)
    have i3 := gb_by_lt hby hV.1
    obtain ⟨j1, j2⟩ := gb_inc i3
    refine gm_bdP mt_isLetterE (fun r2 h2 => ?_)
    refine gm_if (fun c2 => ?_) (fun c2 => ?_)
    · refine gm_bdP mt_isDigitE (fun r3 h3 => ?_)
      refine gm_if (fun c3 => ?_) (fun c3 => ?_)
      · refine gm_lt (fun f3 e3 => ?_)
        have hV3 : gb_V f2 f3 := by
          rw [e3]
          exact gb_V3 hV.1 j1
        have b3 : f3 0 3 = f2 0 3 + 1 := by
          rw [e3]
          rfl
        have b4 : f3 0 4 = f 0 3 := by
          rw [e3, ← a4]
          rfl
        have fin : ∀ x : Int32, gb_A (f 0 3).toInt f (gb_u f3 0 (upd (f3 0) 5 x)) := fun x => by
          refine ⟨gb_Vt (gb_Vt hV hV3) (gb_V5 hV3.1), ?_, ?_, fun _ => ?_⟩
          · show (f 0 3).toInt ≤ (f3 0 4).toInt
            rw [b4]
            exact Int.le_refl _
          · show (f3 0 4).toInt ≤ (f3 0 3).toInt
            rw [b4, b3, j2, a3]
            omega
          · show (f3 0 4).toInt < (f3 0 3).toInt
            rw [b4, b3, j2, a3]
            omega
        refine gm_if (fun _ => gm_lt (fun f4 e4 => gm_some ?_)) (fun _ => gm_lt (fun f4 e4 => gm_some ?_))
        · rw [e4]
          exact fin 2
        · rw [e4]
          exact fin 4
      · refine gm_lt (fun f3 e3 => ?_)
        have hV3 : gb_V f2 f3 := by
          rw [e3]
          exact gb_V6 hV.1
        have b3 : f3 0 3 = f2 0 3 := by
          rw [e3]
          rfl
        have b4 : f3 0 4 = f 0 3 := by
          rw [e3, ← a4]
          rfl
        have hd : gb_iv 48 57 (gb_by f3) := by
          rw [gb_by_eq hV3.2.1 hV3.2.2.2.2 b3, ← er]
          rcases h3 with h3 | h3
          · exact h3.1
          · exact absurd h3.2 c3
        refine gm_mono (mt_advance_198 n f3 w (f 0 3).toInt hV3.1 (by rw [b4]; exact Int.le_refl _) (by rw [b4, b3, a3]; exact Int.le_refl _) (Or.inr hd) (gb_fuu (lo := 0) hn (gb_i3 hV3.1) (by decide))) (fun g _ _ h => gb_At (gb_Vt hV hV3) h)
    · have hd : gb_iv 97 122 (gb_by f2) := by
        rw [← er]
        rcases h2 with h2 | h2
        · exact h2.1
        · exact absurd h2.2 c2
      exact gm_mono (mt_advance_77 n f2 w 0 (f 0 3).toInt hV.1 (by rw [a4]; exact Int.le_refl _) (by rw [a4, a3]; exact Int.le_refl _) (Or.inr hd) (gb_fuu (lo := 0) hn (gb_i3 hV.1) (by decide))) (fun g _ _ h => gb_At hV h)
  · refine gm_lt (fun f3 e3 => gm_some ?_)
    rw [e3]
    refine ⟨gb_Vt hV (gb_V5 hV.1), ?_, ?_, fun q => absurd rfl q⟩
    · show (f 0 3).toInt ≤ (f2 0 4).toInt
      rw [a4]
      exact Int.le_refl _
    · show (f2 0 4).toInt ≤ (f2 0 3).toInt
      rw [a4, a3]
      exact Int.le_refl _
theorem gb_Am {p q : Int} {f f2 : gb_F} (h : p ≤ q) (g : gb_A q f f2) : gb_A p f f2 := ⟨g.1, Int.le_trans h g.2.1, g.2.2⟩
set_option maxHeartbeats 4000000 in
theorem mt_advance_0 {n : Nat} (hn : gb_N ≤ n) : ∀ (mm : Nat) (f : gb_F) (w : Int64), gb_TM f → (600 - (f 0 3).toInt).toNat < mm → gb_tm (ms_advance_0 n mm f w) (fun f2 _ _ => gb_A (f 0 3).toInt f f2) := by
  intro mm
  induction mm with
  | zero =>
    intro f w hT hm
    exact absurd hm (Nat.not_lt_zero _)
  | succ mm ih =>
    intro f w hT hm
    rw [ms_advance_0]
    have nxt : ∀ (f2 : gb_F) (w2 : Int64), ¬ gb_by f = -1 → f2 = gb_u f 0 (upd (f 0) 3 ((f 0 3) + 1)) → gb_tm (ms_advance_0 n mm f2 w2) (fun f2 _ _ => gb_A (f 0 3).toInt f f2) := fun f2 w2 hb e2 => by
      have i3 := gb_by_lt hb hT
      obtain ⟨j1, j2⟩ := gb_inc i3
      have h59 := i3.2
      have hV : gb_V f f2 := by
        rw [e2]
        exact gb_V3 hT j1
      have e3 : f2 0 3 = f 0 3 + 1 := by
        rw [e2]
        rfl
      refine gm_mono (ih f2 w2 hV.1 (by rw [e3, j2]; omega)) (fun g _ _ h => gb_Am (by rw [e3, j2]; omega) (gb_At hV h))
    refine gm_bdP (mt_byteE hT) (fun r er => ?_)
    refine gm_if (fun c => gm_lt (fun f2 e2 => nxt f2 w (fun q => ?_) e2)) (fun c => ?_)
    · rw [← er, c] at q
      exact absurd q (by decide)
    refine gm_bdP (mt_byteE hT) (fun r2 er2 => ?_)
    refine gm_if (fun c2 => gm_lt (fun f2 e2 => nxt f2 w (fun q => ?_) e2)) (fun c2 => mt_tok hn hT)
    rw [← er2, c2] at q
    exact absurd q (by decide)
theorem mt_advance {n : Nat} (hn : gb_N ≤ n) {f : gb_F} {w : Int64} (hT : gb_TM f) : gb_tm (ms_advance n f w) (fun f2 _ _ => gb_A (f 0 3).toInt f f2) := by
  unfold ms_advance
  have nxt : ∀ (f2 : gb_F) (w2 : Int64), ¬ gb_by f = -1 → f2 = gb_u f 0 (upd (f 0) 3 ((f 0 3) + 1)) → gb_tm (ms_advance_0 n n f2 w2) (fun f2 _ _ => gb_A (f 0 3).toInt f f2) := fun f2 w2 hb e2 => by
    have i3 := gb_by_lt hb hT
    obtain ⟨j1, j2⟩ := gb_inc i3
    have hV : gb_V f f2 := by
      rw [e2]
      exact gb_V3 hT j1
    have e3 : f2 0 3 = f 0 3 + 1 := by
      rw [e2]
      rfl
    refine gm_mono (mt_advance_0 hn n f2 w2 hV.1 (gb_fuu (lo := 0) hn (gb_i3 hV.1) (by decide))) (fun g _ _ h => gb_Am (by rw [e3, j2]; omega) (gb_At hV h))
  refine gm_bdP (mt_byteE hT) (fun r er => ?_)
  refine gm_if (fun c => gm_lt (fun f2 e2 => nxt f2 w (fun q => ?_) e2)) (fun c => ?_)
  · rw [← er, c] at q
    exact absurd q (by decide)
  refine gm_bdP (mt_byteE hT) (fun r2 er2 => ?_)
  refine gm_if (fun c2 => gm_lt (fun f2 e2 => nxt f2 w (fun q => ?_) e2)) (fun c2 => mt_tok hn hT)
  rw [← er2, c2] at q
  exact absurd q (by decide)
