/-! ONE GOES BY A PATH -/
theorem upd_0 {F : Nat → Int32} {p : Nat} : F = upd F p (F p + 0) := by
  funext x
  by_cases c : x = p
  · subst c
    rw [pk_us, Int32.add_zero]
  · rw [pk_un c]
theorem upd_E {F G : Nat → Int32} {a b : Int32} {g x : Nat} (h : a = b) (k : F x = G x) : upd F g a x = upd G g b x := by
  by_cases c : x = g
  · subst c
    rw [pk_us, pk_us, h]
  · rw [pk_un c, pk_un c, k]
def gb_goP (σ s : gb_S) (g p : Nat) (y z bo mk at' : Int32) (T6 T7 : Nat → Int32) : Prop := s.2 = σ.2 ∧ (∀ k, k < 112 → s.1 k = σ.1 k) ∧ s.1 112 = upd (σ.1 112) g at' ∧ s.1 113 = upd (σ.1 113) g bo ∧ s.1 114 = upd (σ.1 114) g (σ.1 114 g + mk) ∧ s.1 115 = upd (σ.1 115) g y ∧ s.1 116 = T6 ∧ s.1 117 = T7 ∧ s.1 118 = σ.1 118 ∧ s.1 119 = upd (σ.1 119) (8 * p + g) (z + 1)
theorem ch_miP {n : Nat} {σ : gb_S} {k0 k1 p : Nat} {R NR : Nat → Int32} {x : Int32} (h : gb_PC k0 k1 R NR σ) (hR : gb_rB R) (e : x.toInt = p) (hp : p < gb_nP R) : gb_hc (cs_Border_miles_B n σ (σ.2.1 1) x) (fun s r => s = σ ∧ r = R (3 + 3 * p)) := by
  rw [h.1]
  exact ch_miles h.2.1 hR e hp
theorem ch_moP {n : Nat} {σ : gb_S} {k0 k1 g : Nat} {R NR : Nat → Int32} {x mi bo fr : Int32} (h : gb_PC k0 k1 R NR σ) (hR : gb_rB R) (e : x.toInt = g) (hg : g < gb_nG R) : gb_hc (cs_Border_marksOver_B n σ (σ.2.1 1) x mi bo fr) (fun s r => s = σ ∧ r = gb_mk (gb_toe R g) mi bo (R (18 + 5 * g + 3)) fr) := by
  rw [h.1]
  exact ch_marksOver h.2.1 hR e hg
theorem gi_8p {x y : Int32} {g p : Nat} (e1 : x.toInt = g) (e2 : y.toInt = p) (hg : g < 8) (hp : p < 5) : (y * 8 + x).toInt = ((8 * p + g : Nat) : Int) := by
  have c8 : (8 : Int32).toInt = 8 := by decide
  have m1 : (y * 8).toInt = ((8 * p : Nat) : Int) := by
    rw [gb_tmul (by rw [e2, c8]; omega) (by rw [e2, c8]; omega), e2, c8]
    omega
  exact gi_pl m1 e1 (by omega) (by omega)
theorem gi_5g {x y : Int32} {g p : Nat} (e1 : x.toInt = g) (e2 : y.toInt = p) (hg : g < 8) (hp : p < 5) : (5 * x + y).toInt = ((5 * g + p : Nat) : Int) := by
  have c5 : (5 : Int32).toInt = 5 := by decide
  have m1 : (5 * x).toInt = ((5 * g : Nat) : Int) := by
    rw [gb_tmul (by rw [e1, c5]; omega) (by rw [e1, c5]; omega), e1, c5]
    omega
  exact gi_pl m1 e2 (by omega) (by omega)
theorem ch_go_n {n : Nat} {σ : gb_S} {k0 k1 g p : Nat} {R NR : Nat → Int32} {x y z : Int32} (h : gb_PC k0 k1 R NR σ) (hR : gb_rB R) (e1 : x.toInt = g) (hg : g < gb_nG R) (e2 : y.toInt = p) (hp : p < gb_nP R) : gb_hc (cs_Play_go_n n σ x y z) (fun s _ => gb_goP σ s g p y z (if (0 : Int32) < (σ.1 113 g - R (3 + 3 * p)) then (σ.1 113 g - R (3 + 3 * p)) else (0 : Int32)) (gb_mk (gb_toe R g) (R (3 + 3 * p)) (σ.1 113 g) (R (18 + 5 * g + 3)) (σ.1 109 10)) (if σ.1 112 g = 0 then 1 else 0) (σ.1 116) (σ.1 117)) := by
  have hg8 := (rB_nG hR).2
  have hp5 := (rB_nP hR).2
  have t1 := gi_tn e1
  have t2 := gi_tn e2
  have t8 := gi_tn (gi_8p e1 e2 (by omega) (by omega))
  unfold cs_Play_go_n
  refine hc_kk (fun _ => hc_cd (ch_miP h hR e2 hp) (fun s r q => ?_))
  obtain ⟨q1, rfl⟩ := q
  subst s
  refine hc_kk (fun _ => hc_ck (fun _ _ => hc_lt (fun b eb => hc_cd (ch_moP h hR e1 hg) (fun s2 r2 q => ?_))))
  obtain ⟨q2, q3⟩ := q
  subst s2
  rw [t1] at eb
  subst eb
  subst q3
  unfold cs_Play_go_n_46
  refine hc_ck (fun _ _ => hc_lt (fun x1 ex1 => hc_lt (fun x2 ex2 => hc_ck (fun _ _ => hc_lt (fun s4 e4 => hc_ck (fun _ _ => hc_lt (fun x3 ex3 => hc_ck (fun _ _ => hc_lt (fun s5 e5 => hc_ck (fun _ _ => hc_lt (fun x4 ex4 => ?_)))))))))))
  subst ex1
  subst ex2
  subst e4
  subst ex3
  subst e5
  have go : ∀ t0 : Int32, t0 = (if σ.1 112 g = 0 then 1 else 0) → ∀ S : gb_S, S.2 = σ.2 → (∀ k, k < 112 → S.1 k = σ.1 k) → S.1 112 = σ.1 112 → S.1 113 = upd (σ.1 113) g (if (0 : Int32) < (σ.1 113 g - R (3 + 3 * p)) then (σ.1 113 g - R (3 + 3 * p)) else (0 : Int32)) → S.1 114 = upd (σ.1 114) g (σ.1 114 g + (gb_mk (gb_toe R g) (R (3 + 3 * p)) (σ.1 113 g) (R (18 + 5 * g + 3)) (σ.1 109 10))) → S.1 115 = σ.1 115 → S.1 116 = (σ.1 116) → S.1 117 = (σ.1 117) → S.1 118 = σ.1 118 → S.1 119 = σ.1 119 → gb_hc (cs_Play_go_n_95 n S x y z t0 x) (fun s _ => gb_goP σ s g p y z (if (0 : Int32) < (σ.1 113 g - R (3 + 3 * p)) then (σ.1 113 g - R (3 + 3 * p)) else (0 : Int32)) (gb_mk (gb_toe R g) (R (3 + 3 * p)) (σ.1 113 g) (R (18 + 5 * g + 3)) (σ.1 109 10)) (if σ.1 112 g = 0 then 1 else 0) (σ.1 116) (σ.1 117)) := by
    intro t0 et S a0 a1 a2 a3 a4 a5 a6 a7 a8 a9
    unfold cs_Play_go_n_95
    refine hc_ck (fun _ _ => hc_lt (fun s6 e6 => hc_ck (fun _ _ => hc_lt (fun s7 e7 => hc_ck (fun _ _ => hc_lt (fun s8 e8 => hc_some ?_))))))
    subst e8
    subst e7
    subst e6
    refine ⟨a0, fun k hk => ?_, ?_, ?_, ?_, ?_, ?_, ?_, ?_, ?_⟩
    · rw [gb_sun (by omega), gb_sun (by omega), gb_sun (by omega), a1 k hk]
    · rw [gb_sun (by decide), gb_sun (by decide), gb_sus, t1, a2, et]
    · rw [gb_sun (by decide), gb_sun (by decide), gb_sun (by decide), a3]
    · rw [gb_sun (by decide), gb_sun (by decide), gb_sun (by decide), a4]
    · rw [gb_sun (by decide), gb_sus, gb_sun (by decide), t1, a5]
    · rw [gb_sun (by decide), gb_sun (by decide), gb_sun (by decide), a6]
    · rw [gb_sun (by decide), gb_sun (by decide), gb_sun (by decide), a7]
    · rw [gb_sun (by decide), gb_sun (by decide), gb_sun (by decide), a8]
    · rw [gb_sus, gb_sun (by decide), gb_sun (by decide), t8, a9]
  refine hc_if (fun c => go _ ?_ _ rfl (fun k hk => by rw [gb_sun (by omega), gb_sun (by omega)]) ?_ ?_ ?_ ?_ ?_ ?_ ?_ ?_) (fun c => go _ ?_ _ rfl (fun k hk => by rw [gb_sun (by omega), gb_sun (by omega)]) ?_ ?_ ?_ ?_ ?_ ?_ ?_ ?_)
  · subst ex4
    rw [t1, gb_sun (by decide), gb_sun (by decide)] at c
    rw [if_pos c]
  · simp only [gb_sus, gb_sun, ne_eq, Nat.reduceEqDiff, not_false_eq_true, t1, t2, t8]
  · simp only [gb_sus, gb_sun, ne_eq, Nat.reduceEqDiff, not_false_eq_true, t1, t2, t8]
  · simp only [gb_sus, gb_sun, ne_eq, Nat.reduceEqDiff, not_false_eq_true, t1, t2, t8]
  · simp only [gb_sus, gb_sun, ne_eq, Nat.reduceEqDiff, not_false_eq_true, t1, t2, t8]
  · simp only [gb_sus, gb_sun, ne_eq, Nat.reduceEqDiff, not_false_eq_true, t1, t2, t8]
  · simp only [gb_sus, gb_sun, ne_eq, Nat.reduceEqDiff, not_false_eq_true, t1, t2, t8]
  · simp only [gb_sus, gb_sun, ne_eq, Nat.reduceEqDiff, not_false_eq_true, t1, t2, t8]
  · simp only [gb_sus, gb_sun, ne_eq, Nat.reduceEqDiff, not_false_eq_true, t1, t2, t8]
  · subst ex4
    rw [t1, gb_sun (by decide), gb_sun (by decide)] at c
    rw [if_neg c]
  · simp only [gb_sus, gb_sun, ne_eq, Nat.reduceEqDiff, not_false_eq_true, t1, t2, t8]
  · simp only [gb_sus, gb_sun, ne_eq, Nat.reduceEqDiff, not_false_eq_true, t1, t2, t8]
  · simp only [gb_sus, gb_sun, ne_eq, Nat.reduceEqDiff, not_false_eq_true, t1, t2, t8]
  · simp only [gb_sus, gb_sun, ne_eq, Nat.reduceEqDiff, not_false_eq_true, t1, t2, t8]
  · simp only [gb_sus, gb_sun, ne_eq, Nat.reduceEqDiff, not_false_eq_true, t1, t2, t8]
  · simp only [gb_sus, gb_sun, ne_eq, Nat.reduceEqDiff, not_false_eq_true, t1, t2, t8]
  · simp only [gb_sus, gb_sun, ne_eq, Nat.reduceEqDiff, not_false_eq_true, t1, t2, t8]
  · simp only [gb_sus, gb_sun, ne_eq, Nat.reduceEqDiff, not_false_eq_true, t1, t2, t8]
theorem ch_go_c116 {n : Nat} {σ : gb_S} {k0 k1 g p : Nat} {R NR : Nat → Int32} {x y z : Int32} (h : gb_PC k0 k1 R NR σ) (hR : gb_rB R) (e1 : x.toInt = g) (hg : g < gb_nG R) (e2 : y.toInt = p) (hp : p < gb_nP R) : gb_hc (cs_Play_go_c116 n σ x y z) (fun s _ => gb_goP σ s g p y z (if (0 : Int32) < (σ.1 113 g - R (3 + 3 * p)) then (σ.1 113 g - R (3 + 3 * p)) else (0 : Int32)) (gb_mk (gb_toe R g) (R (3 + 3 * p)) (σ.1 113 g) (R (18 + 5 * g + 3)) (σ.1 109 10)) (if σ.1 112 g = 0 then 1 else 0) (upd (σ.1 116) p (σ.1 116 p + (gb_mk (gb_toe R g) (R (3 + 3 * p)) (σ.1 113 g) (R (18 + 5 * g + 3)) (σ.1 109 10)))) (σ.1 117)) := by
  have hg8 := (rB_nG hR).2
  have hp5 := (rB_nP hR).2
  have t1 := gi_tn e1
  have t2 := gi_tn e2
  have t8 := gi_tn (gi_8p e1 e2 (by omega) (by omega))
  unfold cs_Play_go_c116
  refine hc_kk (fun _ => hc_cd (ch_miP h hR e2 hp) (fun s r q => ?_))
  obtain ⟨q1, rfl⟩ := q
  subst s
  refine hc_kk (fun _ => hc_ck (fun _ _ => hc_lt (fun b eb => hc_cd (ch_moP h hR e1 hg) (fun s2 r2 q => ?_))))
  obtain ⟨q2, q3⟩ := q
  subst s2
  rw [t1] at eb
  subst eb
  subst q3
  refine hc_ck (fun _ _ => hc_lt (fun a ea => hc_ck (fun _ _ => hc_lt (fun s3 e3 => ?_))))
  subst ea
  subst e3
  unfold cs_Play_go_c116_46
  refine hc_ck (fun _ _ => hc_lt (fun x1 ex1 => hc_lt (fun x2 ex2 => hc_ck (fun _ _ => hc_lt (fun s4 e4 => hc_ck (fun _ _ => hc_lt (fun x3 ex3 => hc_ck (fun _ _ => hc_lt (fun s5 e5 => hc_ck (fun _ _ => hc_lt (fun x4 ex4 => ?_)))))))))))
  subst ex1
  subst ex2
  subst e4
  subst ex3
  subst e5
  have go : ∀ t0 : Int32, t0 = (if σ.1 112 g = 0 then 1 else 0) → ∀ S : gb_S, S.2 = σ.2 → (∀ k, k < 112 → S.1 k = σ.1 k) → S.1 112 = σ.1 112 → S.1 113 = upd (σ.1 113) g (if (0 : Int32) < (σ.1 113 g - R (3 + 3 * p)) then (σ.1 113 g - R (3 + 3 * p)) else (0 : Int32)) → S.1 114 = upd (σ.1 114) g (σ.1 114 g + (gb_mk (gb_toe R g) (R (3 + 3 * p)) (σ.1 113 g) (R (18 + 5 * g + 3)) (σ.1 109 10))) → S.1 115 = σ.1 115 → S.1 116 = (upd (σ.1 116) p (σ.1 116 p + (gb_mk (gb_toe R g) (R (3 + 3 * p)) (σ.1 113 g) (R (18 + 5 * g + 3)) (σ.1 109 10)))) → S.1 117 = (σ.1 117) → S.1 118 = σ.1 118 → S.1 119 = σ.1 119 → gb_hc (cs_Play_go_c116_95 n S x y z t0 x) (fun s _ => gb_goP σ s g p y z (if (0 : Int32) < (σ.1 113 g - R (3 + 3 * p)) then (σ.1 113 g - R (3 + 3 * p)) else (0 : Int32)) (gb_mk (gb_toe R g) (R (3 + 3 * p)) (σ.1 113 g) (R (18 + 5 * g + 3)) (σ.1 109 10)) (if σ.1 112 g = 0 then 1 else 0) (upd (σ.1 116) p (σ.1 116 p + (gb_mk (gb_toe R g) (R (3 + 3 * p)) (σ.1 113 g) (R (18 + 5 * g + 3)) (σ.1 109 10)))) (σ.1 117)) := by
    intro t0 et S a0 a1 a2 a3 a4 a5 a6 a7 a8 a9
    unfold cs_Play_go_c116_95
    refine hc_ck (fun _ _ => hc_lt (fun s6 e6 => hc_ck (fun _ _ => hc_lt (fun s7 e7 => hc_ck (fun _ _ => hc_lt (fun s8 e8 => hc_some ?_))))))
    subst e8
    subst e7
    subst e6
    refine ⟨a0, fun k hk => ?_, ?_, ?_, ?_, ?_, ?_, ?_, ?_, ?_⟩
    · rw [gb_sun (by omega), gb_sun (by omega), gb_sun (by omega), a1 k hk]
    · rw [gb_sun (by decide), gb_sun (by decide), gb_sus, t1, a2, et]
    · rw [gb_sun (by decide), gb_sun (by decide), gb_sun (by decide), a3]
    · rw [gb_sun (by decide), gb_sun (by decide), gb_sun (by decide), a4]
    · rw [gb_sun (by decide), gb_sus, gb_sun (by decide), t1, a5]
    · rw [gb_sun (by decide), gb_sun (by decide), gb_sun (by decide), a6]
    · rw [gb_sun (by decide), gb_sun (by decide), gb_sun (by decide), a7]
    · rw [gb_sun (by decide), gb_sun (by decide), gb_sun (by decide), a8]
    · rw [gb_sus, gb_sun (by decide), gb_sun (by decide), t8, a9]
  refine hc_if (fun c => go _ ?_ _ rfl (fun k hk => by rw [gb_sun (by omega), gb_sun (by omega), gb_sun (by omega)]) ?_ ?_ ?_ ?_ ?_ ?_ ?_ ?_) (fun c => go _ ?_ _ rfl (fun k hk => by rw [gb_sun (by omega), gb_sun (by omega), gb_sun (by omega)]) ?_ ?_ ?_ ?_ ?_ ?_ ?_ ?_)
  · subst ex4
    rw [t1, gb_sun (by decide), gb_sun (by decide), gb_sun (by decide)] at c
    rw [if_pos c]
  · simp only [gb_sus, gb_sun, ne_eq, Nat.reduceEqDiff, not_false_eq_true, t1, t2, t8]
  · simp only [gb_sus, gb_sun, ne_eq, Nat.reduceEqDiff, not_false_eq_true, t1, t2, t8]
  · simp only [gb_sus, gb_sun, ne_eq, Nat.reduceEqDiff, not_false_eq_true, t1, t2, t8]
  · simp only [gb_sus, gb_sun, ne_eq, Nat.reduceEqDiff, not_false_eq_true, t1, t2, t8]
  · simp only [gb_sus, gb_sun, ne_eq, Nat.reduceEqDiff, not_false_eq_true, t1, t2, t8]
  · simp only [gb_sus, gb_sun, ne_eq, Nat.reduceEqDiff, not_false_eq_true, t1, t2, t8]
  · simp only [gb_sus, gb_sun, ne_eq, Nat.reduceEqDiff, not_false_eq_true, t1, t2, t8]
  · simp only [gb_sus, gb_sun, ne_eq, Nat.reduceEqDiff, not_false_eq_true, t1, t2, t8]
  · subst ex4
    rw [t1, gb_sun (by decide), gb_sun (by decide), gb_sun (by decide)] at c
    rw [if_neg c]
  · simp only [gb_sus, gb_sun, ne_eq, Nat.reduceEqDiff, not_false_eq_true, t1, t2, t8]
  · simp only [gb_sus, gb_sun, ne_eq, Nat.reduceEqDiff, not_false_eq_true, t1, t2, t8]
  · simp only [gb_sus, gb_sun, ne_eq, Nat.reduceEqDiff, not_false_eq_true, t1, t2, t8]
  · simp only [gb_sus, gb_sun, ne_eq, Nat.reduceEqDiff, not_false_eq_true, t1, t2, t8]
  · simp only [gb_sus, gb_sun, ne_eq, Nat.reduceEqDiff, not_false_eq_true, t1, t2, t8]
  · simp only [gb_sus, gb_sun, ne_eq, Nat.reduceEqDiff, not_false_eq_true, t1, t2, t8]
  · simp only [gb_sus, gb_sun, ne_eq, Nat.reduceEqDiff, not_false_eq_true, t1, t2, t8]
  · simp only [gb_sus, gb_sun, ne_eq, Nat.reduceEqDiff, not_false_eq_true, t1, t2, t8]
theorem ch_go_c117 {n : Nat} {σ : gb_S} {k0 k1 g p : Nat} {R NR : Nat → Int32} {x y z : Int32} (h : gb_PC k0 k1 R NR σ) (hR : gb_rB R) (e1 : x.toInt = g) (hg : g < gb_nG R) (e2 : y.toInt = p) (hp : p < gb_nP R) : gb_hc (cs_Play_go_c117 n σ x y z) (fun s _ => gb_goP σ s g p y z (if (0 : Int32) < (σ.1 113 g - R (3 + 3 * p)) then (σ.1 113 g - R (3 + 3 * p)) else (0 : Int32)) (gb_mk (gb_toe R g) (R (3 + 3 * p)) (σ.1 113 g) (R (18 + 5 * g + 3)) (σ.1 109 10)) (if σ.1 112 g = 0 then 1 else 0) (σ.1 116) (upd (σ.1 117) p (σ.1 117 p + (gb_mk (gb_toe R g) (R (3 + 3 * p)) (σ.1 113 g) (R (18 + 5 * g + 3)) (σ.1 109 10))))) := by
  have hg8 := (rB_nG hR).2
  have hp5 := (rB_nP hR).2
  have t1 := gi_tn e1
  have t2 := gi_tn e2
  have t8 := gi_tn (gi_8p e1 e2 (by omega) (by omega))
  unfold cs_Play_go_c117
  refine hc_kk (fun _ => hc_cd (ch_miP h hR e2 hp) (fun s r q => ?_))
  obtain ⟨q1, rfl⟩ := q
  subst s
  refine hc_kk (fun _ => hc_ck (fun _ _ => hc_lt (fun b eb => hc_cd (ch_moP h hR e1 hg) (fun s2 r2 q => ?_))))
  obtain ⟨q2, q3⟩ := q
  subst s2
  rw [t1] at eb
  subst eb
  subst q3
  refine hc_ck (fun _ _ => hc_lt (fun a ea => hc_ck (fun _ _ => hc_lt (fun s3 e3 => ?_))))
  subst ea
  subst e3
  unfold cs_Play_go_c117_46
  refine hc_ck (fun _ _ => hc_lt (fun x1 ex1 => hc_lt (fun x2 ex2 => hc_ck (fun _ _ => hc_lt (fun s4 e4 => hc_ck (fun _ _ => hc_lt (fun x3 ex3 => hc_ck (fun _ _ => hc_lt (fun s5 e5 => hc_ck (fun _ _ => hc_lt (fun x4 ex4 => ?_)))))))))))
  subst ex1
  subst ex2
  subst e4
  subst ex3
  subst e5
  have go : ∀ t0 : Int32, t0 = (if σ.1 112 g = 0 then 1 else 0) → ∀ S : gb_S, S.2 = σ.2 → (∀ k, k < 112 → S.1 k = σ.1 k) → S.1 112 = σ.1 112 → S.1 113 = upd (σ.1 113) g (if (0 : Int32) < (σ.1 113 g - R (3 + 3 * p)) then (σ.1 113 g - R (3 + 3 * p)) else (0 : Int32)) → S.1 114 = upd (σ.1 114) g (σ.1 114 g + (gb_mk (gb_toe R g) (R (3 + 3 * p)) (σ.1 113 g) (R (18 + 5 * g + 3)) (σ.1 109 10))) → S.1 115 = σ.1 115 → S.1 116 = (σ.1 116) → S.1 117 = (upd (σ.1 117) p (σ.1 117 p + (gb_mk (gb_toe R g) (R (3 + 3 * p)) (σ.1 113 g) (R (18 + 5 * g + 3)) (σ.1 109 10)))) → S.1 118 = σ.1 118 → S.1 119 = σ.1 119 → gb_hc (cs_Play_go_c117_95 n S x y z t0 x) (fun s _ => gb_goP σ s g p y z (if (0 : Int32) < (σ.1 113 g - R (3 + 3 * p)) then (σ.1 113 g - R (3 + 3 * p)) else (0 : Int32)) (gb_mk (gb_toe R g) (R (3 + 3 * p)) (σ.1 113 g) (R (18 + 5 * g + 3)) (σ.1 109 10)) (if σ.1 112 g = 0 then 1 else 0) (σ.1 116) (upd (σ.1 117) p (σ.1 117 p + (gb_mk (gb_toe R g) (R (3 + 3 * p)) (σ.1 113 g) (R (18 + 5 * g + 3)) (σ.1 109 10))))) := by
    intro t0 et S a0 a1 a2 a3 a4 a5 a6 a7 a8 a9
    unfold cs_Play_go_c117_95
    refine hc_ck (fun _ _ => hc_lt (fun s6 e6 => hc_ck (fun _ _ => hc_lt (fun s7 e7 => hc_ck (fun _ _ => hc_lt (fun s8 e8 => hc_some ?_))))))
    subst e8
    subst e7
    subst e6
    refine ⟨a0, fun k hk => ?_, ?_, ?_, ?_, ?_, ?_, ?_, ?_, ?_⟩
    · rw [gb_sun (by omega), gb_sun (by omega), gb_sun (by omega), a1 k hk]
    · rw [gb_sun (by decide), gb_sun (by decide), gb_sus, t1, a2, et]
    · rw [gb_sun (by decide), gb_sun (by decide), gb_sun (by decide), a3]
    · rw [gb_sun (by decide), gb_sun (by decide), gb_sun (by decide), a4]
    · rw [gb_sun (by decide), gb_sus, gb_sun (by decide), t1, a5]
    · rw [gb_sun (by decide), gb_sun (by decide), gb_sun (by decide), a6]
    · rw [gb_sun (by decide), gb_sun (by decide), gb_sun (by decide), a7]
    · rw [gb_sun (by decide), gb_sun (by decide), gb_sun (by decide), a8]
    · rw [gb_sus, gb_sun (by decide), gb_sun (by decide), t8, a9]
  refine hc_if (fun c => go _ ?_ _ rfl (fun k hk => by rw [gb_sun (by omega), gb_sun (by omega), gb_sun (by omega)]) ?_ ?_ ?_ ?_ ?_ ?_ ?_ ?_) (fun c => go _ ?_ _ rfl (fun k hk => by rw [gb_sun (by omega), gb_sun (by omega), gb_sun (by omega)]) ?_ ?_ ?_ ?_ ?_ ?_ ?_ ?_)
  · subst ex4
    rw [t1, gb_sun (by decide), gb_sun (by decide), gb_sun (by decide)] at c
    rw [if_pos c]
  · simp only [gb_sus, gb_sun, ne_eq, Nat.reduceEqDiff, not_false_eq_true, t1, t2, t8]
  · simp only [gb_sus, gb_sun, ne_eq, Nat.reduceEqDiff, not_false_eq_true, t1, t2, t8]
  · simp only [gb_sus, gb_sun, ne_eq, Nat.reduceEqDiff, not_false_eq_true, t1, t2, t8]
  · simp only [gb_sus, gb_sun, ne_eq, Nat.reduceEqDiff, not_false_eq_true, t1, t2, t8]
  · simp only [gb_sus, gb_sun, ne_eq, Nat.reduceEqDiff, not_false_eq_true, t1, t2, t8]
  · simp only [gb_sus, gb_sun, ne_eq, Nat.reduceEqDiff, not_false_eq_true, t1, t2, t8]
  · simp only [gb_sus, gb_sun, ne_eq, Nat.reduceEqDiff, not_false_eq_true, t1, t2, t8]
  · simp only [gb_sus, gb_sun, ne_eq, Nat.reduceEqDiff, not_false_eq_true, t1, t2, t8]
  · subst ex4
    rw [t1, gb_sun (by decide), gb_sun (by decide), gb_sun (by decide)] at c
    rw [if_neg c]
  · simp only [gb_sus, gb_sun, ne_eq, Nat.reduceEqDiff, not_false_eq_true, t1, t2, t8]
  · simp only [gb_sus, gb_sun, ne_eq, Nat.reduceEqDiff, not_false_eq_true, t1, t2, t8]
  · simp only [gb_sus, gb_sun, ne_eq, Nat.reduceEqDiff, not_false_eq_true, t1, t2, t8]
  · simp only [gb_sus, gb_sun, ne_eq, Nat.reduceEqDiff, not_false_eq_true, t1, t2, t8]
  · simp only [gb_sus, gb_sun, ne_eq, Nat.reduceEqDiff, not_false_eq_true, t1, t2, t8]
  · simp only [gb_sus, gb_sun, ne_eq, Nat.reduceEqDiff, not_false_eq_true, t1, t2, t8]
  · simp only [gb_sus, gb_sun, ne_eq, Nat.reduceEqDiff, not_false_eq_true, t1, t2, t8]
  · simp only [gb_sus, gb_sun, ne_eq, Nat.reduceEqDiff, not_false_eq_true, t1, t2, t8]
def gb_wkP (f f2 : gb_F) (g p : Nat) (v1 v3 v5 bo mk d10 d11 : Int32) : Prop := f2 0 = f 0 ∧ f2 1 = f 1 ∧ f2 2 = f 2 ∧ f2 4 = upd (f 4) g v5 ∧ f2 5 = upd (f 5) g bo ∧ f2 7 = upd (f 7) g v3 ∧ f2 8 = f 8 ∧ f2 9 = upd (f 9) (5 * g + p) v1 ∧ f2 12 = f 12 ∧ ((v1 = f 0 24 ∧ f2 6 = f 6 ∧ f2 10 = f 10 ∧ f2 11 = f 11) ∨ (v1 ≠ f 0 24 ∧ f2 6 = upd (f 6) g (f 6 g + mk) ∧ f2 10 = upd (f 10) p (f 10 p + d10) ∧ f2 11 = upd (f 11) p (f 11 p + d11)))
theorem mh_walks {n m g p : Nat} {R : Nat → Int32} {f : gb_F} {w : Int64} {v1 v2 v3 v4 v5 : Int32} (h : gb_mbx m R f) (e1 : v2.toInt = g) (hg : g < 8) (e2 : v3.toInt = p) (hp : p < 5) : gb_hm (ms_walks n f w v1 v2 v3 v4 v5) (fun f2 _ _ => gb_wkP f f2 g p v1 v3 v5 (if f 5 g ≤ R (3 + 3 * p) then 0 else f 5 g - R (3 + 3 * p)) (gb_mk (gb_toe R g) (R (3 + 3 * p)) (f 5 g) (R (18 + 5 * g + 3)) (f 0 22)) (if v4 = 0 then (gb_mk (gb_toe R g) (R (3 + 3 * p)) (f 5 g) (R (18 + 5 * g + 3)) (f 0 22)) else 0) (if v4 = 0 then 0 else (gb_mk (gb_toe R g) (R (3 + 3 * p)) (f 5 g) (R (18 + 5 * g + 3)) (f 0 22)))) := by
  have hR := mbx_rB h
  have t1 := gi_tn e1
  have t2 := gi_tn e2
  have t5 := gi_tn (gi_5g e1 e2 hg hp)
  generalize eM : gb_mk (gb_toe R g) (R (3 + 3 * p)) (f 5 g) (R (18 + 5 * g + 3)) (f 0 22) = M
  generalize eB : (if f 5 g ≤ R (3 + 3 * p) then 0 else f 5 g - R (3 + 3 * p)) = BO
  generalize eD : (if v4 = 0 then M else 0) = D
  generalize eE : (if v4 = 0 then 0 else M) = E
  have fin : ∀ F : gb_F, F 0 = f 0 → F 1 = f 1 → F 2 = f 2 → F 4 = f 4 → F 5 = upd (f 5) g BO → F 7 = f 7 → F 8 = f 8 → F 9 = f 9 → F 12 = f 12 → ((v1 = f 0 24 ∧ F 6 = f 6 ∧ F 10 = f 10 ∧ F 11 = f 11) ∨ (v1 ≠ f 0 24 ∧ F 6 = upd (f 6) g (f 6 g + M) ∧ F 10 = upd (f 10) p (f 10 p + D) ∧ F 11 = upd (f 11) p (f 11 p + E))) → ∀ u : Int64, gb_hm (ms_walks_122 n F u v1 v2 v3 v5) (fun f2 _ _ => gb_wkP f f2 g p v1 v3 v5 BO M D E) := by
    intro F a0 a1 a2 a4 a5 a7 a8 a9 a12 aa u
    unfold ms_walks_122
    refine hm_ck (fun _ _ => hm_lt (fun f1 d1 => hm_ck (fun _ _ => hm_lt (fun f2 d2 => hm_ck (fun _ _ => hm_lt (fun f3 d3 => hm_some ?_))))))
    subst d3
    subst d2
    subst d1
    refine ⟨?_, ?_, ?_, ?_, ?_, ?_, ?_, ?_, ?_, ?_⟩
    · rw [gb_un (by decide), gb_un (by decide), gb_un (by decide), a0]
    · rw [gb_un (by decide), gb_un (by decide), gb_un (by decide), a1]
    · rw [gb_un (by decide), gb_un (by decide), gb_un (by decide), a2]
    · rw [gb_un (by decide), gb_un (by decide), gb_us, t1, a4]
    · rw [gb_un (by decide), gb_un (by decide), gb_un (by decide), a5]
    · rw [gb_un (by decide), gb_us, gb_un (by decide), t1, a7]
    · rw [gb_un (by decide), gb_un (by decide), gb_un (by decide), a8]
    · rw [gb_us, gb_un (by decide), gb_un (by decide), t5, a9]
    · rw [gb_un (by decide), gb_un (by decide), gb_un (by decide), a12]
    · rw [gb_un (by decide), gb_un (by decide), gb_un (by decide), gb_un (by decide), gb_un (by decide), gb_un (by decide), gb_un (by decide), gb_un (by decide), gb_un (by decide)]
      exact aa
  have go : ∀ u : Int64, gb_hm (ms_walks_62 n f u v1 v2 v3 v4 v5 M BO v2) (fun f2 _ _ => gb_wkP f f2 g p v1 v3 v5 BO M D E) := by
    intro u
    unfold ms_walks_62
    refine hm_ck (fun _ _ => hm_lt (fun f1 d1 => ?_))
    have b0 : f1 0 = f 0 := by rw [d1, gb_un (by decide)]
    rw [b0]
    refine hm_if (fun c => fin f1 b0 ?_ ?_ ?_ ?_ ?_ ?_ ?_ ?_ (Or.inl ⟨c, ?_, ?_, ?_⟩) u) (fun c => ?_)
    · rw [d1, gb_un (by decide)]
    · rw [d1, gb_un (by decide)]
    · rw [d1, gb_un (by decide)]
    · rw [d1, gb_us, t1]
    · rw [d1, gb_un (by decide)]
    · rw [d1, gb_un (by decide)]
    · rw [d1, gb_un (by decide)]
    · rw [d1, gb_un (by decide)]
    · rw [d1, gb_un (by decide)]
    · rw [d1, gb_un (by decide)]
    · rw [d1, gb_un (by decide)]
    · refine hm_ck (fun _ _ => hm_lt (fun x6 d2 => hm_ck (fun _ _ => hm_lt (fun f3 d3 => hm_ck (fun _ _ => hm_lt (fun x10 d4 => ?_))))))
      have m100 : gb_hm (ms_walks_100 n f3 u v1 v2 v3 v4 v5 M D x10 v3) (fun f2 _ _ => gb_wkP f f2 g p v1 v3 v5 BO M D E) := by
        unfold ms_walks_100
        refine hm_ck (fun _ _ => hm_lt (fun f4 d5 => hm_ck (fun _ _ => hm_lt (fun x11 d6 => ?_))))
        have m120 : gb_hm (ms_walks_120 n f4 u v1 v2 v3 v5 E x11 v3) (fun f2 _ _ => gb_wkP f f2 g p v1 v3 v5 BO M D E) := by
          unfold ms_walks_120
          refine hm_ck (fun _ _ => hm_lt (fun f5 d7 => ?_))
          subst d7
          subst d6
          subst d5
          subst d4
          subst d3
          subst d2
          subst d1
          refine fin _ ?_ ?_ ?_ ?_ ?_ ?_ ?_ ?_ ?_ (Or.inr ⟨c, ?_, ?_, ?_⟩) u
          all_goals simp only [gb_us, gb_un, ne_eq, Nat.reduceEqDiff, not_false_eq_true, t1, t2]
        by_cases q : v4 = 0
        · rw [if_pos q] at eE ⊢
          subst eE
          exact m120
        · rw [if_neg q] at eE ⊢
          subst eE
          exact m120
      by_cases q : v4 = 0
      · rw [if_pos q] at eD ⊢
        subst eD
        exact m100
      · rw [if_neg q] at eD ⊢
        subst eD
        exact m100
  unfold ms_walks
  refine hm_bd (mx_ofPath h e2 (by omega) (j := 0) (by decide) (by decide)) (fun f1 w1 r g1 => ?_)
  obtain ⟨q1, q2, q3⟩ := g1
  subst f1
  subst w1
  rw [Nat.add_zero] at q3
  subst q3
  rw [t1]
  refine hm_ck (fun _ _ => hm_lt (fun x7 d7 => hm_bd (mx_ofGoose h e1 (by omega) (j := 3) (by decide) (by decide)) (fun f1 w1 r g1 => ?_)))
  obtain ⟨q1, q2, q3⟩ := g1
  subst f1
  subst w1
  subst q3
  refine hm_bd (mx_left h e1 (by omega) (rB_li hR hg)) (fun f1 w1 r g1 => ?_)
  obtain ⟨q1, q2, q3⟩ := g1
  subst f1
  subst w1
  rw [d7, eM] at q3
  subst q3
  refine hm_ck (fun _ _ => hm_lt (fun x8 d8 => hm_if (fun c => ?_) (fun c => hm_ck (fun _ _ => hm_lt (fun x9 d9 => ?_)))))
  · rw [d8] at c
    rw [if_pos c] at eB
    rw [eB]
    exact go w
  · rw [d8] at c
    rw [if_neg c] at eB
    rw [d9, eB]
    exact go w
/-! both go -/
theorem PR_go {R : Nat → Int32} {t : Prop} {σ s : gb_S} {f f2 : gb_F} {g p : Nat} {y z bo mk at' v5 bo2 mk2 d10 d11 : Int32} {T6 T7 : Nat → Int32} (hP : gb_PR R t σ f) (hg : g < 8) (hp : p < 5) (hz : gb_iv 0 23 z) (A : gb_goP σ s g p y z bo mk at' T6 T7) (B : gb_wkP f f2 g p z y v5 bo2 mk2 d10 d11) (eb : bo = bo2) (ib : gb_iv (-1) 60 bo2) (ea : at' = v5) (ia : gb_iv 0 2 v5) (em : mk = mk2) (H : (z = f 0 24 ∧ ¬ t ∧ T6 = σ.1 116 ∧ T7 = σ.1 117) ∨ (z ≠ f 0 24 ∧ T6 = upd (σ.1 116) p (σ.1 116 p + d10) ∧ T7 = upd (σ.1 117) p (σ.1 117 p + d11))) : gb_PR R t s f2 := by
  obtain ⟨h1, h2, h3, h4, h5, h6⟩ := hP
  obtain ⟨a0, a1, a2, a3, a4, a5, a6, a7, a8, a9⟩ := A
  obtain ⟨b0, b1, b2, b4, b5, b7, b8, b9, b12, bb⟩ := B
  have f9 : s.1 109 = σ.1 109 := a1 109 (by decide)
  subst eb
  subst ea
  subst em
  refine ⟨fun x hx => ⟨?_, ?_, ?_, ?_⟩, fun x hx => ⟨?_, ?_⟩, fun x hx => ⟨?_, ?_, ?_⟩, fun x q hx hq => ?_, ?_, fun x hx => ?_⟩
  · rw [a2, b4]
    exact upd_E rfl (h1 x hx).1
  · rw [a3, b5]
    exact upd_E rfl (h1 x hx).2.1
  · intro ht
    rcases bb with bb | bb
    · rcases H with H | H
      · exact absurd ht H.2.1
      · exact absurd bb.1 H.1
    · rw [a4, bb.2.1]
      by_cases c : x = g
      · subst c
        rw [pk_us, pk_us, (h1 x hx).2.2.1 ht]
      · rw [pk_un c, pk_un c]
        exact (h1 x hx).2.2.1 ht
  · rw [a5, b7]
    exact upd_E rfl (h1 x hx).2.2.2
  · rw [b4]
    by_cases c : x = g
    · subst c
      rw [pk_us]
      exact ia
    · rw [pk_un c]
      exact (h2 x hx).1
  · rw [b5]
    by_cases c : x = g
    · subst c
      rw [pk_us]
      exact ib
    · rw [pk_un c]
      exact (h2 x hx).2
  · rcases bb with bb | bb
    · rcases H with H | H
      · rw [a6, bb.2.2.1, H.2.2.1]
        exact (h3 x hx).1
      · exact absurd bb.1 H.1
    · rcases H with H | H
      · exact absurd H.1 bb.1
      · rw [a6, bb.2.2.1, H.2.1]
        exact upd_E (by rw [(h3 p hp).1]) (h3 x hx).1
  · rcases bb with bb | bb
    · rcases H with H | H
      · rw [a7, bb.2.2.2, H.2.2.2]
        exact (h3 x hx).2.1
      · exact absurd bb.1 H.1
    · rcases H with H | H
      · exact absurd H.1 bb.1
      · rw [a7, bb.2.2.2, H.2.2]
        exact upd_E (by rw [(h3 p hp).2.1]) (h3 x hx).2.1
  · rw [a8, b12]
    exact (h3 x hx).2.2
  · rw [a9, b9]
    by_cases c : 8 * q + x = 8 * p + g
    · have c2 : 5 * x + q = 5 * g + p := by omega
      rw [c, c2, pk_us, pk_us]
      have z1 := hz.1
      have z2 := hz.2
      refine ⟨?_, by omega, z2⟩
      rw [gb_tadd (by rw [show (1 : Int32).toInt = 1 from by decide]; omega) (by rw [show (1 : Int32).toInt = 1 from by decide]; omega)]
      rfl
    · by_cases c2 : 5 * x + q = 5 * g + p
      · exact absurd (show 8 * q + x = 8 * p + g by omega) c
      · rw [pk_un c, pk_un c2]
        exact h4 x q hx hq
  · rw [f9, b0]
    exact h5
  · rw [b8, f9]
    exact h6 x hx
