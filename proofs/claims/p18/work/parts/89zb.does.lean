/-! THE RAIN, THE FOX, AND EVERY DEED -/
theorem PR_path {R : Nat → Int32} {t : Prop} {σ : gb_S} {f : gb_F} {p : Nat} {a b c : Int32} (hP : gb_PR R t σ f) : gb_PR R t (gb_su (gb_su (gb_su σ 116 (upd (σ.1 116) p a)) 117 (upd (σ.1 117) p b)) 118 (upd (σ.1 118) p c)) (gb_u (gb_u (gb_u f 10 (upd (f 10) p a)) 11 (upd (f 11) p b)) 12 (upd (f 12) p c)) := by
  obtain ⟨h1, h2, h3, h4, h5, h6⟩ := hP
  refine ⟨fun x hx => ?_, fun x hx => ?_, fun x hx => ⟨?_, ?_, ?_⟩, fun x q hx hq => ?_, ?_, fun x hx => ?_⟩
  · simp only [gb_sun, gb_un, ne_eq, Nat.reduceEqDiff, not_false_eq_true]
    exact h1 x hx
  · simp only [gb_un, ne_eq, Nat.reduceEqDiff, not_false_eq_true]
    exact h2 x hx
  · rw [gb_sun (by decide), gb_sun (by decide), gb_sus, gb_un (by decide), gb_un (by decide), gb_us]
    exact upd_E rfl (h3 x hx).1
  · rw [gb_sun (by decide), gb_sus, gb_un (by decide), gb_us]
    exact upd_E rfl (h3 x hx).2.1
  · rw [gb_sus, gb_us]
    exact upd_E rfl (h3 x hx).2.2
  · simp only [gb_sun, gb_un, ne_eq, Nat.reduceEqDiff, not_false_eq_true]
    exact h4 x q hx hq
  · simp only [gb_sun, gb_un, ne_eq, Nat.reduceEqDiff, not_false_eq_true]
    exact h5
  · simp only [gb_sun, gb_un, ne_eq, Nat.reduceEqDiff, not_false_eq_true]
    exact h6 x hx
def gb_DE (R : Nat → Int32) (t : Prop) (σ s : gb_S) (f f2 : gb_F) : Prop := gb_PR R t s f2 ∧ gb_pfr σ s ∧ gb_mfr f f2 ∧ f2 0 23 = f 0 23
theorem DE_t {R : Nat → Int32} {t : Prop} {σ s s2 : gb_S} {f g h : gb_F} (a : gb_DE R t σ s f g) (b : gb_DE R t s s2 g h) : gb_DE R t σ s2 f h := ⟨b.1, pfr_t a.2.1 b.2.1, mfr_t a.2.2.1 b.2.2.1, b.2.2.2.trans a.2.2.2⟩
theorem r_rain {n m k0 k1 : Nat} {R NR : Nat → Int32} {t : Prop} {v1 : Int32} : ∀ (mm : Nat) (σ : gb_S) (f : gb_F) (x : Int32) (k : Nat), gb_PC k0 k1 R NR σ → gb_PM m R NR f → gb_PR R t σ f → x.toInt = k → k ≤ 5 → gb_hc (cs_Play_rainDown_2 n mm σ v1 x) (fun s _ => ∀ (mm2 : Nat) (w : Int64), gb_hm (ms_rains_2 n mm2 f w v1 x) (fun f2 _ _ => gb_DE R t σ s f f2)) := by
  intro mm
  induction mm with
  | zero =>
    intros
    exact hc_none
  | succ mm ih =>
    intro σ f x k h hM hP e hk
    have hR := mbx_rB hM.1
    have hp5 := (rB_nP hR).2
    have hpE := (rB_nP hR).1
    have tx := gi_tn e
    rw [cs_Play_rainDown_2]
    rw [h.1]
    refine hc_kk (fun _ => hc_cd ch_paths (fun s r g => ?_))
    obtain ⟨g1, g2⟩ := g
    subst s
    have eR : σ.1 (k0 + 1) 0 = R 0 := h.2.1.1
    rw [eR] at g2
    subst g2
    refine hc_if (fun c => hc_some ?_) (fun c => ?_)
    · intro mm2 w
      cases mm2 with
      | zero => exact hm_none
      | succ mm2 =>
        rw [ms_rains_2]
        refine hm_bd (mx_paths hM.1) (fun f1 w1 r g => ?_)
        obtain ⟨g1, g2, g3⟩ := g
        subst f1
        subst w1
        subst g3
        rw [if_pos c]
        exact hm_some ⟨hP, pfr_r, mfr_r, rfl⟩
    · have hkc : k < gb_nP R := by
        have := gi_nle c
        omega
      have q := hP.2.2.1 k (by omega)
      refine hc_ck (fun _ _ => hc_lt (fun y1 d1 => hc_lt (fun y2 d2 => hc_ck (fun _ _ => hc_lt (fun y3 d3 => hc_lt (fun y4 d4 => hc_ck (fun _ _ => hc_lt (fun y5 d5 => hc_ck (fun _ _ => hc_lt (fun s6 d6 => hc_ck (fun _ _ => hc_lt (fun y7 d7 => hc_ck (fun _ _ => hc_lt (fun s8 d8 => hc_ck (fun _ _ => hc_lt (fun y9 d9 => hc_ck (fun _ _ => hc_lt (fun s10 d10 => hc_lt (fun x2 dx => ?_)))))))))))))))))))
      rw [tx] at d1 d3 d5 d6 d7 d8 d9 d10
      have E : s10 = gb_su (gb_su (gb_su σ 116 (upd (σ.1 116) k (f 10 k - f 10 k * v1 / 10))) 117 (upd (σ.1 117) k (f 11 k - f 11 k * v1 / 10))) 118 (upd (σ.1 118) k (f 12 k + (f 10 k * v1 / 10 + f 11 k * v1 / 10))) := by
        subst d6
        rw [gb_sun (by decide)] at d7
        subst d8
        rw [gb_sun (by decide), gb_sun (by decide)] at d9
        rw [gb_sun (by decide), gb_sun (by decide), gb_sun (by decide)] at d10
        rw [d10, d9, d7, d5, d4, d3, d2, d1, q.1, q.2.1, q.2.2]
      have P2 := PR_path (p := k) (a := f 10 k - f 10 k * v1 / 10) (b := f 11 k - f 11 k * v1 / 10) (c := f 12 k + (f 10 k * v1 / 10 + f 11 k * v1 / 10)) hP
      rw [← E] at P2
      have fr : gb_pfr σ s10 := by
        rw [E]
        exact pfr_t (pfr_t (pfr_u (by decide)) (pfr_u (by decide))) (pfr_u (by decide))
      have mf : gb_mfr f (gb_u (gb_u (gb_u f 10 (upd (f 10) k (f 10 k - f 10 k * v1 / 10))) 11 (upd (f 11) k (f 11 k - f 11 k * v1 / 10))) 12 (upd (f 12) k (f 12 k + (f 10 k * v1 / 10 + f 11 k * v1 / 10)))) := mfr_t (mfr_t (mfr_u (by decide)) (mfr_u (by decide))) (mfr_u (by decide))
      refine hc_mono (ih s10 _ x2 (k + 1) (PC_k h fr) (PM_k hM mf) P2 (gi_1 e (by omega) dx) (by omega)) (fun s u H => ?_)
      intro mm2 w
      cases mm2 with
      | zero => exact hm_none
      | succ mm2 =>
        rw [ms_rains_2]
        refine hm_bd (mx_paths hM.1) (fun f1 w1 r g => ?_)
        obtain ⟨g1, g2, g3⟩ := g
        subst f1
        subst w1
        subst g3
        rw [if_neg c, tx]
        refine hm_ck (fun _ _ => hm_lt (fun z1 d1 => hm_lt (fun z2 d2 => hm_ck (fun _ _ => hm_lt (fun z3 d3 => hm_lt (fun z4 d4 => hm_ck (fun _ _ => hm_lt (fun z5 d5 => hm_ck (fun _ _ => hm_lt (fun s6 d6 => hm_ck (fun _ _ => hm_lt (fun z7 d7 => hm_ck (fun _ _ => hm_lt (fun s8 d8 => hm_ck (fun _ _ => hm_lt (fun z9 d9 => hm_ck (fun _ _ => hm_lt (fun s11 d11 => hm_lt (fun x3 dx3 => ?_)))))))))))))))))))
        have E2 : s11 = gb_u (gb_u (gb_u f 10 (upd (f 10) k (f 10 k - f 10 k * v1 / 10))) 11 (upd (f 11) k (f 11 k - f 11 k * v1 / 10))) 12 (upd (f 12) k (f 12 k + (f 10 k * v1 / 10 + f 11 k * v1 / 10))) := by
          subst d6
          rw [gb_un (by decide)] at d7
          subst d8
          rw [gb_un (by decide), gb_un (by decide)] at d9
          rw [gb_un (by decide), gb_un (by decide), gb_un (by decide)] at d11
          rw [d11, d9, d7, d5, d4, d3, d2, d1]
        rw [dx3, ← dx, E2]
        refine hm_mono (H mm2 w) (fun f3 w3 _ k3 => ?_)
        refine ⟨k3.1, pfr_t fr k3.2.1, mfr_t mf k3.2.2.1, ?_⟩
        rw [k3.2.2.2, gb_un (by decide), gb_un (by decide), gb_un (by decide)]
/-- one number of every goose's -/
theorem PR_at {R : Nat → Int32} {t : Prop} {σ : gb_S} {f : gb_F} {g : Nat} {a : Int32} (hP : gb_PR R t σ f) (ia : gb_iv 0 2 a) : gb_PR R t (gb_su σ 112 (upd (σ.1 112) g a)) (gb_u f 4 (upd (f 4) g a)) := by
  obtain ⟨h1, h2, h3, h4, h5, h6⟩ := hP
  refine ⟨fun x hx => ⟨?_, ?_⟩, fun x hx => ⟨?_, ?_⟩, fun x hx => ?_, fun x q hx hq => ?_, ?_, fun x hx => ?_⟩
  · rw [gb_sus, gb_us]
    exact upd_E rfl (h1 x hx).1
  · simp only [gb_sun, gb_un, ne_eq, Nat.reduceEqDiff, not_false_eq_true]
    exact (h1 x hx).2
  · rw [gb_us]
    by_cases c : x = g
    · subst c
      rw [pk_us]
      exact ia
    · rw [pk_un c]
      exact (h2 x hx).1
  · simp only [gb_un, ne_eq, Nat.reduceEqDiff, not_false_eq_true]
    exact (h2 x hx).2
  · simp only [gb_sun, gb_un, ne_eq, Nat.reduceEqDiff, not_false_eq_true]
    exact h3 x hx
  · simp only [gb_sun, gb_un, ne_eq, Nat.reduceEqDiff, not_false_eq_true]
    exact h4 x q hx hq
  · simp only [gb_sun, gb_un, ne_eq, Nat.reduceEqDiff, not_false_eq_true]
    exact h5
  · simp only [gb_sun, gb_un, ne_eq, Nat.reduceEqDiff, not_false_eq_true]
    exact h6 x hx
theorem PR_la {R : Nat → Int32} {t : Prop} {σ : gb_S} {f : gb_F} {g : Nat} {a : Int32} (hP : gb_PR R t σ f) : gb_PR R t (gb_su σ 115 (upd (σ.1 115) g a)) (gb_u f 7 (upd (f 7) g a)) := by
  obtain ⟨h1, h2, h3, h4, h5, h6⟩ := hP
  refine ⟨fun x hx => ⟨?_, ?_, ?_, ?_⟩, fun x hx => ?_, fun x hx => ?_, fun x q hx hq => ?_, ?_, fun x hx => ?_⟩
  · rw [gb_sun (by decide), gb_un (by decide)]
    exact (h1 x hx).1
  · rw [gb_sun (by decide), gb_un (by decide)]
    exact (h1 x hx).2.1
  · rw [gb_sun (by decide), gb_un (by decide)]
    exact (h1 x hx).2.2.1
  · rw [gb_sus, gb_us]
    exact upd_E rfl (h1 x hx).2.2.2
  · simp only [gb_un, ne_eq, Nat.reduceEqDiff, not_false_eq_true]
    exact h2 x hx
  · simp only [gb_sun, gb_un, ne_eq, Nat.reduceEqDiff, not_false_eq_true]
    exact h3 x hx
  · simp only [gb_sun, gb_un, ne_eq, Nat.reduceEqDiff, not_false_eq_true]
    exact h4 x q hx hq
  · simp only [gb_sun, gb_un, ne_eq, Nat.reduceEqDiff, not_false_eq_true]
    exact h5
  · simp only [gb_sun, gb_un, ne_eq, Nat.reduceEqDiff, not_false_eq_true]
    exact h6 x hx
theorem tb_or (x y : Int32) (g : Nat) : gb_tbt (x ||| y) g = (gb_tbt x g || gb_tbt y g) := by
  unfold gb_tbt
  rw [Int32.toBitVec_or, BitVec.getLsbD_or]
theorem tb_1 : ∀ g h : Fin 8, gb_tbt ((1 : Int32) <<< ((Int32.ofNat g.val) &&& 31)) h.val = decide (h = g) := by decide
theorem tb_one {x : Int32} {g h : Nat} (e : x.toInt = g) (hg : g < 8) (hh : h < 8) : gb_tbt ((1 : Int32) <<< (x &&& 31)) h = decide (h = g) := by
  have ex : x = Int32.ofNat g := gi_nI e (by omega)
  rw [ex]
  have := tb_1 ⟨g, hg⟩ ⟨h, hh⟩
  rw [this]
  by_cases c : h = g
  · subst c
    rw [decide_eq_true rfl, decide_eq_true rfl]
  · rw [decide_eq_false c, decide_eq_false (fun z => c (congrArg Fin.val z))]
theorem PR_bo {R : Nat → Int32} {t : Prop} {σ : gb_S} {f : gb_F} {g : Nat} {a x : Int32} (hP : gb_PR R t σ f) (hR : gb_rB R) (ia : gb_iv (-1) 60 a) (e : x.toInt = g) (hg : g < 8) : gb_PR R t (gb_su (gb_su σ 113 (upd (σ.1 113) g a)) 109 (upd (σ.1 109) 9 ((σ.1 109 9) ||| ((1 : Int32) <<< (x &&& 31))))) (gb_u (gb_u f 5 (upd (f 5) g a)) 8 (upd (f 8) g (vp_nar .boolean 1))) := by
  have h8 := (rB_nG hR).2
  obtain ⟨h1, h2, h3, h4, h5, h6⟩ := hP
  refine ⟨fun y hy => ⟨?_, ?_, ?_, ?_⟩, fun y hy => ⟨?_, ?_⟩, fun y hy => ?_, fun y q hy hq => ?_, ⟨?_, ?_⟩, fun y hy => ?_⟩
  · simp only [gb_sun, gb_un, ne_eq, Nat.reduceEqDiff, not_false_eq_true]
    exact (h1 y hy).1
  · rw [gb_sun (by decide), gb_sus, gb_un (by decide), gb_us]
    exact upd_E rfl (h1 y hy).2.1
  · simp only [gb_sun, gb_un, ne_eq, Nat.reduceEqDiff, not_false_eq_true]
    exact (h1 y hy).2.2.1
  · simp only [gb_sun, gb_un, ne_eq, Nat.reduceEqDiff, not_false_eq_true]
    exact (h1 y hy).2.2.2
  · simp only [gb_un, ne_eq, Nat.reduceEqDiff, not_false_eq_true]
    exact (h2 y hy).1
  · rw [gb_un (by decide), gb_us]
    by_cases c : y = g
    · subst c
      rw [pk_us]
      exact ia
    · rw [pk_un c]
      exact (h2 y hy).2
  · simp only [gb_sun, gb_un, ne_eq, Nat.reduceEqDiff, not_false_eq_true]
    exact h3 y hy
  · simp only [gb_sun, gb_un, ne_eq, Nat.reduceEqDiff, not_false_eq_true]
    exact h4 y q hy hq
  · rw [gb_sus, pk_un (by decide), gb_un (by decide), gb_un (by decide)]
    exact h5.1
  · rw [gb_sus, pk_un (by decide), gb_un (by decide), gb_un (by decide)]
    exact h5.2
  · rw [gb_us, gb_sus, pk_us, tb_or, tb_one e hg (by omega)]
    by_cases c : y = g
    · subst c
      rw [pk_us, decide_eq_true rfl, Bool.or_true]
      exact ⟨fun _ => Or.inr rfl, fun _ => by decide⟩
    · rw [pk_un c, decide_eq_false c, Bool.or_false]
      exact h6 y hy
theorem PR_fr {R : Nat → Int32} {t : Prop} {σ : gb_S} {f : gb_F} {a : Int32} (hP : gb_PR R t σ f) : gb_PR R t (gb_su σ 109 (upd (σ.1 109) 10 a)) (gb_u f 0 (upd (f 0) 22 a)) := by
  obtain ⟨h1, h2, h3, h4, h5, h6⟩ := hP
  refine ⟨fun x hx => ?_, fun x hx => ?_, fun x hx => ?_, fun x q hx hq => ?_, ⟨?_, ?_⟩, fun x hx => ?_⟩
  · simp only [gb_sun, gb_un, ne_eq, Nat.reduceEqDiff, not_false_eq_true]
    exact h1 x hx
  · simp only [gb_un, ne_eq, Nat.reduceEqDiff, not_false_eq_true]
    exact h2 x hx
  · simp only [gb_sun, gb_un, ne_eq, Nat.reduceEqDiff, not_false_eq_true]
    exact h3 x hx
  · simp only [gb_sun, gb_un, ne_eq, Nat.reduceEqDiff, not_false_eq_true]
    exact h4 x q hx hq
  · rw [gb_sus, gb_us, pk_us, pk_us]
  · rw [gb_sus, gb_us, pk_un (by decide), pk_un (by decide)]
    exact h5.2
  · rw [gb_un (by decide), gb_sus, pk_un (by decide)]
    exact h6 x hx
theorem PR_dn {R : Nat → Int32} {t : Prop} {σ : gb_S} {f : gb_F} {a : Int32} (hP : gb_PR R t σ f) : gb_PR R t (gb_su σ 109 (upd (σ.1 109) 11 a)) (gb_u f 0 (upd (f 0) 23 a)) := by
  obtain ⟨h1, h2, h3, h4, h5, h6⟩ := hP
  refine ⟨fun x hx => ?_, fun x hx => ?_, fun x hx => ?_, fun x q hx hq => ?_, ⟨?_, ?_⟩, fun x hx => ?_⟩
  · simp only [gb_sun, gb_un, ne_eq, Nat.reduceEqDiff, not_false_eq_true]
    exact h1 x hx
  · simp only [gb_un, ne_eq, Nat.reduceEqDiff, not_false_eq_true]
    exact h2 x hx
  · simp only [gb_sun, gb_un, ne_eq, Nat.reduceEqDiff, not_false_eq_true]
    exact h3 x hx
  · simp only [gb_sun, gb_un, ne_eq, Nat.reduceEqDiff, not_false_eq_true]
    exact h4 x q hx hq
  · rw [gb_sus, gb_us, pk_un (by decide), pk_un (by decide)]
    exact h5.1
  · rw [gb_sus, gb_us, pk_us, pk_us]
  · rw [gb_un (by decide), gb_sus, pk_un (by decide)]
    exact h6 x hx
