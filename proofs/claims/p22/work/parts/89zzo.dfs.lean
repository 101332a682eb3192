/-! THE NEXT CHOICE OF A GOOSE -/
def gb_tst (R U : Nat → Int32) (m k : Nat) (a : Nat → Nat) (f : gb_F) : Prop := gb_dM R m f ∧ (∀ p, p < 5 → f 15 p = U p) ∧ ∀ g, g < k → (f 16 g).toInt = (a g : Int) - 1 ∧ (f 17 g = if a g = 0 then 0 else 1) ∧ a g ≤ gb_nP R ∧ (¬ a g = 0 → ¬ U (a g - 1) = -1)
theorem tst_k {R U : Nat → Int32} {m k : Nat} {a : Nat → Nat} {f f2 : gb_F} (h : gb_tst R U m k a f) (e0 : f2 0 11 = f 0 11) (e1 : f2 1 = f 1) (e2 : f2 2 = f 2) (e13 : f2 13 = f 13) (e15 : f2 15 = f 15) (e16 : ∀ g, g < k → f2 16 g = f 16 g) (e17 : ∀ g, g < k → f2 17 g = f 17 g) (hm : gb_mbx m R f2) : gb_tst R U m k a f2 := ⟨⟨hm, fun g p hg hp => by rw [e13]; exact h.1.2 g p hg hp⟩, fun p hp => by rw [e15]; exact h.2.1 p hp, fun g hg => by rw [e16 g hg, e17 g hg]; exact h.2.2 g hg⟩
def gb_ent (R : Nat → Int32) (k : Nat) (a : Nat → Nat) (c : Nat) (f : gb_F) : Prop := (f 16 k).toInt = (c : Int) - 2 ∧ ((f 17 k = 0 ∧ ∀ p, p < 5 → (f 14 p).toInt = gb_tq R a p k) ∨ (f 17 k = 1 ∧ 2 ≤ c ∧ c ≤ gb_nP R + 1 ∧ ∀ p, p < 5 → (f 14 p).toInt = gb_tq R a p k + if p + 2 = c then gb_fM R p k else 0))
def gb_aft (R U : Nat → Int32) (m k : Nat) (a : Nat → Nat) (c : Nat) (f : gb_F) (w : Int64) (f2 : gb_F) (w2 : Int64) (r : Int32) : Prop := w2 = w ∧ f2 0 = f 0 ∧ f2 18 = f 18 ∧ gb_tst R U m k a f2 ∧ (f2 16 k).toInt = (c : Int) - 1 ∧ ((r = 1 ∧ c ≤ gb_nP R ∧ (f2 17 k = if c = 0 then 0 else 1) ∧ (¬ c = 0 → ¬ U (c - 1) = -1) ∧ ∀ p, p < 5 → (f2 14 p).toInt = gb_tq R (gb_up a k c) p (k + 1)) ∨ (r = 0 ∧ f2 17 k = 0 ∧ (∀ p, p < 5 → (f2 14 p).toInt = gb_tq R a p k) ∧ (c ≤ gb_nP R → 1 ≤ c ∧ (U (c - 1) = -1 ∨ (U (c - 1)).toInt < gb_tq R a (c - 1) k + gb_fM R (c - 1) k))))
theorem tq_up {R : Nat → Int32} {a : Nat → Nat} {p k c : Nat} : gb_tq R (gb_up a k c) p (k + 1) = gb_tq R a p k + if c = p + 1 then gb_fM R p k else 0 := by
  rw [tq_1, up_s, tq_c (b := a) k (fun g hg => by rw [up_n (by omega)])]
theorem mh_next38 {n m k c : Nat} {R U : Nat → Int32} {a : Nat → Nat} {f : gb_F} {w : Int64} {v1 : Int32} (hk : k < gb_nG R) (hc : c ≤ gb_nP R + 1) (e1 : v1.toInt = k) (ht : gb_tst R U m k a f) (iU : ∀ p, p < 5 → gb_iv (-1) 999 (U p)) (e16 : (f 16 k).toInt = (c : Int) - 2) (h14 : ∀ p, p < 5 → (f 14 p).toInt = gb_tq R a p k) : gb_hm (ms_isNext_38 n f w v1) (fun f2 w2 r => gb_aft R U m k a c f w f2 w2 r) := by
  have b0 : vp_nar .boolean 0 = 0 := by decide
  have b1 : vp_nar .boolean 1 = 1 := by decide
  have z0 : (0 : Int32).toInt = 0 := by decide
  have z1 : (1 : Int32).toInt = 1 := by decide
  have hR := mbx_rB ht.1.1
  have h5 := (rB_nP hR).2
  have h8 := (rB_nG hR).2
  have rP := (rB_nP hR).1
  unfold ms_isNext_38
  rw [b0, b1, gi_tn e1]
  refine hm_ck (fun _ _ => hm_lt (fun f5 e5 => hm_ck (fun _ _ => hm_lt (fun x7 e7 => hm_ck (fun _ _ => hm_lt (fun f9 e9 => hm_ck (fun _ _ => hm_lt (fun x11 e11 => ?_))))))))
  have E7 : x7.toInt = (c : Int) - 2 := by
    rw [e7, e5, gb_un (by decide)]
    exact e16
  have E11 : x11.toInt = (c : Int) - 1 := by
    rw [e11, e9, gb_us, pk_us, gb_tadd (by omega) (by omega), E7, z1]
    omega
  have o : ∀ q, q ≠ 16 → q ≠ 17 → f9 q = f q := fun q h1 h2 => by
    rw [e9, gb_un h1, e5, gb_un h2]
  have o16 : ∀ g, g ≠ k → f9 16 g = f 16 g := fun g hg => by
    rw [e9, gb_us, pk_un hg, e5, gb_un (by decide)]
  have o17 : ∀ g, g ≠ k → f9 17 g = f 17 g := fun g hg => by
    rw [e9, gb_un (by decide), e5, gb_us, pk_un hg]
  have k17 : f9 17 k = 0 := by
    rw [e9, gb_un (by decide), e5, gb_us, pk_us]
  have k16 : (f9 16 k).toInt = (c : Int) - 1 := by
    rw [← e11]
    exact E11
  have hb9 : gb_mbx m R f9 := by
    rw [e9]
    refine mbx_u2 ?_ (by decide)
    rw [e5]
    exact mbx_u2 ht.1.1 (by decide)
  have t9 : gb_tst R U m k a f9 := tst_k ht (by rw [o 0 (by decide) (by decide)]) (o 1 (by decide) (by decide)) (o 2 (by decide) (by decide)) (o 13 (by decide) (by decide)) (o 15 (by decide) (by decide)) (fun g hg => o16 g (by omega)) (fun g hg => o17 g (by omega)) hb9
  have s9 : ∀ p, p < 5 → (f9 14 p).toInt = gb_tq R a p k := fun p hp => by
    rw [o 14 (by decide) (by decide)]
    exact h14 p hp
  have no : (c ≤ gb_nP R → 1 ≤ c ∧ (U (c - 1) = -1 ∨ (U (c - 1)).toInt < gb_tq R a (c - 1) k + gb_fM R (c - 1) k)) → gb_aft R U m k a c f w f9 w 0 := fun hh => ⟨rfl, o 0 (by decide) (by decide), o 18 (by decide) (by decide), t9, k16, Or.inr ⟨rfl, k17, s9, hh⟩⟩
  refine hm_if (fun d => ?_) (fun d => ?_)
  · have d' := gi_lt d
    have c0 : c = 0 := by omega
    refine hm_if (fun y => absurd (gi_le y) (by omega)) (fun _ => hm_some ⟨rfl, o 0 (by decide) (by decide), o 18 (by decide) (by decide), t9, k16, Or.inl ⟨rfl, by omega, by rw [if_pos c0]; exact k17, fun y => absurd c0 y, fun p hp => ?_⟩⟩)
    rw [tq_up, if_neg (by omega), s9 p hp]
    omega
  · have d' := gi_nlt d
    refine hm_bd (mx_paths hb9) (fun f1 w1 r ⟨g1, g2, g3⟩ => ?_)
    rw [g1, g2, g3]
    refine hm_if (fun y => ?_) (fun y => ?_)
    · have y' := gi_lt y
      have cp : c ≤ gb_nP R := by omega
      have c1 : 1 ≤ c := by omega
      have ec : x11.toInt = ((c - 1 : Nat) : Int) := by omega
      have c5 : c - 1 < 5 := by omega
      have i5 : (5 * v1 + x11).toInt = ((5 * k + (c - 1) : Nat) : Int) := gi_5g e1 ec (by omega) c5
      have eU : f9 15 (c - 1) = U (c - 1) := t9.2.1 (c - 1) c5
      have eM : f9 13 (5 * k + (c - 1)) = gb_fm R k (c - 1) := t9.1.2 k (c - 1) hk (by omega)
      have E14 := s9 (c - 1) c5
      have fm := fM_i hR c5 k (by omega)
      have eF : (gb_fm R k (c - 1)).toInt = gb_fM R (c - 1) k := rfl
      have tqb := tq_i (a := a) hR c5 k (by omega)
      have iu := iU (c - 1) c5
      have iu1 := iu.1
      have iu2 := iu.2
      rw [gi_tn ec, gi_tn i5, eU, eM]
      refine hm_ck (fun _ _ => hm_lt (fun x21 e21 => hm_if (fun q => hm_some (no (fun _ => ⟨c1, Or.inl (by rw [← e21]; exact q)⟩))) (fun q => hm_ck (fun _ _ => hm_lt (fun x24 e24 => hm_ck (fun _ _ => hm_lt (fun x26 e26 => hm_ck (fun _ _ => hm_lt (fun x28 e28 => ?_)))))))))
      have sum : (x24 + x26).toInt = gb_tq R a (c - 1) k + gb_fM R (c - 1) k := by
        rw [gb_tadd (by rw [e24, e26]; omega) (by rw [e24, e26]; omega), e24, e26, E14, eF]
      refine hm_if (fun u => ?_) (fun u => hm_some (no (fun _ => ⟨c1, Or.inr ?_⟩)))
      · refine hm_ck (fun _ _ => hm_lt (fun x31 e31 => hm_ck (fun _ _ => hm_lt (fun x33 e33 => hm_ck (fun _ _ => hm_lt (fun f35 e35 => hm_ck (fun _ _ => hm_lt (fun f37 e37 => hm_some ?_))))))))
        have oo : ∀ q, q ≠ 14 → q ≠ 17 → f37 q = f9 q := fun q h1 h2 => by
          rw [e37, gb_un h2, e35, gb_un h1]
        have oo17 : ∀ g, g ≠ k → f37 17 g = f9 17 g := fun g hg => by
          rw [e37, gb_us, pk_un hg, e35, gb_un (by decide)]
        have hb37 : gb_mbx m R f37 := by
          rw [e37]
          refine mbx_u2 ?_ (by decide)
          rw [e35]
          exact mbx_u2 hb9 (by decide)
        refine ⟨rfl, ?_, ?_, tst_k t9 (by rw [oo 0 (by decide) (by decide)]) (oo 1 (by decide) (by decide)) (oo 2 (by decide) (by decide)) (oo 13 (by decide) (by decide)) (oo 15 (by decide) (by decide)) (fun g hg => by rw [oo 16 (by decide) (by decide)]) (fun g hg => oo17 g (by omega)) hb37, ?_, Or.inl ⟨rfl, cp, ?_, fun _ => by rw [← e21]; exact q, fun p hp => ?_⟩⟩
        · rw [oo 0 (by decide) (by decide)]
          exact o 0 (by decide) (by decide)
        · rw [oo 18 (by decide) (by decide)]
          exact o 18 (by decide) (by decide)
        · rw [oo 16 (by decide) (by decide)]
          exact k16
        · rw [e37, gb_us, pk_us, if_neg (by omega)]
        · rw [e37, gb_un (by decide), e35, gb_us, tq_up]
          by_cases z : p = c - 1
          · rw [z, pk_us, if_pos (by omega), e31, e33, ← e24, ← e26]
            exact sum
          · rw [pk_un z, if_neg (by omega), s9 p hp]
            omega
      · have u' := gi_nle u
        rw [sum, e28] at u'
        exact u'
    · have y' := gi_nlt y
      exact hm_if (fun _ => hm_some (no (fun z => absurd z (by omega)))) (fun z => absurd (gi_nle z) (by omega))
theorem mh_next {n m k c : Nat} {R U : Nat → Int32} {a : Nat → Nat} {f : gb_F} {w : Int64} {v1 : Int32} (hk : k < gb_nG R) (hc : c ≤ gb_nP R + 1) (e1 : v1.toInt = k) (ht : gb_tst R U m k a f) (iU : ∀ p, p < 5 → gb_iv (-1) 999 (U p)) (he : gb_ent R k a c f) : gb_hm (ms_isNext n f w v1) (fun f2 w2 r => gb_aft R U m k a c f w f2 w2 r) := by
  have hR := mbx_rB ht.1.1
  have h5 := (rB_nP hR).2
  have h8 := (rB_nG hR).2
  obtain ⟨q1, q2⟩ := he
  unfold ms_isNext
  rw [gi_tn e1]
  refine hm_ck (fun _ _ => hm_lt (fun x2 e2 => hm_if (fun d => ?_) (fun d => ?_)))
  · rcases q2 with y | y
    · exact mh_next38 hk hc e1 ht iU q1 y.2
    · rw [e2, y.1] at d
      exact absurd d (by decide)
  · rcases q2 with y | ⟨y1, y2, y3, y4⟩
    · exact absurd (by rw [e2]; exact y.1) d
    have c5 : c - 2 < 5 := by omega
    have fm := fM_i hR c5 k (by omega)
    have eM : f 13 (5 * k + (c - 2)) = gb_fm R k (c - 2) := ht.1.2 k (c - 2) hk (by omega)
    have eF : (gb_fm R k (c - 2)).toInt = gb_fM R (c - 2) k := rfl
    have tqb := tq_i (a := a) hR c5 k (by omega)
    refine hm_ck (fun _ _ => hm_lt (fun x40 e40 => ?_))
    have E40 : x40.toInt = ((c - 2 : Nat) : Int) := by
      rw [e40, q1]
      omega
    rw [gi_tn E40]
    refine hm_ck (fun _ _ => hm_lt (fun x42 e42 => hm_ck (fun _ _ => hm_lt (fun x44 e44 => ?_))))
    have E44 : x44.toInt = ((c - 2 : Nat) : Int) := by
      rw [e44, q1]
      omega
    rw [gi_tn (gi_5g e1 E44 (by omega) c5), eM]
    refine hm_ck (fun _ _ => hm_lt (fun x46 e46 => hm_ck (fun _ _ => hm_lt (fun f48 e48 => ?_))))
    have o : ∀ q, q ≠ 14 → f48 q = f q := fun q h1 => by
      rw [e48, gb_un h1]
    have t48 : gb_tst R U m k a f48 := tst_k ht (by rw [o 0 (by decide)]) (o 1 (by decide)) (o 2 (by decide)) (o 13 (by decide)) (o 15 (by decide)) (fun g hg => by rw [o 16 (by decide)]) (fun g hg => by rw [o 17 (by decide)]) (by rw [e48]; exact mbx_u2 ht.1.1 (by decide))
    refine hm_mono (mh_next38 hk hc e1 t48 iU (by rw [o 16 (by decide)]; exact q1) (fun p hp => ?_)) (fun f2 w2 r A => ⟨A.1, by rw [A.2.1, o 0 (by decide)], by rw [A.2.2.1, o 18 (by decide)], A.2.2.2⟩)
    have yp := y4 p hp
    rw [e48, gb_us]
    by_cases z : p = c - 2
    · rw [if_pos (by omega)] at yp
      rw [z] at yp ⊢
      rw [pk_us, gb_tsub (by rw [e42, e46]; omega) (by rw [e42, e46]; omega), e42, e46, yp, eF]
      omega
    · rw [if_neg (by omega)] at yp
      rw [pk_un z, yp]
      omega
/-! ALL THE CHOICES, GOOSE BY GOOSE -/
theorem mbx_fr {m : Nat} {R : Nat → Int32} {f f2 : gb_F} (h : gb_mbx m R f) (e0 : f2 0 11 = f 0 11) (e1 : f2 1 = f 1) : gb_mbx m R f2 := by
  unfold gb_mbx gb_mb at h ⊢
  rw [e0, e1]
  exact h
theorem mdawn_fr {R : Nat → Int32} {f f2 : gb_F} (h : gb_mdawn R f) (e0 : f2 0 29 = f 0 29) (e1 : f2 1 = f 1) : gb_mdawn R f2 := by
  unfold gb_mdawn gb_mb at h ⊢
  rw [e0, e1]
  exact h
theorem lf1_x {C d k : Nat} {a b : Nat → Nat} : (∃ c, c < C ∧ gb_lf1 C d (k + 1) (gb_up a k c) b) ↔ gb_lf1 C (d + 1) k a b := by
  constructor
  · intro ⟨c, hc, h⟩
    exact (lf1_s hc h).1
  · intro l
    refine ⟨b k, l.1 k (by omega) (by omega), fun g h1 h2 => l.1 g (by omega) (by omega), fun g hn => ?_⟩
    by_cases z : g = k
    · rw [z, up_s]
    · rw [up_n z]
      exact l.2 g (by omega)
theorem lf1_0 {C k : Nat} {a b : Nat → Nat} : gb_lf1 C 0 k a b ↔ b = a := by
  constructor
  · intro h
    exact funext (fun g => h.2 g (by omega))
  · intro h
    rw [h]
    exact ⟨fun g h1 h2 => absurd h1 (by omega), fun _ _ => rfl⟩
theorem ub_no {R U : Nat → Int32} {d k c : Nat} {a b : Nat → Nat} (hR : gb_rB R) (hk : k < gb_nG R) (hc : 1 ≤ c ∧ c ≤ gb_nP R) (hh : U (c - 1) = -1 ∨ (U (c - 1)).toInt < gb_tq R a (c - 1) k + gb_fM R (c - 1) k) (l : gb_lf1 (gb_nP R + 1) d (k + 1) (gb_up a k c) b) : ¬ gb_ub R U b := fun h => by
  have h5 := (rB_nP hR).2
  have h8 := (rB_nG hR).2
  have bk : b k = c := (lf1_s (by omega) l).2
  have n1 := h.1 k hk (by omega)
  rw [bk] at n1
  have e : gb_tq R b (c - 1) (k + 1) = gb_tq R a (c - 1) k + gb_fM R (c - 1) k := by
    rw [tq_c (b := gb_up a k c) (k + 1) (fun g hg => by rw [l.2 g (by omega)]), tq_up, if_pos (by omega)]
  have mono := tq_m (a := b) (p := c - 1) (k := k + 1) hR (by omega) (gb_nG R - (k + 1)) (by omega)
  rw [show k + 1 + (gb_nG R - (k + 1)) = gb_nG R by omega] at mono
  rcases hh with y | y
  · exact n1 y
  · rcases h.2 (c - 1) (by omega) with z | z
    · exact n1 z
    · omega
theorem mh_dfs {n m : Nat} {R U : Nat → Int32} (hR : gb_rB R) (iU : ∀ p, p < 5 → gb_iv (-1) 999 (U p)) : ∀ (d k : Nat) (a : Nat → Nat) (N0 : Nat) (M0 : (Nat → Nat) → Prop) (Q : gb_F → Int64 → Unit → Prop), k + (d + 1) = gb_nG R → (∀ (f : gb_F) (w : Int64) (mm : Nat) (v : Int32), v.toInt = (k : Int) - 1 → gb_tst R U m k a f → (∀ p, p < 5 → (f 14 p).toInt = gb_tq R a p k) → gb_acc R (N0 + gb_cnt (gb_ub R U) (gb_nP R + 1) (d + 1) k a) (fun b => M0 b ∨ (gb_lf1 (gb_nP R + 1) (d + 1) k a b ∧ gb_ub R U b)) f w → gb_hm (ms_tries_37 n mm f w v) Q) → ∀ (r c : Nat) (f : gb_F) (w : Int64) (mm : Nat) (v1 : Int32), c + r = gb_nP R + 1 → v1.toInt = k → gb_tst R U m k a f → gb_ent R k a c f → gb_acc R (N0 + gb_sN c (fun c => gb_cnt (gb_ub R U) (gb_nP R + 1) d (k + 1) (gb_up a k c))) (fun b => M0 b ∨ ∃ c', c' < c ∧ gb_lf1 (gb_nP R + 1) d (k + 1) (gb_up a k c') b ∧ gb_ub R U b) f w → gb_hm (ms_tries_37 n mm f w v1) Q := by
  have z0 : (0 : Int32).toInt = 0 := by decide
  have z1 : (1 : Int32).toInt = 1 := by decide
  have m1 : (-1 : Int32).toInt = -1 := by decide
  have m2 : (-2 : Int32).toInt = -2 := by decide
  have b0 : vp_nar .boolean 0 = 0 := by decide
  have h5 := (rB_nP hR).2
  have h8 := (rB_nG hR).2
  have rP := (rB_nP hR).1
  have rG := (rB_nG hR).1
  intro d
  induction d with
  | zero =>
    intro k a N0 M0 Q hk H r
    induction r with
    | zero =>
      intro c f w mm v1 hc e1 ht he hA
      cases mm with
      | zero => exact hm_none
      | succ mm =>
        rw [ms_tries_37]
        refine hm_if (fun y => absurd (gi_lt y) (by omega)) (fun _ => hm_bd (mh_next (by omega) (by omega) e1 ht iU he) (fun f2 w2 r2 A => ?_))
        obtain ⟨A1, A2, A3, A4, A5, A6⟩ := A
        rw [gi_tn e1]
        refine hm_ck (fun _ _ => hm_lt (fun x26 e26 => hm_bd (mx_paths A4.1.1) (fun f3 w3 r3 ⟨g1, g2, g3⟩ => ?_)))
        rw [g1, g2, g3]
        refine hm_if (fun y => absurd (gi_lt y) (by rw [e26]; omega)) (fun _ => hm_lt (fun x51 e51 => ?_))
        rcases A6 with y | ⟨y1, y2, y3, y4⟩
        · exact absurd y.2.1 (by omega)
        · refine H f2 w2 mm x51 (by rw [e51, gb_tadd (by omega) (by omega), m1]; omega) A4 y3 ?_
          rw [A1]
          refine acc_c hA (by rw [cn_s, show c = gb_nP R + 1 by omega]) (fun b => ?_) A2 A3
          rw [show c = gb_nP R + 1 by omega]
          refine ⟨fun z => z.elim Or.inl (fun z => ?_), fun z => z.elim Or.inl (fun z => ?_)⟩
          · obtain ⟨c', hc', l⟩ := lf1_x.mpr z.1
            exact Or.inr ⟨c', hc', l, z.2⟩
          · obtain ⟨c', hc', l, u⟩ := z
            exact Or.inr ⟨lf1_x.mp ⟨c', hc', l⟩, u⟩
    | succ r ihr =>
      intro c f w mm v1 hc e1 ht he hA
      cases mm with
      | zero => exact hm_none
      | succ mm =>
        have hkG : k < gb_nG R := by omega
        rw [ms_tries_37]
        refine hm_if (fun y => absurd (gi_lt y) (by omega)) (fun _ => hm_bd (mh_next hkG (by omega) e1 ht iU he) (fun f2 w2 r2 A => ?_))
        obtain ⟨A1, A2, A3, A4, A5, A6⟩ := A
        rw [gi_tn e1]
        refine hm_ck (fun _ _ => hm_lt (fun x26 e26 => hm_bd (mx_paths A4.1.1) (fun f3 w3 r3 ⟨g1, g2, g3⟩ => ?_)))
        rw [g1, g2, g3]
        refine hm_if (fun _ => ?_) (fun y => absurd (gi_nlt y) (by rw [e26]; omega))
        rcases A6 with ⟨y1, y2, y3, y4, y5⟩ | ⟨y1, y2, y3, y4⟩
        · refine hm_if (fun z => absurd (y1.symm.trans z) (by decide)) (fun _ => hm_bd (mx_geese A4.1.1) (fun f4 w4 r4 ⟨g1, g2, g3⟩ => ?_))
          rw [g1, g2, g3]
          have eg : v1 = R 1 - 1 := gb_ieq (by rw [gb_tsub (by omega) (by omega), e1, rG, z1]; omega)
          refine hm_if (fun _ => ?_) (fun z => absurd eg z)
          have gk : k + 1 = gb_nG R := by omega
          have up16 : ∀ g, g < gb_nG R → (f2 16 g).toInt = (gb_up a k c g : Int) - 1 := fun g hg => by
            by_cases z : g = k
            · rw [z, up_s]
              exact A5
            · rw [up_n z]
              exact (A4.2.2 g (by omega)).1
          refine hm_bd (mh_counts (a := gb_up a k c) (U := U) (N := N0 + gb_sN c (fun c => gb_cnt (gb_ub R U) (gb_nP R + 1) 0 (k + 1) (gb_up a k c))) (M := fun b => M0 b ∨ ∃ c', c' < c ∧ gb_lf1 (gb_nP R + 1) 0 (k + 1) (gb_up a k c') b ∧ gb_ub R U b) A4.1.1 A4.2.1 up16 (fun p hp => by rw [y5 p hp, gk]) (fun g hg => ?_) (fun g hg => ?_) (by rw [A1]; exact acc_c hA rfl (fun _ => Iff.rfl) A2 A3)) (fun f5 w5 _ B => ?_)
          · by_cases z : g = k
            · rw [z, up_s]
              exact y4
            · rw [up_n z]
              exact (A4.2.2 g (by omega)).2.2.2
          · by_cases z : g = k
            · rw [z, up_s]
              exact y2
            · rw [up_n z]
              exact (A4.2.2 g (by omega)).2.2.1
          · obtain ⟨B1, B2, B3⟩ := B
            have t5 : gb_tst R U m k a f5 := tst_k A4 (B2 11 (by decide) (by decide) (by decide)) (B1 1 (by decide) (by decide)) (B1 2 (by decide) (by decide)) (B1 13 (by decide) (by decide)) (B1 15 (by decide) (by decide)) (fun g _ => by rw [B1 16 (by decide) (by decide)]) (fun g _ => by rw [B1 17 (by decide) (by decide)]) (mbx_fr A4.1.1 (B2 11 (by decide) (by decide) (by decide)) (B1 1 (by decide) (by decide)))
            refine ihr (c + 1) f5 w5 mm v1 (by omega) e1 t5 ⟨by rw [B1 16 (by decide) (by decide), A5]; omega, ?_⟩ (acc_c B3 ?_ (fun b => ?_) rfl rfl)
            · rw [B1 17 (by decide) (by decide), B1 14 (by decide) (by decide), y3]
              by_cases z : c = 0
              · refine Or.inl ⟨if_pos z, fun p hp => ?_⟩
                rw [y5 p hp, tq_up, if_neg (by omega)]
                omega
              · refine Or.inr ⟨if_neg z, by omega, by omega, fun p hp => ?_⟩
                rw [y5 p hp, tq_up]
                by_cases q : c = p + 1
                · rw [if_pos q, if_pos (by omega)]
                · rw [if_neg q, if_neg (by omega)]
            · rw [sN_s]
              show _ = _ + gb_cnt (gb_ub R U) (gb_nP R + 1) 0 (k + 1) (gb_up a k c)
              omega
            · refine ⟨fun z => ?_, fun z => ?_⟩
              · rcases z with z | ⟨c', hc', l, u⟩
                · exact Or.inl (Or.inl z)
                · by_cases q : c' = c
                  · rw [q] at l
                    have := lf1_0.mp l
                    exact Or.inr ⟨this, by rw [← this]; exact u⟩
                  · exact Or.inl (Or.inr ⟨c', by omega, l, u⟩)
              · rcases z with (z | ⟨c', hc', l, u⟩) | ⟨q, u⟩
                · exact Or.inl z
                · exact Or.inr ⟨c', by omega, l, u⟩
                · exact Or.inr ⟨c, by omega, lf1_0.mpr q, by rw [q]; exact u⟩
        · refine hm_if (fun _ => ?_) (fun z => absurd y1 z)
          rw [ms_tries_87, if_pos y1]
          obtain ⟨q1, q2⟩ := y4 (by omega)
          have no : ∀ b, gb_lf1 (gb_nP R + 1) 0 (k + 1) (gb_up a k c) b → ¬ gb_ub R U b := fun b l => ub_no hR hkG ⟨q1, by omega⟩ q2 l
          refine ihr (c + 1) f2 w2 mm v1 (by omega) e1 A4 ⟨by rw [A5]; omega, Or.inl ⟨y2, y3⟩⟩ ?_
          rw [A1]
          refine acc_c hA (by rw [sN_s, cn_0 no]; rfl) (fun b => ⟨fun z => ?_, fun z => ?_⟩) A2 A3
          · rcases z with z | ⟨c', hc', l, u⟩
            · exact Or.inl z
            · by_cases q : c' = c
              · rw [q] at l
                exact absurd u (no b l)
              · exact Or.inr ⟨c', by omega, l, u⟩
          · rcases z with z | ⟨c', hc', l, u⟩
            · exact Or.inl z
            · exact Or.inr ⟨c', by omega, l, u⟩
  | succ d ihd =>
    intro k a N0 M0 Q hk H r
    induction r with
    | zero =>
      intro c f w mm v1 hc e1 ht he hA
      cases mm with
      | zero => exact hm_none
      | succ mm =>
        rw [ms_tries_37]
        refine hm_if (fun y => absurd (gi_lt y) (by omega)) (fun _ => hm_bd (mh_next (by omega) (by omega) e1 ht iU he) (fun f2 w2 r2 A => ?_))
        obtain ⟨A1, A2, A3, A4, A5, A6⟩ := A
        rw [gi_tn e1]
        refine hm_ck (fun _ _ => hm_lt (fun x26 e26 => hm_bd (mx_paths A4.1.1) (fun f3 w3 r3 ⟨g1, g2, g3⟩ => ?_)))
        rw [g1, g2, g3]
        refine hm_if (fun y => absurd (gi_lt y) (by rw [e26]; omega)) (fun _ => hm_lt (fun x51 e51 => ?_))
        rcases A6 with y | ⟨y1, y2, y3, y4⟩
        · exact absurd y.2.1 (by omega)
        · refine H f2 w2 mm x51 (by rw [e51, gb_tadd (by omega) (by omega), m1]; omega) A4 y3 ?_
          rw [A1]
          refine acc_c hA (by rw [cn_s, show c = gb_nP R + 1 by omega]) (fun b => ?_) A2 A3
          rw [show c = gb_nP R + 1 by omega]
          refine ⟨fun z => z.elim Or.inl (fun z => ?_), fun z => z.elim Or.inl (fun z => ?_)⟩
          · obtain ⟨c', hc', l⟩ := lf1_x.mpr z.1
            exact Or.inr ⟨c', hc', l, z.2⟩
          · obtain ⟨c', hc', l, u⟩ := z
            exact Or.inr ⟨lf1_x.mp ⟨c', hc', l⟩, u⟩
    | succ r ihr =>
      intro c f w mm v1 hc e1 ht he hA
      cases mm with
      | zero => exact hm_none
      | succ mm =>
        have hkG : k < gb_nG R := by omega
        rw [ms_tries_37]
        refine hm_if (fun y => absurd (gi_lt y) (by omega)) (fun _ => hm_bd (mh_next hkG (by omega) e1 ht iU he) (fun f2 w2 r2 A => ?_))
        obtain ⟨A1, A2, A3, A4, A5, A6⟩ := A
        rw [gi_tn e1]
        refine hm_ck (fun _ _ => hm_lt (fun x26 e26 => hm_bd (mx_paths A4.1.1) (fun f3 w3 r3 ⟨g1, g2, g3⟩ => ?_)))
        rw [g1, g2, g3]
        refine hm_if (fun _ => ?_) (fun y => absurd (gi_nlt y) (by rw [e26]; omega))
        rcases A6 with ⟨y1, y2, y3, y4, y5⟩ | ⟨y1, y2, y3, y4⟩
        · refine hm_if (fun z => absurd (y1.symm.trans z) (by decide)) (fun _ => hm_bd (mx_geese A4.1.1) (fun f4 w4 r4 ⟨g1, g2, g3⟩ => ?_))
          rw [g1, g2, g3]
          refine hm_if (fun z => ?_) (fun _ => ?_)
          · have : v1.toInt = (gb_nG R : Int) - 1 := by
              rw [z, gb_tsub (by omega) (by omega), rG, z1]
            omega
          · rw [ms_tries_87, if_neg (fun z => absurd (y1.symm.trans z) (by decide)), b0]
            refine hm_lt (fun x35 e35 => ?_)
            have E35 : x35.toInt = ((k + 1 : Nat) : Int) := gi_1 e1 (by omega) e35
            rw [gi_tn E35]
            refine hm_ck (fun _ _ => hm_lt (fun f37 e37 => hm_ck (fun _ _ => hm_lt (fun f39 e39 => ?_))))
            have o : ∀ q, q ≠ 16 → q ≠ 17 → f39 q = f2 q := fun q h1 h2 => by
              rw [e39, gb_un h2, e37, gb_un h1]
            have o16 : ∀ g, g ≠ k + 1 → f39 16 g = f2 16 g := fun g hg => by
              rw [e39, gb_un (by decide), e37, gb_us, pk_un hg]
            have o17 : ∀ g, g ≠ k + 1 → f39 17 g = f2 17 g := fun g hg => by
              rw [e39, gb_us, pk_un hg, e37, gb_un (by decide)]
            have t39 : gb_tst R U m (k + 1) (gb_up a k c) f39 := by
              refine ⟨⟨mbx_fr A4.1.1 (by rw [o 0 (by decide) (by decide)]) (o 1 (by decide) (by decide)), fun g p hg hp => by rw [o 13 (by decide) (by decide)]; exact A4.1.2 g p hg hp⟩, fun p hp => by rw [o 15 (by decide) (by decide)]; exact A4.2.1 p hp, fun g hg => ?_⟩
              rw [o16 g (by omega), o17 g (by omega)]
              by_cases z : g = k
              · rw [z, up_s]
                exact ⟨A5, y3, y2, y4⟩
              · rw [up_n z]
                exact A4.2.2 g (by omega)
            refine ihd (k + 1) (gb_up a k c) (N0 + gb_sN c (fun c => gb_cnt (gb_ub R U) (gb_nP R + 1) (d + 1) (k + 1) (gb_up a k c))) (fun b => M0 b ∨ ∃ c', c' < c ∧ gb_lf1 (gb_nP R + 1) (d + 1) (k + 1) (gb_up a k c') b ∧ gb_ub R U b) Q (by omega) (fun f' w' mm' v ev t' s' a' => ?_) (gb_nP R + 1) 0 f39 w2 mm x35 (by omega) E35 t39 ⟨?_, Or.inl ⟨?_, fun p hp => ?_⟩⟩ ?_
            · have t5 : gb_tst R U m k a f' := ⟨t'.1, t'.2.1, fun g hg => by
                have := t'.2.2 g (by omega)
                rw [up_n (by omega)] at this
                exact this⟩
              have tk := t'.2.2 k (by omega)
              rw [up_s] at tk
              refine ihr (c + 1) f' w' mm' v (by omega) (by rw [ev]; omega) t5 ⟨by rw [tk.1]; omega, ?_⟩ (acc_c a' ?_ (fun b => ?_) rfl rfl)
              · rw [tk.2.1]
                by_cases z : c = 0
                · refine Or.inl ⟨if_pos z, fun p hp => ?_⟩
                  rw [s' p hp, tq_up, if_neg (by omega)]
                  omega
                · refine Or.inr ⟨if_neg z, by omega, by omega, fun p hp => ?_⟩
                  rw [s' p hp, tq_up]
                  by_cases q : c = p + 1
                  · rw [if_pos q, if_pos (by omega)]
                  · rw [if_neg q, if_neg (by omega)]
              · rw [sN_s]
                omega
              · refine ⟨fun z => ?_, fun z => ?_⟩
                · rcases z with z | ⟨c', hc', l, u⟩
                  · exact Or.inl (Or.inl z)
                  · by_cases q : c' = c
                    · rw [q] at l
                      exact Or.inr ⟨l, u⟩
                    · exact Or.inl (Or.inr ⟨c', by omega, l, u⟩)
                · rcases z with (z | ⟨c', hc', l, u⟩) | ⟨l, u⟩
                  · exact Or.inl z
                  · exact Or.inr ⟨c', by omega, l, u⟩
                  · exact Or.inr ⟨c, by omega, l, u⟩
            · rw [e39, gb_un (by decide), e37, gb_us, pk_us, m2]
              rfl
            · rw [e39, gb_us, pk_us]
            · rw [o 14 (by decide) (by decide)]
              exact y5 p hp
            · rw [A1]
              exact acc_c hA rfl (fun b => ⟨fun z => z.elim (fun z => z) (fun ⟨c', hc', _⟩ => absurd hc' (Nat.not_lt_zero c')), Or.inl⟩) ((o 0 (by decide) (by decide)).trans A2) ((o 18 (by decide) (by decide)).trans A3)
        · refine hm_if (fun _ => ?_) (fun z => absurd y1 z)
          rw [ms_tries_87, if_pos y1]
          obtain ⟨q1, q2⟩ := y4 (by omega)
          have no : ∀ b, gb_lf1 (gb_nP R + 1) (d + 1) (k + 1) (gb_up a k c) b → ¬ gb_ub R U b := fun b l => ub_no hR hkG ⟨q1, by omega⟩ q2 l
          refine ihr (c + 1) f2 w2 mm v1 (by omega) e1 A4 ⟨by rw [A5]; omega, Or.inl ⟨y2, y3⟩⟩ ?_
          rw [A1]
          refine acc_c hA (by rw [sN_s, cn_0 no]; rfl) (fun b => ⟨fun z => ?_, fun z => ?_⟩) A2 A3
          · rcases z with z | ⟨c', hc', l, u⟩
            · exact Or.inl z
            · by_cases q : c' = c
              · rw [q] at l
                exact absurd u (no b l)
              · exact Or.inr ⟨c', by omega, l, u⟩
          · rcases z with z | ⟨c', hc', l, u⟩
            · exact Or.inl z
            · exact Or.inr ⟨c', by omega, l, u⟩
/-! THE TRIES BEGIN -/
theorem mh_op95 {n : Nat} {f0 : gb_F} {w : Int64} : ∀ (mm : Nat) (f : gb_F) (v1 : Int32) (k : Nat), v1.toInt = k → k ≤ 8 → (∀ q, q ≠ 18 → f q = f0 q) → (∀ g, g < k → f 18 g = 0) → gb_hm (ms_opens_95 n mm f w v1) (fun f2 w2 _ => w2 = w ∧ (∀ q, q ≠ 18 → f2 q = f0 q) ∧ ∀ g, g < 8 → f2 18 g = 0) := by
  have z8 : (8 : Int32).toInt = 8 := by decide
  intro mm
  induction mm with
  | zero =>
    intros
    exact hm_none
  | succ mm ih =>
    intro f v1 k e hk hf hz
    rw [ms_opens_95, gi_tn e]
    refine hm_if (fun c => hm_some ⟨rfl, hf, fun g hg => hz g ?_⟩) (fun c => hm_ck (fun _ _ => hm_lt (fun f2 e2 => hm_lt (fun x ex => ih f2 x (k + 1) (gi_1 e (by omega) ex) ?_ (fun q hq => ?_) (fun g hg => ?_)))))
    · have := gi_le c
      omega
    · have := gi_nle c
      omega
    · rw [e2, gb_un hq]
      exact hf q hq
    · rw [e2, gb_us]
      by_cases z : g = k
      · rw [z, pk_us]
      · rw [pk_un z]
        exact hz g (by omega)
def gb_opn (R DR : Nat → Int32) (f0 f2 : gb_F) (w2 : Int64) : Prop := w2 = 0 ∧ (∀ q, q ≠ 0 → q ≠ 15 → q ≠ 18 → f2 q = f0 q) ∧ (∀ j, j ≠ 34 → j ≠ 35 → j ≠ 36 → f2 0 j = f0 0 j) ∧ f2 0 34 = 99 ∧ f2 0 35 = 0 ∧ f2 0 36 = ((1 : Int32) <<< ((R 1) &&& 31)) - 1 ∧ (∀ g, g < 8 → f2 18 g = 0) ∧ gb_du DR (f2 15)
theorem mh_op29 {n m : Nat} {R DR : Nat → Int32} {f0 : gb_F} (hb : gb_mbx m R f0) (hd : gb_mdawn DR f0) (ra : ∀ j, j < 11 → gb_iv (gt_R 3 j).1 (gt_R 3 j).2 (DR j)) (nd : ¬ gb_dup DR) : ∀ (mm : Nat) (f : gb_F) (w : Int64) (v1 : Int32) (i : Nat), v1.toInt = i → i ≤ gb_fnD DR → (∀ q, q ≠ 15 → f q = f0 q) → (∀ j, j < i → f 15 (gb_fpa DR j) = DR (2 + 2 * j)) → (∀ p, p < 5 → (∀ j, j < i → ¬ gb_fpa DR j = p) → f 15 p = -1) → gb_hm (ms_opens_29 n mm f w v1) (fun f2 w2 _ => gb_opn R DR f0 f2 w2) := by
  have z0 : (0 : Int32).toInt = ((0 : Nat) : Int) := by decide
  have z1 : (1 : Int32).toInt = ((1 : Nat) : Int) := by decide
  have r0 := (raD_m (k := 0) ra (by decide)).2.2
  have r01 := r0.1
  have r02 := r0.2
  have eN : (DR 0).toInt = gb_fnD DR := by
    unfold gb_fnD
    omega
  intro mm
  induction mm with
  | zero =>
    intros
    exact hm_none
  | succ mm ih =>
    intro f w v1 i e hi hf h1 h2
    have e0 := hf 0 (by decide)
    have e1 := hf 1 (by decide)
    have hbf : gb_mbx m R f := mbx_fr hb (by rw [e0]) e1
    have hdf : gb_mdawn DR f := mdawn_fr hd (by rw [e0]) e1
    rw [ms_opens_29, mx_ndawn hdf]
    refine hm_ck (fun _ _ => hm_lt (fun x3 e3 => hm_if (fun c => ?_) (fun c => ?_)))
    · have c' := gi_le c
      rw [e3, eN] at c'
      have ei : i = gb_fnD DR := by omega
      refine hm_lt (fun w5 e5 => hm_lt (fun f6 e6 => hm_lt (fun f7 e7 => ?_)))
      have o7 : ∀ q, q ≠ 0 → f7 q = f q := fun q hq => by
        rw [e7, gb_un hq, e6, gb_un hq]
      have o70 : ∀ j, j ≠ 34 → j ≠ 35 → f7 0 j = f 0 j := fun j a b => by
        rw [e7, gb_us, pk_un b, e6, gb_us, pk_un a]
      have x34 : f7 0 34 = 99 := by
        rw [e7, gb_us, pk_un (by decide), e6, gb_us, pk_us]
      have x35 : f7 0 35 = 0 := by
        rw [e7, gb_us, pk_us]
      refine hm_bd (mx_geese (mbx_fr hbf (o70 11 (by decide) (by decide)) (o7 1 (by decide)))) (fun f8 w8 r8 ⟨g1, g2, g3⟩ => ?_)
      rw [g1, g2, g3]
      refine hm_lt (fun f13 e13 => hm_mono (mh_op95 n f13 0 0 (by decide) (by decide) (fun _ _ => rfl) (fun g hg => absurd hg (Nat.not_lt_zero g))) (fun f2 w2 _ ⟨q1, q2, q3⟩ => ?_))
      refine ⟨q1.trans e5, fun q a b d => ?_, fun j a b d => ?_, ?_, ?_, ?_, q3, ?_⟩
      · rw [q2 q d, e13, gb_un a, o7 q a]
        exact hf q b
      · rw [q2 0 (by decide), e13, gb_us, pk_un d, o70 j a b, e0]
      · rw [q2 0 (by decide), e13, gb_us, pk_un (by decide)]
        exact x34
      · rw [q2 0 (by decide), e13, gb_us, pk_un (by decide)]
        exact x35
      · rw [q2 0 (by decide), e13, gb_us, pk_us]
      · have e15 : f2 15 = f 15 := by
          rw [q2 15 (by decide), e13, gb_un (by decide), o7 15 (by decide)]
        rw [e15]
        exact ⟨fun j hj => h1 j (by omega), fun p hp hn => h2 p hp (fun j hj => hn j (by omega))⟩
    · have c' := gi_nle c
      rw [e3, eN] at c'
      have il : i < gb_fnD DR := by omega
      have rk := raD_m (k := i) ra (by omega)
      have rk1 := rk.1.1
      have rk2 := rk.1.2
      refine hm_bd (mx_seenOf hdf e (by omega) z0 (by decide)) (fun f18 w18 r20 ⟨g1, g2, g3⟩ => ?_)
      rw [g1, g2]
      refine hm_bd (mx_seenOf hdf e (by omega) z1 (by decide)) (fun f23 w23 r25 ⟨g4, g5, g6⟩ => ?_)
      rw [g4, g5]
      have ep : r20.toInt = gb_fpa DR i := by
        rw [g3]
        unfold gb_fpa
        rw [Nat.add_zero]
        omega
      have em : r25 = DR (2 + 2 * i) := by
        rw [g6, show 1 + 2 * i + 1 = 2 + 2 * i by omega]
      have hne : ∀ j, j < i → ¬ gb_fpa DR j = gb_fpa DR i := fun j hj z => nd ⟨j, i, hj, by unfold gb_fnD at il; exact il, by
        have rj := raD_m (k := j) ra (by omega)
        have := rj.1.1
        unfold gb_fpa at z
        exact gb_ieq (by omega)⟩
      rw [gi_tn ep]
      refine hm_ck (fun _ _ => hm_lt (fun f29 e29 => hm_lt (fun x ex => ih f29 w x (i + 1) (gi_1 e (by omega) ex) (by omega) (fun q hq => ?_) (fun j hj => ?_) (fun p hp hn => ?_))))
      · rw [e29, gb_un hq]
        exact hf q hq
      · rw [e29, gb_us]
        by_cases z : j = i
        · rw [z, pk_us]
          exact em
        · rw [pk_un (hne j (by omega))]
          exact h1 j (by omega)
      · rw [e29, gb_us, pk_un (fun z => hn i (by omega) z.symm)]
        exact h2 p hp (fun j hj => hn j (by omega))
theorem mh_op2 {n m : Nat} {R DR : Nat → Int32} {f0 : gb_F} (hb : gb_mbx m R f0) (hd : gb_mdawn DR f0) (ra : ∀ j, j < 11 → gb_iv (gt_R 3 j).1 (gt_R 3 j).2 (DR j)) (nd : ¬ gb_dup DR) : ∀ (mm : Nat) (f : gb_F) (w : Int64) (v1 : Int32) (k : Nat), v1.toInt = k → k ≤ 5 → (∀ q, q ≠ 14 → q ≠ 15 → f q = f0 q) → (∀ p, p < k → f 14 p = 0 ∧ f 15 p = -1) → gb_hm (ms_opens_2 n mm f w v1) (fun f2 w2 _ => ∃ f1, (∀ q, q ≠ 14 → q ≠ 15 → f1 q = f0 q) ∧ (∀ p, p < 5 → f1 14 p = 0) ∧ gb_opn R DR f1 f2 w2) := by
  have z5 : (5 : Int32).toInt = 5 := by decide
  intro mm
  induction mm with
  | zero =>
    intros
    exact hm_none
  | succ mm ih =>
    intro f w v1 k e hk hf hz
    rw [ms_opens_2, gi_tn e]
    refine hm_if (fun c => ?_) (fun c => hm_ck (fun _ _ => hm_lt (fun f32 e32 => hm_ck (fun _ _ => hm_lt (fun f34 e34 => hm_lt (fun x ex => ih f34 w x (k + 1) (gi_1 e (by omega) ex) ?_ (fun q a b => ?_) (fun p hp => ?_)))))))
    · have c' := gi_le c
      have e0 := hf 0 (by decide) (by decide)
      have e1 := hf 1 (by decide) (by decide)
      exact hm_mono (mh_op29 (mbx_fr hb (by rw [e0]) e1) (mdawn_fr hd (by rw [e0]) e1) ra nd n f w 0 0 (by decide) (Nat.zero_le _) (fun _ _ => rfl) (fun j hj => absurd hj (Nat.not_lt_zero j)) (fun p hp _ => (hz p (by omega)).2)) (fun f2 w2 _ h => ⟨f, hf, fun p hp => (hz p (by omega)).1, h⟩)
    · have := gi_nle c
      omega
    · rw [e34, gb_un a, e32, gb_un b]
      exact hf q a b
    · by_cases z : p = k
      · rw [z]
        refine ⟨?_, ?_⟩
        · rw [e34, gb_us, pk_us]
        · rw [e34, gb_un (by decide), e32, gb_us, pk_us]
      · refine ⟨?_, ?_⟩
        · rw [e34, gb_us, pk_un z, e32, gb_un (by decide)]
          exact (hz p (by omega)).1
        · rw [e34, gb_un (by decide), e32, gb_us, pk_un z]
          exact (hz p (by omega)).2
theorem tb_fu1 : ∀ G : Fin 9, ∀ i : Fin 32, gb_tbt (((1 : Int32) <<< ((Int32.ofNat G.val) &&& 31)) - 1) i.val = decide (i.val < G.val) := by decide
theorem tb_fu {x : Int32} {G : Nat} (e : x.toInt = G) (hG : G ≤ 8) (i : Nat) : gb_tbt (((1 : Int32) <<< (x &&& 31)) - 1) i = true ↔ i < G := by
  have ev : x = Int32.ofNat G := gi_nI e (by omega)
  by_cases c : i < 32
  · rw [ev, tb_fu1 ⟨G, by omega⟩ ⟨i, c⟩]
    exact decide_eq_true_iff
  · unfold gb_tbt
    rw [BitVec.getLsbD_of_ge _ _ (by omega)]
    exact ⟨fun h => absurd h (by decide), fun h => absurd h (by omega)⟩
def gb_vld (R DR : Nat → Int32) (b : Nat → Nat) : Prop := gb_lf1 (gb_nP R + 1) (gb_nG R) 0 (fun _ => 0) b ∧ gb_fi R DR none (gb_fnD DR) b
theorem mh_tries {n m : Nat} {R DR : Nat → Int32} {f : gb_F} {w : Int64} (hb : gb_mbx m R f) (hd : gb_mdawn DR f) (ra : ∀ j, j < 11 → gb_iv (gt_R 3 j).1 (gt_R 3 j).2 (DR j)) (nd : ¬ gb_dup DR) : gb_hm (ms_tries n f w) (fun f2 w2 _ => gb_acc R (gb_Zy R DR none (gb_fnD DR)) (gb_vld R DR) f2 w2) := by
  have z0 : (0 : Int32).toInt = 0 := by decide
  have m1 : (-1 : Int32).toInt = -1 := by decide
  have m2 : (-2 : Int32).toInt = -2 := by decide
  have b0 : vp_nar .boolean 0 = 0 := by decide
  have t0 : Int32.toNatClampNeg 0 = 0 := by decide
  have hR := mbx_rB hb
  have h5 := (rB_nP hR).2
  have h8 := (rB_nG hR).2
  have rG := (rB_nG hR).1
  unfold ms_tries ms_opens
  rw [b0, t0]
  refine hm_bd (mh_measures hb) (fun f1 w1 _ ⟨a1, a2, a3⟩ => ?_)
  have hd1 : gb_mdawn DR f1 := mdawn_fr hd (by rw [a2 0 (by decide)]) (a2 1 (by decide))
  refine hm_bd (mh_op2 a1 hd1 ra nd n f1 w1 0 0 (by decide) (by decide) (fun _ _ _ => rfl) (fun p hp => absurd hp (Nat.not_lt_zero p))) (fun f6 w6 _ ⟨f5, c1, c2, o⟩ => ?_)
  obtain ⟨o1, o2, o3, o4, o5, o6, o7, o8⟩ := o
  have hb6 : gb_mbx m R f6 := mbx_fr a1 (by rw [o3 11 (by decide) (by decide) (by decide), c1 0 (by decide) (by decide)]) (by rw [o2 1 (by decide) (by decide) (by decide), c1 1 (by decide) (by decide)])
  have me6 : gb_meas R f6 := fun g p hg hp => by
    rw [o2 13 (by decide) (by decide) (by decide), c1 13 (by decide) (by decide)]
    exact a3 g p hg hp
  have s6 : ∀ p, p < 5 → (f6 14 p).toInt = 0 := fun p hp => by
    rw [o2 14 (by decide) (by decide) (by decide), c2 p hp]
    exact z0
  have iU : ∀ p, p < 5 → gb_iv (-1) 999 (f6 15 p) := fun p hp => by
    by_cases c : ∃ i, i < gb_fnD DR ∧ gb_fpa DR i = p
    · obtain ⟨i, hi, e⟩ := c
      have r0 := (raD_m (k := 0) ra (by decide)).2.2
      have r02 := r0.2
      have rk := raD_m (k := i) ra (by unfold gb_fnD at hi; omega)
      have q1 := rk.2.1.1
      have q2 := rk.2.1.2
      rw [← e, o8.1 i hi]
      exact ⟨by omega, by omega⟩
    · rw [o8.2 p hp (fun i hi e => c ⟨i, hi, e⟩)]
      exact ⟨by rw [m1]; omega, by rw [m1]; omega⟩
  have acc0 : gb_acc R 0 (fun _ => False) f6 w6 := by
    refine ⟨o1, ⟨fun a h => h.elim, Or.inl ⟨fun a h => h, o4⟩⟩, ⟨fun a h => h.elim, Or.inl ⟨fun a h => h, o5⟩⟩, fun i => ?_, fun g hg i => ?_⟩
    · rw [o6, tb_fu rG h8]
      exact ⟨fun h => ⟨h, fun a z => z.elim⟩, fun h => h.1⟩
    · rw [o7 g (by omega), tb_z]
      exact ⟨fun h => absurd h (by decide), fun ⟨a, h, _⟩ => h.elim⟩
  have eq : ∀ b, gb_lf1 (gb_nP R + 1) (gb_nG R) 0 (fun _ => 0) b → (gb_ub R (f6 15) b ↔ gb_fi R DR none (gb_fnD DR) b) := fun b l => ub_fi hR ra o8 (fun g hg => l.1 g (by omega) (by omega))
  have fin : ∀ (f2 : gb_F) (w2 : Int64), gb_acc R (0 + gb_cnt (gb_ub R (f6 15)) (gb_nP R + 1) (gb_nG R) 0 (fun _ => 0)) (fun b => False ∨ (gb_lf1 (gb_nP R + 1) (gb_nG R) 0 (fun _ => 0) b ∧ gb_ub R (f6 15) b)) f2 w2 → gb_acc R (gb_Zy R DR none (gb_fnD DR)) (gb_vld R DR) f2 w2 := fun f2 w2 h => acc_c h (by rw [Nat.zero_add]; exact (cn_c eq).symm) (fun b => ⟨fun z => Or.inr ⟨z.1, (eq b z.1).mpr z.2⟩, fun z => z.elim (fun z => z.elim) (fun z => ⟨z.1, (eq b z.1).mp z.2⟩)⟩) rfl rfl
  refine hm_bd (mx_geese hb6) (fun f7 w7 r7 ⟨g1, g2, g3⟩ => ?_)
  rw [g1, g2, g3]
  refine hm_if (fun c => ?_) (fun c => ?_)
  · have G0 : gb_nG R = 0 := by
      rw [c, z0] at rG
      omega
    have no : ∀ g, ¬ g < gb_nG R := fun g => by omega
    refine hm_bd (mh_counts (a := fun _ => 0) (U := f6 15) (N := 0) (M := fun _ => False) hb6 (fun _ _ => rfl) (fun g hg => absurd hg (no g)) (fun p hp => by rw [s6 p hp, G0]; rfl) (fun g hg => absurd hg (no g)) (fun g hg => absurd hg (no g)) acc0) (fun f2 w2 _ B => hm_some (fin f2 w2 ?_))
    refine acc_c B.2.2 (by rw [G0]; rfl) (fun b => ⟨fun z => z.elim Or.inl (fun z => Or.inr ?_), fun z => z.elim Or.inl (fun z => Or.inr ?_)⟩) rfl rfl
    · rw [G0] at z
      have := lf1_0.mp z.1
      exact ⟨this, by rw [← this]; exact z.2⟩
    · rw [G0]
      exact ⟨lf1_0.mpr z.1, by rw [z.1]; exact z.2⟩
  · have G1 : 0 < gb_nG R := by
      refine Nat.pos_of_ne_zero (fun z => c (gb_ieq ?_))
      rw [rG, z, z0]
      rfl
    refine hm_lt (fun f17 e17 => hm_lt (fun f18 e18 => ?_))
    have o' : ∀ q, q ≠ 16 → q ≠ 17 → f18 q = f6 q := fun q h1 h2 => by
      rw [e18, gb_un h2, e17, gb_un h1]
    have t18 : gb_tst R (f6 15) m 0 (fun _ => 0) f18 := ⟨⟨mbx_fr hb6 (by rw [o' 0 (by decide) (by decide)]) (o' 1 (by decide) (by decide)), fun g p hg hp => by rw [o' 13 (by decide) (by decide)]; exact me6 g p hg hp⟩, fun p hp => by rw [o' 15 (by decide) (by decide)], fun g hg => absurd hg (Nat.not_lt_zero g)⟩
    have eG : gb_nG R - 1 + 1 = gb_nG R := by omega
    refine mh_dfs hR iU (gb_nG R - 1) 0 (fun _ => 0) 0 (fun _ => False) _ (by omega) (fun f2 w2 mm v ev _ _ hA => ?_) (gb_nP R + 1) 0 f18 w6 n 0 (by omega) (by decide) t18 ⟨?_, Or.inl ⟨?_, fun p hp => ?_⟩⟩ (acc_c acc0 rfl (fun b => ⟨fun z => z.elim (fun z => z) (fun ⟨c', hc', _⟩ => absurd hc' (Nat.not_lt_zero c')), Or.inl⟩) (o' 0 (by decide) (by decide)) (o' 18 (by decide) (by decide)))
    · rw [eG] at hA
      cases mm with
      | zero => exact hm_none
      | succ mm =>
        rw [ms_tries_37]
        refine hm_if (fun _ => hm_some (fin f2 w2 hA)) (fun y => absurd (gi_nlt y) (by omega))
    · rw [e18, gb_un (by decide), e17, gb_us, pk_us, m2]
      rfl
    · rw [e18, gb_us, pk_us]
    · rw [o' 14 (by decide) (by decide), s6 p hp]
      rfl
/-! FITS -/
theorem cy_dawn {n : Nat} {σ : gb_S} {f : gb_F} {p1 : Int32} (h : gb_R σ f) (hM : gb_TM f) : gb_hc (cs_Face_dawnAt n σ p1) (fun s r => s = σ ∧ ((r = 0 ∧ ¬ gb_i0 p1 (f 1 3)) ∨ (r ≠ 0 ∧ gb_i0 p1 (f 1 3) ∧ gb_RS 3 (σ.1 (r + 1)) (gb_Rs 3 f p1) ∧ r + 1 < 109))) := by
  refine hc_mono (hc_and (cx_dawn h hM) ch_dawnAt) (fun s r g => ⟨g.1.1, ?_⟩)
  obtain ⟨⟨-, g1⟩, -, g2⟩ := g
  rcases g1 with z | z
  · exact Or.inl z
  · rcases g2 with y | ⟨m, y1, y2, y3, y4⟩
    · exact absurd y.1 z.1
    · exact Or.inr ⟨z.1, z.2.1, z.2.2.1, by rw [y3]; exact o_lt (by decide) y2⟩
theorem DD_R {f : gb_F} {p1 : Int32} (hM : gb_TM f) (hD : gb_DD f) (h : gb_i0 p1 (f 1 3)) : ¬ gb_dup (gb_Rs 3 f p1) := by
  have i := (hl_0 hM.2 (s := 3) (by decide)).2
  have d := hD 0 p1.toInt.toNat (by decide) (by have := h.1; have := h.2; omega)
  have e : (fun j => f 1 (992 * 0 + gb_pl 3 p1.toInt.toNat + j)) = gb_Rs 3 f p1 := by
    funext j
    unfold gb_Rs
    rw [Nat.mul_zero, Nat.zero_add]
  rw [e] at d
  exact d
def gb_qft (f : gb_F) (p1 p2 : Int32) : Int → Prop := gb_ifn (gb_i0 p1 (f 1 0) ∧ gb_i0 p2 (f 1 3)) (fun z => z = ((gb_Zy (gb_Rs 0 f p1) (gb_Rs 3 f p2) none (gb_fnD (gb_Rs 3 f p2)) : Nat) : Int))
theorem c_fits {n : Nat} {σ : gb_S} {f : gb_F} {p1 p2 : Int32} (h : gb_R σ f) (hM : gb_TM f) (hD : gb_DD f) (hJ : gb_JJ σ) : gb_hc (cs_Face_fits n σ p1 p2) (fun _ r => gb_qft f p1 p2 r.toInt) := by
  have m1 : (-1 : Int64).toInt = -1 := by decide
  unfold cs_Face_fits gb_qft
  refine hc_cd (cy_border h hM) (fun s r g => ?_)
  obtain ⟨g0, g⟩ := g
  subst s
  refine hc_if (fun c => ?_) (fun c => ?_)
  · have nb : ¬ (gb_i0 p1 (f 1 0) ∧ gb_i0 p2 (f 1 3)) := fun z => by
      rcases g with y | y
      · exact y.2 z.1
      · exact y.1 c
    refine hc_cd (cy_dawn h hM) (fun s r2 g2 => ?_)
    exact hc_if (fun _ => hc_some (ifn_n nb m1)) (fun _ => hc_kk (fun _ => hc_some (ifn_n nb m1)))
  · rcases g with y | ⟨y1, y2, y3, y4, y5⟩
    · exact absurd y.1 c
    refine hc_kk (fun _ => hc_cd (cy_dawn h hM) (fun s r2 g2 => ?_))
    obtain ⟨g0, g2⟩ := g2
    subst s
    refine hc_if (fun c2 => hc_some (ifn_n (fun z => ?_) m1)) (fun c2 => hc_kk (fun _ => ?_))
    · rcases g2 with y | y
      · exact y.2 z.2
      · exact y.1 c2
    rcases g2 with z | ⟨w1, w2, w3, w4⟩
    · exact absurd z.1 c2
    refine hc_cd (ch_find (q := none) y4 y5 w4 y3 w3 (raD_of hM w2) (DD_R hM hD w2) hJ (Or.inl ⟨rfl, rfl, rfl⟩)) (fun s _ g => hc_cd (ch_all y4 g) (fun s2 r3 g3 => hc_some (ifn_y ⟨y2, w2⟩ g3.2)))
theorem Zy_b {R DR : Nat → Int32} {q : Option (Nat × Nat)} {i : Nat} (hR : gb_rB R) : gb_Zy R DR q i ≤ 2000000 := by
  have h5 := (rB_nP hR).2
  have h8 := (rB_nG hR).2
  have l : gb_Zy R DR q i ≤ (gb_nP R + 1) ^ gb_nG R := cn_le _ _ _
  have l2 : (gb_nP R + 1) ^ gb_nG R ≤ 6 ^ gb_nG R := Nat.pow_le_pow_left (by omega) _
  have l3 : 6 ^ gb_nG R ≤ 6 ^ 8 := Nat.pow_le_pow_right (by decide) h8
  have l4 : (6 : Nat) ^ 8 = 1679616 := by decide
  omega
theorem of_64 {N : Nat} (h : N ≤ 1000000000) : (Int64.ofNat N).toInt = N := by
  refine Int64.toInt_ofNat_of_lt ?_
  have : (2 : Nat) ^ 63 = 9223372036854775808 := by decide
  omega
theorem m_fits {n : Nat} {f : gb_F} {w : Int64} {p1 p2 : Int32} (hM : gb_TM f) (hD : gb_DD f) : gb_hm (ms_fits n f w p1 p2) (fun _ _ q => gb_qft f p1 p2 q.toInt) := by
  have m1 : (-1 : Int64).toInt = -1 := by decide
  unfold ms_fits gb_qft
  refine hm_bd (mh_areSeen hM) (fun f1 w1 r g => ?_)
  refine hm_if (fun c => hm_some (ifn_n (yn_0 g c) m1)) (fun c => ?_)
  obtain ⟨bo, hM1, e1, md, m, mb⟩ := yn_1 g c
  refine hm_bd (mh_tries mb md (raD_of hM bo.2) (DD_R hM hD bo.2)) (fun f2 w2 _ A => hm_some (ifn_y bo ?_))
  rw [A.1, of_64 (by have := Zy_b (DR := gb_Rs 3 f p2) (q := none) (i := gb_fnD (gb_Rs 3 f p2)) (mbx_rB mb); omega)]
theorem e_fits {σ σ2 : gb_S} {f f2 : gb_F} {w w2 : Int64} {p1 p2 : Int32} {ra qa : Int64} (_ : gb_TC σ) (hM : gb_TM f) (h : gb_R σ f) (hD : gb_DD f) (hJ : gb_JJ σ) (ec : cs_Face_fits gb_N σ p1 p2 = some (σ2, ra)) (em : ms_fits gb_N f w p1 p2 = some (f2, w2, qa)) : ra = qa := Int64.toInt_inj.mp (ifn_uq (fun _ _ x y => x.trans y.symm) (c_fits h hM hD hJ _ _ ec) (m_fits hM hD _ _ _ em))
