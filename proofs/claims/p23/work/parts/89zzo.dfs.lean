/-! THE NEXT CHOICE OF A GOOSE -/
def gb_tst (R U : Nat → Int32) (m k : Nat) (a : Nat → Nat) (f : gb_F) : Prop := gb_dM R m f ∧ (∀ p, p < 5 → f 15 p = U p) ∧ ∀ g, g < k → (f 16 g).toInt = (a g : Int) - 1 ∧ (f 17 g = if a g = 0 then 0 else 1) ∧ a g ≤ gb_nP R ∧ (¬ a g = 0 → ¬ U (a g - 1) = -1)
theorem tst_k {R U : Nat → Int32} {m k : Nat} {a : Nat → Nat} {f f2 : gb_F} (h : gb_tst R U m k a f) (e0 : f2 0 11 = f 0 11) (e1 : f2 1 = f 1) (e2 : f2 2 = f 2) (e13 : f2 13 = f 13) (e15 : f2 15 = f 15) (e16 : ∀ g, g < k → f2 16 g = f 16 g) (e17 : ∀ g, g < k → f2 17 g = f 17 g) (hm : gb_mbx m R f2) : gb_tst R U m k a f2 := ⟨⟨hm, fun g p hg hp => by rw [e13]; exact h.1.2 g p hg hp⟩, fun p hp => by rw [e15]; exact h.2.1 p hp, fun g hg => by rw [e16 g hg, e17 g hg]; exact h.2.2 g hg⟩
def gb_ent (R : Nat → Int32) (k : Nat) (a : Nat → Nat) (c : Nat) (f : gb_F) : Prop := (f 16 k).toInt = (c : Int) - 2 ∧ ((f 17 k = 0 ∧ ∀ p, p < 5 → (f 14 p).toInt = gb_tq R a p k) ∨ (f 17 k = 1 ∧ 2 ≤ c ∧ c ≤ gb_nP R + 1 ∧ ∀ p, p < 5 → (f 14 p).toInt = gb_tq R a p k + if p + 2 = c then gb_fM R p k else 0))
def gb_aft (R U : Nat → Int32) (m k : Nat) (a : Nat → Nat) (c : Nat) (f : gb_F) (w : Int64) (f2 : gb_F) (w2 : Int64) (r : Int32) : Prop := w2 = w ∧ f2 0 = f 0 ∧ f2 18 = f 18 ∧ gb_tst R U m k a f2 ∧ (f2 16 k).toInt = (c : Int) - 1 ∧ ((r = 1 ∧ c ≤ gb_nP R ∧ (f2 17 k = if c = 0 then 0 else 1) ∧ (¬ c = 0 → ¬ U (c - 1) = -1) ∧ ∀ p, p < 5 → (f2 14 p).toInt = gb_tq R (gb_up a k c) p (k + 1)) ∨ (r = 0 ∧ f2 17 k = 0 ∧ (∀ p, p < 5 → (f2 14 p).toInt = gb_tq R a p k) ∧ (c ≤ gb_nP R → 1 ≤ c ∧ (U (c - 1) = -1 ∨ (U (c - 1)).toInt < gb_tq R a (c - 1) k + gb_fM R (c - 1) k))))
theorem tq_up {R : Nat → Int32} {a : Nat → Nat} {p k c : Nat} : gb_tq R (gb_up a k c) p (k + 1) = gb_tq R a p k + if c = p + 1 then gb_fM R p k else 0 := by
  rw [tq_1, up_s, tq_c (b := a) k (fun g hg => by rw [up_n (by omega)])]
theorem mh_next38 {n m k c : Nat} {R U : Nat → Int32} {a : Nat → Nat} {f : gb_F} {w : Int64} {v1 : Int32} (hk : k < gb_nG R) (hc : c ≤ gb_nP R + 1) (e1 : v1.toInt = k) (ht : gb_tst R U m k a f) (iU : ∀ p, p < 5 → gb_iv (-1) 999 (U p)) (e16 : (f 16 k).toInt = (c : Int) - 2) (h14 : ∀ p, p < 5 → (f 14 p).toInt = gb_tq R a p k) : gb_hm (ms_isNext_38 n f w v1) (fun f2 w2 r => gb_aft R U m k a c f w f2 w2 r) := by
  have b0 : vp_nar .boolean 0 = 0 := by decide
  have b1 : vp_nar .boolean 1 = 1 := by decide
  have z0 : (0 : Int32).toInt = 0 := by decide
  have z1 : (1 : Int32).toInt = 1 := by decide
  have hR := mbx_rB ht.1.1
  have h5 := (rB_nP hR).2
  have h8 := (rB_nG hR).2
  have rP := (rB_nP hR).1
  unfold ms_isNext_38
  rw [b0, b1, gi_tn e1]
  refine hm_ck (fun _ _ => hm_lt (fun f5 e5 => hm_ck (fun _ _ => hm_lt (fun x7 e7 => hm_ck (fun _ _ => hm_lt (fun f9 e9 => hm_ck (fun _ _ => hm_lt (fun x11 e11 => ?_))))))))
  have E7 : x7.toInt = (c : Int) - 2 := by
    rw [e7, e5, gb_un (by decide)]
    exact e16
  have E11 : x11.toInt = (c : Int) - 1 := by
    rw [e11, e9, gb_us, pk_us, gb_tadd (by omega) (by omega), E7, z1]
    omega
  have o : ∀ q, q ≠ 16 → q ≠ 17 → f9 q = f q := fun q h1 h2 => by
    rw [e9, gb_un h1, e5, gb_un h2]
  have o16 : ∀ g, g ≠ k → f9 16 g = f 16 g := fun g hg => by
    rw [e9, gb_us, pk_un hg, e5, gb_un (by decide)]
  have o17 : ∀ g, g ≠ k → f9 17 g = f 17 g := fun g hg => by
    rw [e9, gb_un (by decide), e5, gb_us, pk_un hg]
  have k17 : f9 17 k = 0 := by
    rw [e9, gb_un (by decide), e5, gb_us, pk_us]
  have k16 : (f9 16 k).toInt = (c : Int) - 1 := by
    rw [← e11]
    exact E11
  have hb9 : gb_mbx m R f9 := by
    rw [e9]
    refine mbx_u2 ?_ (by decide)
    rw [e5]
    exact mbx_u2 ht.1.1 (by decide)
  have t9 : gb_tst R U m k a f9 := tst_k ht (by rw [o 0 (by decide) (by decide)]) (o 1 (by decide) (by decide)) (o 2 (by decide) (by decide)) (o 13 (by decide) (by decide)) (o 15 (by decide) (by decide)) (fun g hg => o16 g (by omega)) (fun g hg => o17 g (by omega)) hb9
  have s9 : ∀ p, p < 5 → (f9 14 p).toInt = gb_tq R a p k := fun p hp => by
    rw [o 14 (by decide) (by decide)]
    exact h14 p hp
  have no : (c ≤ gb_nP R → 1 ≤ c ∧ (U (c - 1) = -1 ∨ (U (c - 1)).toInt < gb_tq R a (c - 1) k + gb_fM R (c - 1) k)) → gb_aft R U m k a c f w f9 w 0 := fun hh => ⟨rfl, o 0 (by decide) (by decide), o 18 (by decide) (by decide), t9, k16, Or.inr ⟨rfl, k17, s9, hh⟩⟩
  refine hm_if (fun d => ?_) (fun d => ?_)
  · have d' := gi_lt d
    have c0 : c = 0 := by omega
    refine hm_if (fun y => absurd (gi_le y) (by omega)) (fun _ => hm_some ⟨rfl, o 0 (by decide) (by decide), o 18 (by decide) (by decide), t9, k16, Or.inl ⟨rfl, by omega, by rw [if_pos c0]; exact k17, fun y => absurd c0 y, fun p hp => ?_⟩⟩)
    rw [tq_up, if_neg (by omega), s9 p hp]
    omega
  · have d' := gi_nlt d
    refine hm_bd (mx_paths hb9) (fun f1 w1 r ⟨g1, g2, g3⟩ => ?_)
    rw [g1, g2, g3]
    refine hm_if (fun y => ?_) (fun y => ?_)
    · have y' := gi_lt y
      have cp : c ≤ gb_nP R := by omega
      have c1 : 1 ≤ c := by omega
      have ec : x11.toInt = ((c - 1 : Nat) : Int) := by omega
      have c5 : c - 1 < 5 := by omega
      have i5 : (5 * v1 + x11).toInt = ((5 * k + (c - 1) : Nat) : Int) := gi_5g e1 ec (by omega) c5
      have eU : f9 15 (c - 1) = U (c - 1) := t9.2.1 (c - 1) c5
      have eM : f9 13 (5 * k + (c - 1)) = gb_fm R k (c - 1) := t9.1.2 k (c - 1) hk (by omega)
      have E14 := s9 (c - 1) c5
      have fm := fM_i hR c5 k (by omega)
      have eF : (gb_fm R k (c - 1)).toInt = gb_fM R (c - 1) k := rfl
      have tqb := tq_i (a := a) hR c5 k (by omega)
      have iu := iU (c - 1) c5
      have iu1 := iu.1
      have iu2 := iu.2
      rw [gi_tn ec, gi_tn i5, eU, eM]
      refine hm_ck (fun _ _ => hm_lt (fun x21 e21 => hm_if (fun q => hm_some (no (fun _ => ⟨c1, Or.inl (by rw [← e21]; exact q)⟩))) (fun q => hm_ck (fun _ _ => hm_lt (fun x24 e24 => hm_ck (fun _ _ => hm_lt (fun x26 e26 => hm_ck (fun _ _ => hm_lt (fun x28 e28 => ?_)))))))))
      have sum : (x24 + x26).toInt = gb_tq R a (c - 1) k + gb_fM R (c - 1) k := by
        rw [gb_tadd (by rw [e24, e26]; omega) (by rw [e24, e26]; omega), e24, e26, E14, eF]
      refine hm_if (fun u => ?_) (fun u => hm_some (no (fun _ => ⟨c1, Or.inr ?_⟩)))
      · refine hm_ck (fun _ _ => hm_lt (fun x31 e31 => hm_ck (fun _ _ => hm_lt (fun x33 e33 => hm_ck (fun _ _ => hm_lt (fun f35 e35 => hm_ck (fun _ _ => hm_lt (fun f37 e37 => hm_some ?_))))))))
        have oo : ∀ q, q ≠ 14 → q ≠ 17 → f37 q = f9 q := fun q h1 h2 => by
          rw [e37, gb_un h2, e35, gb_un h1]
        have oo17 : ∀ g, g ≠ k → f37 17 g = f9 17 g := fun g hg => by
          rw [e37, gb_us, pk_un hg, e35, gb_un (by decide)]
        have hb37 : gb_mbx m R f37 := by
          rw [e37]
          refine mbx_u2 ?_ (by decide)
          rw [e35]
          exact mbx_u2 hb9 (by decide)
        refine ⟨rfl, ?_, ?_, tst_k t9 (by rw [oo 0 (by decide) (by decide)]) (oo 1 (by decide) (by decide)) (oo 2 (by decide) (by decide)) (oo 13 (by decide) (by decide)) (oo 15 (by decide) (by decide)) (fun g hg => by rw [oo 16 (by decide) (by decide)]) (fun g hg => oo17 g (by omega)) hb37, ?_, Or.inl ⟨rfl, cp, ?_, fun _ => by rw [← e21]; exact q, fun p hp => ?_⟩⟩
        · rw [oo 0 (by decide) (by decide)]
          exact o 0 (by decide) (by decide)
        · rw [oo 18 (by decide) (by decide)]
          exact o 18 (by decide) (by decide)
        · rw [oo 16 (by decide) (by decide)]
          exact k16
        · rw [e37, gb_us, pk_us, if_neg (by omega)]
        · rw [e37, gb_un (by decide), e35, gb_us, tq_up]
          by_cases z : p = c - 1
          · rw [z, pk_us, if_pos (by omega), e31, e33, ← e24, ← e26]
            exact sum
          · rw [pk_un z, if_neg (by omega), s9 p hp]
            omega
      · have u' := gi_nle u
        rw [sum, e28] at u'
        exact u'
    · have y' := gi_nlt y
      exact hm_if (fun _ => hm_some (no (fun z => absurd z (by omega)))) (fun z => absurd (gi_nle z) (by omega))
theorem mh_next {n m k c : Nat} {R U : Nat → Int32} {a : Nat → Nat} {f : gb_F} {w : Int64} {v1 : Int32} (hk : k < gb_nG R) (hc : c ≤ gb_nP R + 1) (e1 : v1.toInt = k) (ht : gb_tst R U m k a f) (iU : ∀ p, p < 5 → gb_iv (-1) 999 (U p)) (he : gb_ent R k a c f) : gb_hm (ms_isNext n f w v1) (fun f2 w2 r => gb_aft R U m k a c f w f2 w2 r) := by
  have hR := mbx_rB ht.1.1
  have h5 := (rB_nP hR).2
  have h8 := (rB_nG hR).2
  obtain ⟨q1, q2⟩ := he
  unfold ms_isNext
  rw [gi_tn e1]
  refine hm_ck (fun _ _ => hm_lt (fun x2 e2 => hm_if (fun d => ?_) (fun d => ?_)))
  · rcases q2 with y | y
    · exact mh_next38 hk hc e1 ht iU q1 y.2
    · rw [e2, y.1] at d
      exact absurd d (by decide)
  · rcases q2 with y | ⟨y1, y2, y3, y4⟩
    · exact absurd (by rw [e2]; exact y.1) d
    have c5 : c - 2 < 5 := by omega
    have fm := fM_i hR c5 k (by omega)
    have eM : f 13 (5 * k + (c - 2)) = gb_fm R k (c - 2) := ht.1.2 k (c - 2) hk (by omega)
    have eF : (gb_fm R k (c - 2)).toInt = gb_fM R (c - 2) k := rfl
    have tqb := tq_i (a := a) hR c5 k (by omega)
    refine hm_ck (fun _ _ => hm_lt (fun x40 e40 => ?_))
    have E40 : x40.toInt = ((c - 2 : Nat) : Int) := by
      rw [e40, q1]
      omega
    rw [gi_tn E40]
    refine hm_ck (fun _ _ => hm_lt (fun x42 e42 => hm_ck (fun _ _ => hm_lt (fun x44 e44 => ?_))))
    have E44 : x44.toInt = ((c - 2 : Nat) : Int) := by
      rw [e44, q1]
      omega
    rw [gi_tn (gi_5g e1 E44 (by omega) c5), eM]
    refine hm_ck (fun _ _ => hm_lt (fun x46 e46 => hm_ck (fun _ _ => hm_lt (fun f48 e48 => ?_))))
    have o : ∀ q, q ≠ 14 → f48 q = f q := fun q h1 => by
      rw [e48, gb_un h1]
    have t48 : gb_tst R U m k a f48 := tst_k ht (by rw [o 0 (by decide)]) (o 1 (by decide)) (o 2 (by decide)) (o 13 (by decide)) (o 15 (by decide)) (fun g hg => by rw [o 16 (by decide)]) (fun g hg => by rw [o 17 (by decide)]) (by rw [e48]; exact mbx_u2 ht.1.1 (by decide))
    refine hm_mono (mh_next38 hk hc e1 t48 iU (by rw [o 16 (by decide)]; exact q1) (fun p hp => ?_)) (fun f2 w2 r A => ⟨A.1, by rw [A.2.1, o 0 (by decide)], by rw [A.2.2.1, o 18 (by decide)], A.2.2.2⟩)
    have yp := y4 p hp
    rw [e48, gb_us]
    by_cases z : p = c - 2
    · rw [if_pos (by omega)] at yp
      rw [z] at yp ⊢
      rw [pk_us, gb_tsub (by rw [e42, e46]; omega) (by rw [e42, e46]; omega), e42, e46, yp, eF]
      omega
    · rw [if_neg (by omega)] at yp
      rw [pk_un z, yp]
      omega
/-! ALL THE CHOICES, GOOSE BY GOOSE -/
theorem mbx_fr {m : Nat} {R : Nat → Int32} {f f2 : gb_F} (h : gb_mbx m R f) (e0 : f2 0 11 = f 0 11) (e1 : f2 1 = f 1) : gb_mbx m R f2 := by
  unfold gb_mbx gb_mb at h ⊢
  rw [e0, e1]
  exact h
theorem mdawn_fr {R : Nat → Int32} {f f2 : gb_F} (h : gb_mdawn R f) (e0 : f2 0 29 = f 0 29) (e1 : f2 1 = f 1) : gb_mdawn R f2 := by
  unfold gb_mdawn gb_mb at h ⊢
  rw [e0, e1]
  exact h
theorem lf1_x {C d k : Nat} {a b : Nat → Nat} : (∃ c, c < C ∧ gb_lf1 C d (k + 1) (gb_up a k c) b) ↔ gb_lf1 C (d + 1) k a b := by
  constructor
  · intro ⟨c, hc, h⟩
    exact (lf1_s hc h).1
  · intro l
    refine ⟨b k, l.1 k (by omega) (by omega), fun g h1 h2 => l.1 g (by omega) (by omega), fun g hn => ?_⟩
    by_cases z : g = k
    · rw [z, up_s]
    · rw [up_n z]
      exact l.2 g (by omega)
theorem lf1_0 {C k : Nat} {a b : Nat → Nat} : gb_lf1 C 0 k a b ↔ b = a := by
  constructor
  · intro h
    exact funext (fun g => h.2 g (by omega))
  · intro h
    rw [h]
    exact ⟨fun g h1 h2 => absurd h1 (by omega), fun _ _ => rfl⟩
theorem ub_no {R U : Nat → Int32} {d k c : Nat} {a b : Nat → Nat} (hR : gb_rB R) (hk : k < gb_nG R) (hc : 1 ≤ c ∧ c ≤ gb_nP R) (hh : U (c - 1) = -1 ∨ (U (c - 1)).toInt < gb_tq R a (c - 1) k + gb_fM R (c - 1) k) (l : gb_lf1 (gb_nP R + 1) d (k + 1) (gb_up a k c) b) : ¬ gb_ub R U b := fun h => by
  have h5 := (rB_nP hR).2
  have h8 := (rB_nG hR).2
  have bk : b k = c := (lf1_s (by omega) l).2
  have n1 := h.1 k hk (by omega)
  rw [bk] at n1
  have e : gb_tq R b (c - 1) (k + 1) = gb_tq R a (c - 1) k + gb_fM R (c - 1) k := by
    rw [tq_c (b := gb_up a k c) (k + 1) (fun g hg => by rw [l.2 g (by omega)]), tq_up, if_pos (by omega)]
  have mono := tq_m (a := b) (p := c - 1) (k := k + 1) hR (by omega) (gb_nG R - (k + 1)) (by omega)
  rw [show k + 1 + (gb_nG R - (k + 1)) = gb_nG R by omega] at mono
  rcases hh with y | y
  · exact n1 y
  · rcases h.2 (c - 1) (by omega) with z | z
    · exact n1 z
    · omega
theorem mh_dfs {n m : Nat} {R U : Nat → Int32} (hR : gb_rB R) (iU : ∀ p, p < 5 → gb_iv (-1) 999 (U p)) : ∀ (d k : Nat) (a : Nat → Nat) (N0 : Nat) (M0 : (Nat → Nat) → Prop) (Q : gb_F → Int64 → Unit → Prop), k + (d + 1) = gb_nG R → (∀ (f : gb_F) (w : Int64) (mm : Nat) (v : Int32), v.toInt = (k : Int) - 1 → gb_tst R U m k a f → (∀ p, p < 5 → (f 14 p).toInt = gb_tq R a p k) → gb_acc R (N0 + gb_cnt (gb_ub R U) (gb_nP R + 1) (d + 1) k a) (fun b => M0 b ∨ (gb_lf1 (gb_nP R + 1) (d + 1) k a b ∧ gb_ub R U b)) f w → gb_hm (ms_tries_37 n mm f w v) Q) → ∀ (r c : Nat) (f : gb_F) (w : Int64) (mm : Nat) (v1 : Int32), c + r = gb_nP R + 1 → v1.toInt = k → gb_tst R U m k a f → gb_ent R k a c f → gb_acc R (N0 + gb_sN c (fun c => gb_cnt (gb_ub R U) (gb_nP R + 1) d (k + 1) (gb_up a k c))) (fun b => M0 b ∨ ∃ c', c' < c ∧ gb_lf1 (gb_nP R + 1) d (k + 1) (gb_up a k c') b ∧ gb_ub R U b) f w → gb_hm (ms_tries_37 n mm f w v1) Q := by
  have z0 : (0 : Int32).toInt = 0 := by decide
  have z1 : (1 : Int32).toInt = 1 := by decide
  have m1 : (-1 : Int32).toInt = -1 := by decide
  have m2 : (-2 : Int32).toInt = -2 := by decide
  have b0 : vp_nar .boolean 0 = 0 := by decide
  have h5 := (rB_nP hR).2
  have h8 := (rB_nG hR).2
  have rP := (rB_nP hR).1
  have rG := (rB_nG hR).1
  intro d
  induction d with
  | zero =>
    intro k a N0 M0 Q hk H r
    induction r with
    | zero =>
      intro c f w mm v1 hc e1 ht he hA
      cases mm with
      | zero => exact hm_none
      | succ mm =>
        rw [ms_tries_37]
        refine hm_if (fun y => absurd (gi_lt y) (by omega)) (fun _ => hm_bd (mh_next (by omega) (by omega) e1 ht iU he) (fun f2 w2 r2 A => ?_))
        obtain ⟨A1, A2, A3, A4, A5, A6⟩ := A
        rw [gi_tn e1]
        refine hm_ck (fun _ _ => hm_lt (fun x26 e26 => hm_bd (mx_paths A4.1.1) (fun f3 w3 r3 ⟨g1, g2, g3⟩ => ?_)))
        rw [g1, g2, g3]
        refine hm_if (fun y => absurd (gi_lt y) (by rw [e26]; omega)) (fun _ => hm_lt (fun x51 e51 => ?_))
        rcases A6 with y | ⟨y1, y2, y3, y4⟩
        · exact absurd y.2.1 (by omega)
        · refine H f2 w2 mm x51 (by rw [e51, gb_tadd (by omega) (by omega), m1]; omega) A4 y3 ?_
          rw [A1]
          refine acc_c hA (by rw [cn_s, show c = gb_nP R + 1 by omega]) (fun b => ?_) A2 A3
          rw [show c = gb_nP R + 1 by omega]
          refine ⟨fun z => z.elim Or.inl (fun z => ?_), fun z => z.elim Or.inl (fun z => ?_)⟩
          · obtain ⟨c', hc', l⟩ := lf1_x.mpr z.1
            exact Or.inr ⟨c', hc', l, z.2⟩
          · obtain ⟨c', hc', l, u⟩ := z
            exact Or.inr ⟨lf1_x.mp ⟨c', hc', l⟩, u⟩
    | succ r ihr =>
      intro c f w mm v1 hc e1 ht he hA
      cases mm with
      | zero => exact hm_none
      | succ mm =>
        have hkG : k < gb_nG R := by omega
        rw [ms_tries_37]
        refine hm_if (fun y => absurd (gi_lt y) (by omega)) (fun _ => hm_bd (mh_next hkG (by omega) e1 ht iU he) (fun f2 w2 r2 A => ?_))
        obtain ⟨A1, A2, A3, A4, A5, A6⟩ := A
        rw [gi_tn e1]
        refine hm_ck (fun _ _ => hm_lt (fun x26 e26 => hm_bd (mx_paths A4.1.1) (fun f3 w3 r3 ⟨g1, g2, g3⟩ => ?_)))
        rw [g1, g2, g3]
        refine hm_if (fun _ => ?_) (fun y => absurd (gi_nlt y) (by rw [e26]; omega))
        rcases A6 with ⟨y1, y2, y3, y4, y5⟩ | ⟨y1, y2, y3, y4⟩
        · refine hm_if (fun z => absurd (y1.symm.trans z) (by decide)) (fun _ => hm_bd (mx_geese A4.1.1) (fun f4 w4 r4 ⟨g1, g2, g3⟩ => ?_))
          rw [g1, g2, g3]
          have eg : v1 = R 1 - 1 := gb_ieq (by rw [gb_tsub (by omega) (by omega), e1, rG, z1]; omega)
          refine hm_if (fun _ => ?_) (fun z => absurd eg z)
          have gk : k + 1 = gb_nG R := by omega
          have up16 : ∀ g, g < gb_nG R → (f2 16 g).toInt = (gb_up a k c g : Int) - 1 := fun g hg => by
            by_cases z : g = k
            · rw [z, up_s]
              exact A5
            · rw [up_n z]
              exact (A4.2.2 g (by omega)).1
          refine hm_bd (mh_counts (a := gb_up a k c) (U := U) (N := N0 + gb_sN c (fun c => gb_cnt (gb_ub R U) (gb_nP R + 1) 0 (k + 1) (gb_up a k c))) (M := fun b => M0 b ∨ ∃ c', c' < c ∧ gb_lf1 (gb_nP R + 1) 0 (k + 1) (gb_up a k c') b ∧ gb_ub R U b) A4.1.1 A4.2.1 up16 (fun p hp => by rw [y5 p hp, gk]) (fun g hg => ?_) (fun g hg => ?_) (by rw [A1]; exact acc_c hA rfl (fun _ => Iff.rfl) A2 A3)) (fun f5 w5 _ B => ?_)
          · by_cases z : g = k
            · rw [z, up_s]
              exact y4
            · rw [up_n z]
              exact (A4.2.2 g (by omega)).2.2.2
          · by_cases z : g = k
            · rw [z, up_s]
              exact y2
            · rw [up_n z]
              exact (A4.2.2 g (by omega)).2.2.1
          · obtain ⟨B1, B2, B3⟩ := B
            have t5 : gb_tst R U m k a f5 := tst_k A4 (B2 11 (by decide) (by decide) (by decide)) (B1 1 (by decide) (by decide)) (B1 2 (by decide) (by decide)) (B1 13 (by decide) (by decide)) (B1 15 (by decide) (by decide)) (fun g _ => by rw [B1 16 (by decide) (by decide)]) (fun g _ => by rw [B1 17 (by decide) (by decide)]) (mbx_fr A4.1.1 (B2 11 (by decide) (by decide) (by decide)) (B1 1 (by decide) (by decide)))
            refine ihr (c + 1) f5 w5 mm v1 (by omega) e1 t5 ⟨by rw [B1 16 (by decide) (by decide), A5]; omega, ?_⟩ (acc_c B3 ?_ (fun b => ?_) rfl rfl)
            · rw [B1 17 (by decide) (by decide), B1 14 (by decide) (by decide), y3]
              by_cases z : c = 0
              · refine Or.inl ⟨if_pos z, fun p hp => ?_⟩
                rw [y5 p hp, tq_up, if_neg (by omega)]
                omega
              · refine Or.inr ⟨if_neg z, by omega, by omega, fun p hp => ?_⟩
                rw [y5 p hp, tq_up]
                by_cases q : c = p + 1
                · rw [if_pos q, if_pos (by omega)]
                · rw [if_neg q, if_neg (by omega)]
            · rw [sN_s]
              show _ = _ + gb_cnt (gb_ub R U) (gb_nP R + 1) 0 (k + 1) (gb_up a k c)
              omega
            · refine ⟨fun z => ?_, fun z => ?_⟩
              · rcases z with z | ⟨c', hc', l, u⟩
                · exact Or.inl (Or.inl z)
                · by_cases q : c' = c
                  · rw [q] at l
                    have := lf1_0.mp l
                    exact Or.inr ⟨this, by rw [← this]; exact u⟩
                  · exact Or.inl (Or.inr ⟨c', by omega, l, u⟩)
              · rcases z with (z | ⟨c', hc', l, u⟩) | ⟨q, u⟩
                · exact Or.inl z
                · exact Or.inr ⟨c', by omega, l, u⟩
                · exact Or.inr ⟨c, by omega, lf1_0.mpr q, by rw [q]; exact u⟩
        · refine hm_if (fun _ => ?_) (fun z => absurd y1 z)
          rw [ms_tries_87, if_pos y1]
          obtain ⟨q1, q2⟩ := y4 (by omega)
          have no : ∀ b, gb_lf1 (gb_nP R + 1) 0 (k + 1) (gb_up a k c) b → ¬ gb_ub R U b := fun b l => ub_no hR hkG ⟨q1, by omega⟩ q2 l
          refine ihr (c + 1) f2 w2 mm v1 (by omega) e1 A4 ⟨by rw [A5]; omega, Or.inl ⟨y2, y3⟩⟩ ?_
          rw [A1]
          refine acc_c hA (by rw [sN_s, cn_0 no]; rfl) (fun b => ⟨fun z => ?_, fun z => ?_⟩) A2 A3
          · rcases z with z | ⟨c', hc', l, u⟩
            · exact Or.inl z
            · by_cases q : c' = c
              · rw [q] at l
                exact absurd u (no b l)
              · exact Or.inr ⟨c', by omega, l, u⟩
          · rcases z with z | ⟨c', hc', l, u⟩
            · exact Or.inl z
            · exact Or.inr ⟨c', by omega, l, u⟩
  | succ d ihd =>
    intro k a N0 M0 Q hk H r
    induction r with
    | zero =>
      intro c f w mm v1 hc e1 ht he hA
      cases mm with
      | zero => exact hm_none
      | succ mm =>
        rw [ms_tries_37]
        refine hm_if (fun y => absurd (gi_lt y) (by omega)) (fun _ => hm_bd (mh_next (by omega) (by omega) e1 ht iU he) (fun f2 w2 r2 A => ?_))
        obtain ⟨A1, A2, A3, A4, A5, A6⟩ := A
        rw [gi_tn e1]
        refine hm_ck (fun _ _ => hm_lt (fun x26 e26 => hm_bd (mx_paths A4.1.1) (fun f3 w3 r3 ⟨g1, g2, g3⟩ => ?_)))
        rw [g1, g2, g3]
        refine hm_if (fun y => absurd (gi_lt y) (by rw [e26]; omega)) (fun _ => hm_lt (fun x51 e51 => ?_))
        rcases A6 with y | ⟨y1, y2, y3, y4⟩
        · exact absurd y.2.1 (by omega)
        · refine H f2 w2 mm x51 (by rw [e51, gb_tadd (by omega) (by omega), m1]; omega) A4 y3 ?_
          rw [A1]
          refine acc_c hA (by rw [cn_s, show c = gb_nP R + 1 by omega]) (fun b => ?_) A2 A3
          rw [show c = gb_nP R + 1 by omega]
          refine ⟨fun z => z.elim Or.inl (fun z => ?_), fun z => z.elim Or.inl (fun z => ?_)⟩
          · obtain ⟨c', hc', l⟩ := lf1_x.mpr z.1
            exact Or.inr ⟨c', hc', l, z.2⟩
          · obtain ⟨c', hc', l, u⟩ := z
            exact Or.inr ⟨lf1_x.mp ⟨c', hc', l⟩, u⟩
    | succ r ihr =>
      intro c f w mm v1 hc e1 ht he hA
      cases mm with
      | zero => exact hm_none
      | succ mm =>
        have hkG : k < gb_nG R := by omega
        rw [ms_tries_37]
        refine hm_if (fun y => absurd (gi_lt y) (by omega)) (fun _ => hm_bd (mh_next hkG (by omega) e1 ht iU he) (fun f2 w2 r2 A => ?_))
        obtain ⟨A1, A2, A3, A4, A5, A6⟩ := A
        rw [gi_tn e1]
        refine hm_ck (fun _ _ => hm_lt (fun x26 e26 => hm_bd (mx_paths A4.1.1) (fun f3 w3 r3 ⟨g1, g2, g3⟩ => ?_)))
        rw [g1, g2, g3]
        refine hm_if (fun _ => ?_) (fun y => absurd (gi_nlt y) (by rw [e26]; omega))
        rcases A6 with ⟨y1, y2, y3, y4, y5⟩ | ⟨y1, y2, y3, y4⟩
        · refine hm_if (fun z => absurd (y1.symm.trans z) (by decide)) (fun _ => hm_bd (mx_geese A4.1.1) (fun f4 w4 r4 ⟨g1, g2, g3⟩ => ?_))
          rw [g1, g2, g3]
          refine hm_if (fun z => ?_) (fun _ => ?_)
          · have : v1.toInt = (gb_nG R : Int) - 1 := by
              rw [z, gb_tsub (by omega) (by omega), rG, z1]
            omega
          · rw [ms_tries_87, if_neg (fun z => absurd (y1.symm.trans z) (by decide)), b0]
            refine hm_lt (fun x35 e35 => ?_)
            have E35 : x35.toInt = ((k + 1 : Nat) : Int) := gi_1 e1 (by omega) e35
            rw [gi_tn E35]
            refine hm_ck (fun _ _ => hm_lt (fun f37 e37 => hm_ck (fun _ _ => hm_lt (fun f39 e39 => ?_))))
            have o : ∀ q, q ≠ 16 → q ≠ 17 → f39 q = f2 q := fun q h1 h2 => by
              rw [e39, gb_un h2, e37, gb_un h1]
            have o16 : ∀ g, g ≠ k + 1 → f39 16 g = f2 16 g := fun g hg => by
              rw [e39, gb_un (by decide), e37, gb_us, pk_un hg]
            have o17 : ∀ g, g ≠ k + 1 → f39 17 g = f2 17 g := fun g hg => by
              rw [e39, gb_us, pk_un hg, e37, gb_un (by decide)]
            have t39 : gb_tst R U m (k + 1) (gb_up a k c) f39 := by
              refine ⟨⟨mbx_fr A4.1.1 (by rw [o 0 (by decide) (by decide)]) (o 1 (by decide) (by decide)), fun g p hg hp => by rw [o 13 (by decide) (by decide)]; exact A4.1.2 g p hg hp⟩, fun p hp => by rw [o 15 (by decide) (by decide)]; exact A4.2.1 p hp, fun g hg => ?_⟩
              rw [o16 g (by omega), o17 g (by omega)]
              by_cases z : g = k
              · rw [z, up_s]
                exact ⟨A5, y3, y2, y4⟩
              · rw [up_n z]
                exact A4.2.2 g (by omega)
            refine ihd (k + 1) (gb_up a k c) (N0 + gb_sN c (fun c => gb_cnt (gb_ub R U) (gb_nP R + 1) (d + 1) (k + 1) (gb_up a k c))) (fun b => M0 b ∨ ∃ c', c' < c ∧ gb_lf1 (gb_nP R + 1) (d + 1) (k + 1) (gb_up a k c') b ∧ gb_ub R U b) Q (by omega) (fun f' w' mm' v ev t' s' a' => ?_) (gb_nP R + 1) 0 f39 w2 mm x35 (by omega) E35 t39 ⟨?_, Or.inl ⟨?_, fun p hp => ?_⟩⟩ ?_
            · have t5 : gb_tst R U m k a f' := ⟨t'.1, t'.2.1, fun g hg => by
                have := t'.2.2 g (by omega)
                rw [up_n (by omega)] at this
                exact this⟩
              have tk := t'.2.2 k (by omega)
              rw [up_s] at tk
              refine ihr (c + 1) f' w' mm' v (by omega) (by rw [ev]; omega) t5 ⟨by rw [tk.1]; omega, ?_⟩ (acc_c a' ?_ (fun b => ?_) rfl rfl)
              · rw [tk.2.1]
                by_cases z : c = 0
                · refine Or.inl ⟨if_pos z, fun p hp => ?_⟩
                  rw [s' p hp, tq_up, if_neg (by omega)]
                  omega
                · refine Or.inr ⟨if_neg z, by omega, by omega, fun p hp => ?_⟩
                  rw [s' p hp, tq_up]
                  by_cases q : c = p + 1
                  · rw [if_pos q, if_pos (by omega)]
                  · rw [if_neg q, if_neg (by omega)]
              · rw [sN_s]
                omega
              · refine ⟨fun z => ?_, fun z => ?_⟩
                · rcases z with z | ⟨c', hc', l, u⟩
                  · exact Or.inl (Or.inl z)
                  · by_cases q : c' = c
                    · rw [q] at l
                      exact Or.inr ⟨l, u⟩
                    · exact Or.inl (Or.inr ⟨c', by omega, l, u⟩)
                · rcases z with (z | ⟨c', hc', l, u⟩) | ⟨l, u⟩
                  · exact Or.inl z
                  · exact Or.inr ⟨c', by omega, l, u⟩
                  · exact Or.inr ⟨c, by omega, l, u⟩
            · rw [e39, gb_un (by decide), e37, gb_us, pk_us, m2]
              rfl
            · rw [e39, gb_us, pk_us]
            · rw [o 14 (by decide) (by decide)]
              exact y5 p hp
            · rw [A1]
              exact acc_c hA rfl (fun b => ⟨fun z => z.elim (fun z => z) (fun ⟨c', hc', _⟩ => absurd hc' (Nat.not_lt_zero c')), Or.inl⟩) ((o 0 (by decide) (by decide)).trans A2) ((o 18 (by decide) (by decide)).trans A3)
        · refine hm_if (fun _ => ?_) (fun z => absurd y1 z)
          rw [ms_tries_87, if_pos y1]
          obtain ⟨q1, q2⟩ := y4 (by omega)
          have no : ∀ b, gb_lf1 (gb_nP R + 1) (d + 1) (k + 1) (gb_up a k c) b → ¬ gb_ub R U b := fun b l => ub_no hR hkG ⟨q1, by omega⟩ q2 l
          refine ihr (c + 1) f2 w2 mm v1 (by omega) e1 A4 ⟨by rw [A5]; omega, Or.inl ⟨y2, y3⟩⟩ ?_
          rw [A1]
          refine acc_c hA (by rw [sN_s, cn_0 no]; rfl) (fun b => ⟨fun z => ?_, fun z => ?_⟩) A2 A3
          · rcases z with z | ⟨c', hc', l, u⟩
            · exact Or.inl z
            · by_cases q : c' = c
              · rw [q] at l
                exact absurd u (no b l)
              · exact Or.inr ⟨c', by omega, l, u⟩
          · rcases z with z | ⟨c', hc', l, u⟩
            · exact Or.inl z
            · exact Or.inr ⟨c', by omega, l, u⟩
/-! THE TRIES BEGIN -/
theorem mh_op95 {n : Nat} {f0 : gb_F} {w : Int64} : ∀ (mm : Nat) (f : gb_F) (v1 : Int32) (k : Nat), v1.toInt = k → k ≤ 8 → (∀ q, q ≠ 18 → f q = f0 q) → (∀ g, g < k → f 18 g = 0) → gb_hm (ms_opens_95 n mm f w v1) (fun f2 w2 _ => w2 = w ∧ (∀ q, q ≠ 18 → f2 q = f0 q) ∧ ∀ g, g < 8 → f2 18 g = 0) := by
  have z8 : (8 : Int32).toInt = 8 := by decide
  intro mm
  induction mm with
  | zero =>
    intros
    exact hm_none
  | succ mm ih =>
    intro f v1 k e hk hf hz
    rw [ms_opens_95, gi_tn e]
    refine hm_if (fun c => hm_some ⟨rfl, hf, fun g hg => hz g ?_⟩) (fun c => hm_ck (fun _ _ => hm_lt (fun f2 e2 => hm_lt (fun x ex => ih f2 x (k + 1) (gi_1 e (by omega) ex) ?_ (fun q hq => ?_) (fun g hg => ?_)))))
    · have := gi_le c
      omega
    · have := gi_nle c
      omega
    · rw [e2, gb_un hq]
      exact hf q hq
    · rw [e2, gb_us]
      by_cases z : g = k
      · rw [z, pk_us]
      · rw [pk_un z]
        exact hz g (by omega)
def gb_opn (R DR : Nat → Int32) (f0 f2 : gb_F) (w2 : Int64) : Prop := w2 = 0 ∧ (∀ q, q ≠ 0 → q ≠ 15 → q ≠ 18 → f2 q = f0 q) ∧ (∀ j, j ≠ 34 → j ≠ 35 → j ≠ 36 → f2 0 j = f0 0 j) ∧ f2 0 34 = 99 ∧ f2 0 35 = 0 ∧ f2 0 36 = ((1 : Int32) <<< ((R 1) &&& 31)) - 1 ∧ (∀ g, g < 8 → f2 18 g = 0) ∧ gb_du DR (f2 15)
theorem mh_op29 {n m : Nat} {R DR : Nat → Int32} {f0 : gb_F} (hb : gb_mbx m R f0) (hd : gb_mdawn DR f0) (ra : ∀ j, j < 11 → gb_iv (gt_R 3 j).1 (gt_R 3 j).2 (DR j)) (nd : ¬ gb_dup DR) : ∀ (mm : Nat) (f : gb_F) (w : Int64) (v1 : Int32) (i : Nat), v1.toInt = i → i ≤ gb_fnD DR → (∀ q, q ≠ 15 → f q = f0 q) → (∀ j, j < i → f 15 (gb_fpa DR j) = DR (2 + 2 * j)) → (∀ p, p < 5 → (∀ j, j < i → ¬ gb_fpa DR j = p) → f 15 p = -1) → gb_hm (ms_opens_29 n mm f w v1) (fun f2 w2 _ => gb_opn R DR f0 f2 w2) := by
  have z0 : (0 : Int32).toInt = ((0 : Nat) : Int) := by decide
  have z1 : (1 : Int32).toInt = ((1 : Nat) : Int) := by decide
  have r0 := (raD_m (k := 0) ra (by decide)).2.2
  have r01 := r0.1
  have r02 := r0.2
  have eN : (DR 0).toInt = gb_fnD DR := by
    unfold gb_fnD
    omega
  intro mm
  induction mm with
  | zero =>
    intros
    exact hm_none
  | succ mm ih =>
    intro f w v1 i e hi hf h1 h2
    have e0 := hf 0 (by decide)
    have e1 := hf 1 (by decide)
    have hbf : gb_mbx m R f := mbx_fr hb (by rw [e0]) e1
    have hdf : gb_mdawn DR f := mdawn_fr hd (by rw [e0]) e1
    rw [ms_opens_29, mx_ndawn hdf]
    refine hm_ck (fun _ _ => hm_lt (fun x3 e3 => hm_if (fun c => ?_) (fun c => ?_)))
    · have c' := gi_le c
      rw [e3, eN] at c'
      have ei : i = gb_fnD DR := by omega
      refine hm_lt (fun w5 e5 => hm_lt (fun f6 e6 => hm_lt (fun f7 e7 => ?_)))
      have o7 : ∀ q, q ≠ 0 → f7 q = f q := fun q hq => by
        rw [e7, gb_un hq, e6, gb_un hq]
      have o70 : ∀ j, j ≠ 34 → j ≠ 35 → f7 0 j = f 0 j := fun j a b => by
        rw [e7, gb_us, pk_un b, e6, gb_us, pk_un a]
      have x34 : f7 0 34 = 99 := by
        rw [e7, gb_us, pk_un (by decide), e6, gb_us, pk_us]
      have x35 : f7 0 35 = 0 := by
        rw [e7, gb_us, pk_us]
      refine hm_bd (mx_geese (mbx_fr hbf (o70 11 (by decide) (by decide)) (o7 1 (by decide)))) (fun f8 w8 r8 ⟨g1, g2, g3⟩ => ?_)
      rw [g1, g2, g3]
      refine hm_lt (fun f13 e13 => hm_mono (mh_op95 n f13 0 0 (by decide) (by decide) (fun _ _ => rfl) (fun g hg => absurd hg (Nat.not_lt_zero g))) (fun f2 w2 _ ⟨q1, q2, q3⟩ => ?_))
      refine ⟨q1.trans e5, fun q a b d => ?_, fun j a b d => ?_, ?_, ?_, ?_, q3, ?_⟩
      · rw [q2 q d, e13, gb_un a, o7 q a]
        exact hf q b
      · rw [q2 0 (by decide), e13, gb_us, pk_un d, o70 j a b, e0]
      · rw [q2 0 (by decide), e13, gb_us, pk_un (by decide)]
        exact x34
      · rw [q2 0 (by decide), e13, gb_us, pk_un (by decide)]
        exact x35
      · rw [q2 0 (by decide), e13, gb_us, pk_us]
      · have e15 : f2 15 = f 15 := by
          rw [q2 15 (by decide), e13, gb_un (by decide), o7 15 (by decide)]
        rw [e15]
        exact ⟨fun j hj => h1 j (by omega), fun p hp hn => h2 p hp (fun j hj => hn j (by omega))⟩
    · have c' := gi_nle c
      rw [e3, eN] at c'
      have il : i < gb_fnD DR := by omega
      have rk := raD_m (k := i) ra (by omega)
      have rk1 := rk.1.1
      have rk2 := rk.1.2
      refine hm_bd (mx_seenOf hdf e (by omega) z0 (by decide)) (fun f18 w18 r20 ⟨g1, g2, g3⟩ => ?_)
      rw [g1, g2]
      refine hm_bd (mx_seenOf hdf e (by omega) z1 (by decide)) (fun f23 w23 r25 ⟨g4, g5, g6⟩ => ?_)
      rw [g4, g5]
      have ep : r20.toInt = gb_fpa DR i := by
        rw [g3]
        unfold gb_fpa
        rw [Nat.add_zero]
        omega
      have em : r25 = DR (2 + 2 * i) := by
        rw [g6, show 1 + 2 * i + 1 = 2 + 2 * i by omega]
      have hne : ∀ j, j < i → ¬ gb_fpa DR j = gb_fpa DR i := fun j hj z => nd ⟨j, i, hj, by unfold gb_fnD at il; exact il, by
        have rj := raD_m (k := j) ra (by omega)
        have := rj.1.1
        unfold gb_fpa at z
        exact gb_ieq (by omega)⟩
      rw [gi_tn ep]
      refine hm_ck (fun _ _ => hm_lt (fun f29 e29 => hm_lt (fun x ex => ih f29 w x (i + 1) (gi_1 e (by omega) ex) (by omega) (fun q hq => ?_) (fun j hj => ?_) (fun p hp hn => ?_))))
      · rw [e29, gb_un hq]
        exact hf q hq
      · rw [e29, gb_us]
        by_cases z : j = i
        · rw [z, pk_us]
          exact em
        · rw [pk_un (hne j (by omega))]
          exact h1 j (by omega)
      · rw [e29, gb_us, pk_un (fun z => hn i (by omega) z.symm)]
        exact h2 p hp (fun j hj => hn j (by omega))
theorem mh_op2 {n m : Nat} {R DR : Nat → Int32} {f0 : gb_F} (hb : gb_mbx m R f0) (hd : gb_mdawn DR f0) (ra : ∀ j, j < 11 → gb_iv (gt_R 3 j).1 (gt_R 3 j).2 (DR j)) (nd : ¬ gb_dup DR) : ∀ (mm : Nat) (f : gb_F) (w : Int64) (v1 : Int32) (k : Nat), v1.toInt = k → k ≤ 5 → (∀ q, q ≠ 14 → q ≠ 15 → f q = f0 q) → (∀ p, p < k → f 14 p = 0 ∧ f 15 p = -1) → gb_hm (ms_opens_2 n mm f w v1) (fun f2 w2 _ => ∃ f1, (∀ q, q ≠ 14 → q ≠ 15 → f1 q = f0 q) ∧ (∀ p, p < 5 → f1 14 p = 0) ∧ gb_opn R DR f1 f2 w2) := by
  have z5 : (5 : Int32).toInt = 5 := by decide
  intro mm
  induction mm with
  | zero =>
    intros
    exact hm_none
  | succ mm ih =>
    intro f w v1 k e hk hf hz
    rw [ms_opens_2, gi_tn e]
    refine hm_if (fun c => ?_) (fun c => hm_ck (fun _ _ => hm_lt (fun f32 e32 => hm_ck (fun _ _ => hm_lt (fun f34 e34 => hm_lt (fun x ex => ih f34 w x (k + 1) (gi_1 e (by omega) ex) ?_ (fun q a b => ?_) (fun p hp => ?_)))))))
    · have c' := gi_le c
      have e0 := hf 0 (by decide) (by decide)
      have e1 := hf 1 (by decide) (by decide)
      exact hm_mono (mh_op29 (mbx_fr hb (by rw [e0]) e1) (mdawn_fr hd (by rw [e0]) e1) ra nd n f w 0 0 (by decide) (Nat.zero_le _) (fun _ _ => rfl) (fun j hj => absurd hj (Nat.not_lt_zero j)) (fun p hp _ => (hz p (by omega)).2)) (fun f2 w2 _ h => ⟨f, hf, fun p hp => (hz p (by omega)).1, h⟩)
    · have := gi_nle c
      omega
    · rw [e34, gb_un a, e32, gb_un b]
      exact hf q a b
    · by_cases z : p = k
      · rw [z]
        refine ⟨?_, ?_⟩
        · rw [e34, gb_us, pk_us]
        · rw [e34, gb_un (by decide), e32, gb_us, pk_us]
      · refine ⟨?_, ?_⟩
        · rw [e34, gb_us, pk_un z, e32, gb_un (by decide)]
          exact (hz p (by omega)).1
        · rw [e34, gb_un (by decide), e32, gb_us, pk_un z]
          exact (hz p (by omega)).2
theorem tb_fu1 : ∀ G : Fin 9, ∀ i : Fin 32, gb_tbt (((1 : Int32) <<< ((Int32.ofNat G.val) &&& 31)) - 1) i.val = decide (i.val < G.val) := by decide
theorem tb_fu {x : Int32} {G : Nat} (e : x.toInt = G) (hG : G ≤ 8) (i : Nat) : gb_tbt (((1 : Int32) <<< (x &&& 31)) - 1) i = true ↔ i < G := by
  have ev : x = Int32.ofNat G := gi_nI e (by omega)
  by_cases c : i < 32
  · rw [ev, tb_fu1 ⟨G, by omega⟩ ⟨i, c⟩]
    exact decide_eq_true_iff
  · unfold gb_tbt
    rw [BitVec.getLsbD_of_ge _ _ (by omega)]
    exact ⟨fun h => absurd h (by decide), fun h => absurd h (by omega)⟩
def gb_vld (R DR : Nat → Int32) (b : Nat → Nat) : Prop := gb_lf1 (gb_nP R + 1) (gb_nG R) 0 (fun _ => 0) b ∧ gb_fi R DR none (gb_fnD DR) b
theorem mh_tries {n m : Nat} {R DR : Nat → Int32} {f : gb_F} {w : Int64} (hb : gb_mbx m R f) (hd : gb_mdawn DR f) (ra : ∀ j, j < 11 → gb_iv (gt_R 3 j).1 (gt_R 3 j).2 (DR j)) (nd : ¬ gb_dup DR) : gb_hm (ms_tries n f w) (fun f2 w2 _ => gb_acc R (gb_Zy R DR none (gb_fnD DR)) (gb_vld R DR) f2 w2) := by
  have z0 : (0 : Int32).toInt = 0 := by decide
  have m1 : (-1 : Int32).toInt = -1 := by decide
  have m2 : (-2 : Int32).toInt = -2 := by decide
  have b0 : vp_nar .boolean 0 = 0 := by decide
  have t0 : Int32.toNatClampNeg 0 = 0 := by decide
  have hR := mbx_rB hb
  have h5 := (rB_nP hR).2
  have h8 := (rB_nG hR).2
  have rG := (rB_nG hR).1
  unfold ms_tries ms_opens
  rw [b0, t0]
  refine hm_bd (mh_measures hb) (fun f1 w1 _ ⟨a1, a2, a3⟩ => ?_)
  have hd1 : gb_mdawn DR f1 := mdawn_fr hd (by rw [a2 0 (by decide)]) (a2 1 (by decide))
  refine hm_bd (mh_op2 a1 hd1 ra nd n f1 w1 0 0 (by decide) (by decide) (fun _ _ _ => rfl) (fun p hp => absurd hp (Nat.not_lt_zero p))) (fun f6 w6 _ ⟨f5, c1, c2, o⟩ => ?_)
  obtain ⟨o1, o2, o3, o4, o5, o6, o7, o8⟩ := o
  have hb6 : gb_mbx m R f6 := mbx_fr a1 (by rw [o3 11 (by decide) (by decide) (by decide), c1 0 (by decide) (by decide)]) (by rw [o2 1 (by decide) (by decide) (by decide), c1 1 (by decide) (by decide)])
  have me6 : gb_meas R f6 := fun g p hg hp => by
    rw [o2 13 (by decide) (by decide) (by decide), c1 13 (by decide) (by decide)]
    exact a3 g p hg hp
  have s6 : ∀ p, p < 5 → (f6 14 p).toInt = 0 := fun p hp => by
    rw [o2 14 (by decide) (by decide) (by decide), c2 p hp]
    exact z0
  have iU : ∀ p, p < 5 → gb_iv (-1) 999 (f6 15 p) := fun p hp => by
    by_cases c : ∃ i, i < gb_fnD DR ∧ gb_fpa DR i = p
    · obtain ⟨i, hi, e⟩ := c
      have r0 := (raD_m (k := 0) ra (by decide)).2.2
      have r02 := r0.2
      have rk := raD_m (k := i) ra (by unfold gb_fnD at hi; omega)
      have q1 := rk.2.1.1
      have q2 := rk.2.1.2
      rw [← e, o8.1 i hi]
      exact ⟨by omega, by omega⟩
    · rw [o8.2 p hp (fun i hi e => c ⟨i, hi, e⟩)]
      exact ⟨by rw [m1]; omega, by rw [m1]; omega⟩
  have acc0 : gb_acc R 0 (fun _ => False) f6 w6 := by
    refine ⟨o1, ⟨fun a h => h.elim, Or.inl ⟨fun a h => h, o4⟩⟩, ⟨fun a h => h.elim, Or.inl ⟨fun a h => h, o5⟩⟩, fun i => ?_, fun g hg i => ?_⟩
    · rw [o6, tb_fu rG h8]
      exact ⟨fun h => ⟨h, fun a z => z.elim⟩, fun h => h.1⟩
    · rw [o7 g (by omega), tb_z]
      exact ⟨fun h => absurd h (by decide), fun ⟨a, h, _⟩ => h.elim⟩
  have eq : ∀ b, gb_lf1 (gb_nP R + 1) (gb_nG R) 0 (fun _ => 0) b → (gb_ub R (f6 15) b ↔ gb_fi R DR none (gb_fnD DR) b) := fun b l => ub_fi hR ra o8 (fun g hg => l.1 g (by omega) (by omega))
  have fin : ∀ (f2 : gb_F) (w2 : Int64), gb_acc R (0 + gb_cnt (gb_ub R (f6 15)) (gb_nP R + 1) (gb_nG R) 0 (fun _ => 0)) (fun b => False ∨ (gb_lf1 (gb_nP R + 1) (gb_nG R) 0 (fun _ => 0) b ∧ gb_ub R (f6 15) b)) f2 w2 → gb_acc R (gb_Zy R DR none (gb_fnD DR)) (gb_vld R DR) f2 w2 := fun f2 w2 h => acc_c h (by rw [Nat.zero_add]; exact (cn_c eq).symm) (fun b => ⟨fun z => Or.inr ⟨z.1, (eq b z.1).mpr z.2⟩, fun z => z.elim (fun z => z.elim) (fun z => ⟨z.1, (eq b z.1).mp z.2⟩)⟩) rfl rfl
  refine hm_bd (mx_geese hb6) (fun f7 w7 r7 ⟨g1, g2, g3⟩ => ?_)
  rw [g1, g2, g3]
  refine hm_if (fun c => ?_) (fun c => ?_)
  · have G0 : gb_nG R = 0 := by
      rw [c, z0] at rG
      omega
    have no : ∀ g, ¬ g < gb_nG R := fun g => by omega
    refine hm_bd (mh_counts (a := fun _ => 0) (U := f6 15) (N := 0) (M := fun _ => False) hb6 (fun _ _ => rfl) (fun g hg => absurd hg (no g)) (fun p hp => by rw [s6 p hp, G0]; rfl) (fun g hg => absurd hg (no g)) (fun g hg => absurd hg (no g)) acc0) (fun f2 w2 _ B => hm_some (fin f2 w2 ?_))
    refine acc_c B.2.2 (by rw [G0]; rfl) (fun b => ⟨fun z => z.elim Or.inl (fun z => Or.inr ?_), fun z => z.elim Or.inl (fun z => Or.inr ?_)⟩) rfl rfl
    · rw [G0] at z
      have := lf1_0.mp z.1
      exact ⟨this, by rw [← this]; exact z.2⟩
    · rw [G0]
      exact ⟨lf1_0.mpr z.1, by rw [z.1]; exact z.2⟩
  · have G1 : 0 < gb_nG R := by
      refine Nat.pos_of_ne_zero (fun z => c (gb_ieq ?_))
      rw [rG, z, z0]
      rfl
    refine hm_lt (fun f17 e17 => hm_lt (fun f18 e18 => ?_))
    have o' : ∀ q, q ≠ 16 → q ≠ 17 → f18 q = f6 q := fun q h1 h2 => by
      rw [e18, gb_un h2, e17, gb_un h1]
    have t18 : gb_tst R (f6 15) m 0 (fun _ => 0) f18 := ⟨⟨mbx_fr hb6 (by rw [o' 0 (by decide) (by decide)]) (o' 1 (by decide) (by decide)), fun g p hg hp => by rw [o' 13 (by decide) (by decide)]; exact me6 g p hg hp⟩, fun p hp => by rw [o' 15 (by decide) (by decide)], fun g hg => absurd hg (Nat.not_lt_zero g)⟩
    have eG : gb_nG R - 1 + 1 = gb_nG R := by omega
    refine mh_dfs hR iU (gb_nG R - 1) 0 (fun _ => 0) 0 (fun _ => False) _ (by omega) (fun f2 w2 mm v ev _ _ hA => ?_) (gb_nP R + 1) 0 f18 w6 n 0 (by omega) (by decide) t18 ⟨?_, Or.inl ⟨?_, fun p hp => ?_⟩⟩ (acc_c acc0 rfl (fun b => ⟨fun z => z.elim (fun z => z) (fun ⟨c', hc', _⟩ => absurd hc' (Nat.not_lt_zero c')), Or.inl⟩) (o' 0 (by decide) (by decide)) (o' 18 (by decide) (by decide)))
    · rw [eG] at hA
      cases mm with
      | zero => exact hm_none
      | succ mm =>
        rw [ms_tries_37]
        refine hm_if (fun _ => hm_some (fin f2 w2 hA)) (fun y => absurd (gi_nlt y) (by omega))
    · rw [e18, gb_un (by decide), e17, gb_us, pk_us, m2]
      rfl
    · rw [e18, gb_us, pk_us]
    · rw [o' 14 (by decide) (by decide), s6 p hp]
      rfl
/-! FITS -/
theorem cy_dawn {n : Nat} {σ : gb_S} {f : gb_F} {p1 : Int32} (h : gb_R σ f) (hM : gb_TM f) : gb_hc (cs_Face_dawnAt n σ p1) (fun s r => s = σ ∧ ((r = 0 ∧ ¬ gb_i0 p1 (f 1 3)) ∨ (r ≠ 0 ∧ gb_i0 p1 (f 1 3) ∧ gb_RS 3 (σ.1 (r + 1)) (gb_Rs 3 f p1) ∧ r + 1 < 109))) := by
  refine hc_mono (hc_and (cx_dawn h hM) ch_dawnAt) (fun s r g => ⟨g.1.1, ?_⟩)
  obtain ⟨⟨-, g1⟩, -, g2⟩ := g
  rcases g1 with z | z
  · exact Or.inl z
  · rcases g2 with y | ⟨m, y1, y2, y3, y4⟩
    · exact absurd y.1 z.1
    · exact Or.inr ⟨z.1, z.2.1, z.2.2.1, by rw [y3]; exact o_lt (by decide) y2⟩
theorem DD_R {f : gb_F} {p1 : Int32} (hM : gb_TM f) (hD : gb_DD f) (h : gb_i0 p1 (f 1 3)) : ¬ gb_dup (gb_Rs 3 f p1) := by
  have i := (hl_0 hM.2 (s := 3) (by decide)).2
  have d := hD 0 p1.toInt.toNat (by decide) (by have := h.1; have := h.2; omega)
  have e : (fun j => f 1 (992 * 0 + gb_pl 3 p1.toInt.toNat + j)) = gb_Rs 3 f p1 := by
    funext j
    unfold gb_Rs
    rw [Nat.mul_zero, Nat.zero_add]
  rw [e] at d
  exact d
def gb_qft (f : gb_F) (p1 p2 : Int32) : Int → Prop := gb_ifn (gb_i0 p1 (f 1 0) ∧ gb_i0 p2 (f 1 3)) (fun z => z = ((gb_Zy (gb_Rs 0 f p1) (gb_Rs 3 f p2) none (gb_fnD (gb_Rs 3 f p2)) : Nat) : Int))
theorem c_fits {n : Nat} {σ : gb_S} {f : gb_F} {p1 p2 : Int32} (h : gb_R σ f) (hM : gb_TM f) (hD : gb_DD f) (hJ : gb_JJ σ) : gb_hc (cs_Face_fits n σ p1 p2) (fun _ r => gb_qft f p1 p2 r.toInt) := by
  have m1 : (-1 : Int64).toInt = -1 := by decide
  unfold cs_Face_fits gb_qft
  refine hc_cd (cy_border h hM) (fun s r g => ?_)
  obtain ⟨g0, g⟩ := g
  subst s
  refine hc_if (fun c => ?_) (fun c => ?_)
  · have nb : ¬ (gb_i0 p1 (f 1 0) ∧ gb_i0 p2 (f 1 3)) := fun z => by
      rcases g with y | y
      · exact y.2 z.1
      · exact y.1 c
    refine hc_cd (cy_dawn h hM) (fun s r2 g2 => ?_)
    exact hc_if (fun _ => hc_some (ifn_n nb m1)) (fun _ => hc_kk (fun _ => hc_some (ifn_n nb m1)))
  · rcases g with y | ⟨y1, y2, y3, y4, y5⟩
    · exact absurd y.1 c
    refine hc_kk (fun _ => hc_cd (cy_dawn h hM) (fun s r2 g2 => ?_))
    obtain ⟨g0, g2⟩ := g2
    subst s
    refine hc_if (fun c2 => hc_some (ifn_n (fun z => ?_) m1)) (fun c2 => hc_kk (fun _ => ?_))
    · rcases g2 with y | y
      · exact y.2 z.2
      · exact y.1 c2
    rcases g2 with z | ⟨w1, w2, w3, w4⟩
    · exact absurd z.1 c2
    refine hc_cd (ch_find (q := none) y4 y5 w4 y3 w3 (raD_of hM w2) (DD_R hM hD w2) hJ (Or.inl ⟨rfl, rfl, rfl⟩)) (fun s _ g => hc_cd (ch_all y4 g) (fun s2 r3 g3 => hc_some (ifn_y ⟨y2, w2⟩ g3.2)))
theorem Zy_b {R DR : Nat → Int32} {q : Option (Nat × Nat)} {i : Nat} (hR : gb_rB R) : gb_Zy R DR q i ≤ 2000000 := by
  have h5 := (rB_nP hR).2
  have h8 := (rB_nG hR).2
  have l : gb_Zy R DR q i ≤ (gb_nP R + 1) ^ gb_nG R := cn_le _ _ _
  have l2 : (gb_nP R + 1) ^ gb_nG R ≤ 6 ^ gb_nG R := Nat.pow_le_pow_left (by omega) _
  have l3 : 6 ^ gb_nG R ≤ 6 ^ 8 := Nat.pow_le_pow_right (by decide) h8
  have l4 : (6 : Nat) ^ 8 = 1679616 := by decide
  omega
theorem of_64 {N : Nat} (h : N ≤ 1000000000) : (Int64.ofNat N).toInt = N := by
  refine Int64.toInt_ofNat_of_lt ?_
  have : (2 : Nat) ^ 63 = 9223372036854775808 := by decide
  omega
theorem m_fits {n : Nat} {f : gb_F} {w : Int64} {p1 p2 : Int32} (hM : gb_TM f) (hD : gb_DD f) : gb_hm (ms_fits n f w p1 p2) (fun _ _ q => gb_qft f p1 p2 q.toInt) := by
  have m1 : (-1 : Int64).toInt = -1 := by decide
  unfold ms_fits gb_qft
  refine hm_bd (mh_areSeen hM) (fun f1 w1 r g => ?_)
  refine hm_if (fun c => hm_some (ifn_n (yn_0 g c) m1)) (fun c => ?_)
  obtain ⟨bo, hM1, e1, md, m, mb⟩ := yn_1 g c
  refine hm_bd (mh_tries mb md (raD_of hM bo.2) (DD_R hM hD bo.2)) (fun f2 w2 _ A => hm_some (ifn_y bo ?_))
  rw [A.1, of_64 (by have := Zy_b (DR := gb_Rs 3 f p2) (q := none) (i := gb_fnD (gb_Rs 3 f p2)) (mbx_rB mb); omega)]
theorem e_fits {σ σ2 : gb_S} {f f2 : gb_F} {w w2 : Int64} {p1 p2 : Int32} {ra qa : Int64} (_ : gb_TC σ) (hM : gb_TM f) (h : gb_R σ f) (hD : gb_DD f) (hJ : gb_JJ σ) (ec : cs_Face_fits gb_N σ p1 p2 = some (σ2, ra)) (em : ms_fits gb_N f w p1 p2 = some (f2, w2, qa)) : ra = qa := Int64.toInt_inj.mp (ifn_uq (fun _ _ x y => x.trans y.symm) (c_fits h hM hD hJ _ _ ec) (m_fits hM hD _ _ _ em))
/-! TOLD: THE GOOSE THAT ALONE MAKES A LINE -/
def gb_hit (R DR : Nat → Int32) (g : Nat) : Prop := ∃ i, i < gb_fnD DR ∧ gb_fpa DR i < gb_nP R ∧ gb_fm R g (gb_fpa DR i) = DR (2 + 2 * i)
def gb_hiti (R DR : Nat → Int32) (g t : Nat) : Prop := ∃ i, i < t ∧ gb_fpa DR i < gb_nP R ∧ gb_fm R g (gb_fpa DR i) = DR (2 + 2 * i)
def gb_qto (R DR : Nat → Int32) (r : Int32) : Prop := (∃ g : Nat, g < gb_nG R ∧ r.toInt = g ∧ gb_hit R DR g ∧ ∀ j, j < g → ¬ gb_hit R DR j) ∨ (r = -1 ∧ ∀ g, g < gb_nG R → ¬ gb_hit R DR g)
theorem qto_u {R DR : Nat → Int32} {r q : Int32} (h : gb_qto R DR r) (h2 : gb_qto R DR q) : r = q := by
  rcases h with ⟨g, a1, a2, a3, a4⟩ | ⟨a1, a2⟩
  · rcases h2 with ⟨g2, b1, b2, b3, b4⟩ | ⟨b1, b2⟩
    · have : g = g2 := by
        by_cases c : g < g2
        · exact absurd a3 (b4 g c)
        · by_cases d : g2 < g
          · exact absurd b3 (a4 g2 d)
          · omega
      exact gb_ieq (by rw [a2, b2, this])
    · exact absurd a3 (b2 g a1)
  · rcases h2 with ⟨g2, b1, b2, b3, b4⟩ | ⟨b1, b2⟩
    · exact absurd b3 (a2 g2 b1)
    · rw [a1, b1]
theorem hiti_s {R DR : Nat → Int32} {g t : Nat} (h : ¬ gb_hiti R DR g t) (h2 : ¬ (gb_fpa DR t < gb_nP R ∧ gb_fm R g (gb_fpa DR t) = DR (2 + 2 * t))) : ¬ gb_hiti R DR g (t + 1) := fun ⟨i, a, b, c⟩ => by
  by_cases z : i = t
  · rw [z] at b c
    exact h2 ⟨b, c⟩
  · exact h ⟨i, by omega, b, c⟩
theorem ch_toe12 {n k0 k1 g : Nat} {R DR : Nat → Int32} {σ : gb_S} {v2 : Int32} {k2 : gb_S → Nat → Nat → Int32 → gb_CR Int32} {Q : gb_S → Int32 → Prop} (hR : gb_rB R) (hb : gb_cbx k0 R σ) (hS : gb_RS 3 (σ.1 (k1 + 1)) DR) (ra : ∀ j, j < 11 → gb_iv (gt_R 3 j).1 (gt_R 3 j).2 (DR j)) (e2 : v2.toInt = g) (hg : g < gb_nG R) (H : ¬ gb_hit R DR g → ∀ x : Int32, x = v2 + 1 → gb_hc (k2 σ k0 k1 x) Q) (H2 : gb_hit R DR g → Q σ v2) : ∀ (mm : Nat) (v3 : Int32) (i : Nat), v3.toInt = i → i ≤ gb_fnD DR → ¬ gb_hiti R DR g i → gb_hc (cs_Face_toeOf_B_D_12 n k2 mm σ k0 k1 v2 v3) Q := by
  have r0 := (raD_m (k := 0) ra (by decide)).2.2
  have r01 := r0.1
  have r02 := r0.2
  have rP := (rB_nP hR).1
  have eN : (DR 0).toInt = gb_fnD DR := by
    unfold gb_fnD
    omega
  intro mm
  induction mm with
  | zero =>
    intros
    exact hc_none
  | succ mm ih =>
    intro v3 i e hi nh
    rw [cs_Face_toeOf_B_D_12]
    refine hc_kk (fun _ => hc_kk (fun _ => hc_cd ch_sizeD (fun s r ⟨g0, g1⟩ => ?_)))
    subst g0
    rw [hS.1] at g1
    refine hc_if (fun c => hc_lt (fun x ex => H (fun z => ?_) x ex)) (fun c => ?_)
    · have c' := gi_le c
      rw [g1, eN] at c'
      have : i = gb_fnD DR := by omega
      rw [this] at nh
      exact nh z
    · have c' := gi_nle c
      rw [g1, eN] at c'
      have il : i < gb_fnD DR := by omega
      have cell := hS.2.2.2 rfl i (by unfold gb_fnD at il; exact il)
      have rk := raD_m (k := i) ra (by omega)
      have rk1 := rk.1.1
      refine hc_cd (ch_pathSeen e (by omega)) (fun s2 r2 ⟨g0, g2⟩ => ?_)
      subst g0
      rw [cell.1] at g2
      have ep : r2.toInt = gb_fpa DR i := by
        rw [g2]
        unfold gb_fpa
        omega
      refine hc_cd (cbx_has hb) (fun s3 r3 ⟨g0, g3⟩ => ?_)
      subst g0
      refine hc_if (fun d => hc_lt (fun x ex => ih x (i + 1) (gi_1 e (by omega) ex) (by omega) (hiti_s nh (fun z => ?_)))) (fun d => ?_)
      · exact (yn_0 g3 d) ⟨by omega, by have := z.1; omega⟩
      · have q := yn_1 g3 d
        have pl : gb_fpa DR i < gb_nP R := by
          have := q.2.2
          omega
        refine hc_cd (ch_marksFirst hb hR e2 hg ep pl) (fun s4 r4 ⟨g0, g4⟩ => ?_)
        subst g0
        refine hc_cd (ch_marksSeen e (by omega)) (fun s5 r5 ⟨g0, g5⟩ => ?_)
        subst g0
        rw [cell.2] at g5
        rw [g4, g5]
        refine hc_if (fun z => hc_some (H2 ⟨i, il, pl, z⟩)) (fun z => hc_lt (fun x ex => ih x (i + 1) (gi_1 e (by omega) ex) (by omega) (hiti_s nh (fun y => z y.2))))
theorem ch_toe2 {n k0 k1 : Nat} {R DR : Nat → Int32} {σ : gb_S} (hR : gb_rB R) (hb : gb_cbx k0 R σ) (hS : gb_RS 3 (σ.1 (k1 + 1)) DR) (ra : ∀ j, j < 11 → gb_iv (gt_R 3 j).1 (gt_R 3 j).2 (DR j)) : ∀ (mm : Nat) (v2 : Int32) (g : Nat), v2.toInt = g → g ≤ gb_nG R → (∀ j, j < g → ¬ gb_hit R DR j) → gb_hc (cs_Face_toeOf_B_D_2 n mm σ k0 k1 v2) (fun _ r => gb_qto R DR r) := by
  have h8 := (rB_nG hR).2
  have rG := (rB_nG hR).1
  intro mm
  induction mm with
  | zero =>
    intros
    exact hc_none
  | succ mm ih =>
    intro v2 g e hg nh
    rw [cs_Face_toeOf_B_D_2]
    refine hc_kk (fun _ => hc_kk (fun _ => hc_cd ch_geese (fun s r ⟨g0, g1⟩ => ?_)))
    subst g0
    rw [(hb.2.1 rfl).1] at g1
    refine hc_if (fun c => hc_some (Or.inr ⟨rfl, fun j hj => nh j ?_⟩)) (fun c => ?_)
    · have c' := gi_le c
      rw [g1, rG] at c'
      omega
    · have c' := gi_nle c
      rw [g1, rG] at c'
      have gl : g < gb_nG R := by omega
      refine ch_toe12 hR hb hS ra e gl (fun hn x ex => ih x (g + 1) (gi_1 e (by omega) ex) (by omega) (fun j hj => ?_)) (fun hh => Or.inl ⟨g, gl, e, hh, nh⟩) n 0 0 (by decide) (Nat.zero_le _) (fun ⟨i, a, _⟩ => absurd a (Nat.not_lt_zero i))
      by_cases z : j = g
      · rw [z]
        exact hn
      · exact nh j (by omega)
theorem ch_toe {n k0 k1 : Nat} {R DR : Nat → Int32} {σ : gb_S} (hR : gb_rB R) (hb : gb_cbx k0 R σ) (hS : gb_RS 3 (σ.1 (k1 + 1)) DR) (ra : ∀ j, j < 11 → gb_iv (gt_R 3 j).1 (gt_R 3 j).2 (DR j)) : gb_hc (cs_Face_toeOf_B_D n σ k0 k1) (fun _ r => gb_qto R DR r) := by
  unfold cs_Face_toeOf_B_D
  exact hc_kk (fun _ => hc_kk (fun _ => ch_toe2 hR hb hS ra n 0 0 (by decide) (Nat.zero_le _) (fun j hj => absurd hj (Nat.not_lt_zero j))))
theorem mh_toe16 {n m g : Nat} {R DR : Nat → Int32} {f : gb_F} {v1 : Int32} {k6 : gb_F → Int64 → Int32 → gb_MR Int32} {Q : gb_F → Int64 → Int32 → Prop} (hb : gb_mbx m R f) (me : gb_meas R f) (hd : gb_mdawn DR f) (ra : ∀ j, j < 11 → gb_iv (gt_R 3 j).1 (gt_R 3 j).2 (DR j)) (e1 : v1.toInt = g) (hg : g < gb_nG R) (H : ¬ gb_hit R DR g → ∀ (w : Int64) (x : Int32), x = v1 + 1 → gb_hm (k6 f w x) Q) (H2 : gb_hit R DR g → ∀ w : Int64, Q f w v1) : ∀ (mm : Nat) (w : Int64) (v2 : Int32) (i : Nat), v2.toInt = i → i ≤ gb_fnD DR → ¬ gb_hiti R DR g i → gb_hm (ms_toe_16 n k6 mm f w v1 v2) Q := by
  have z0 : (0 : Int32).toInt = ((0 : Nat) : Int) := by decide
  have z1 : (1 : Int32).toInt = ((1 : Nat) : Int) := by decide
  have hR := mbx_rB hb
  have h5 := (rB_nP hR).2
  have h8 := (rB_nG hR).2
  have rP := (rB_nP hR).1
  have r0 := (raD_m (k := 0) ra (by decide)).2.2
  have r01 := r0.1
  have r02 := r0.2
  have eN : (DR 0).toInt = gb_fnD DR := by
    unfold gb_fnD
    omega
  intro mm
  induction mm with
  | zero =>
    intros
    exact hm_none
  | succ mm ih =>
    intro w v2 i e hi nh
    rw [ms_toe_16, mx_ndawn hd]
    refine hm_ck (fun _ _ => hm_lt (fun x3 e3 => hm_if (fun c => hm_lt (fun x ex => H (fun z => ?_) w x ex)) (fun c => ?_)))
    · have c' := gi_le c
      rw [e3, eN] at c'
      have : i = gb_fnD DR := by omega
      rw [this] at nh
      exact nh z
    · have c' := gi_nle c
      rw [e3, eN] at c'
      have il : i < gb_fnD DR := by omega
      have rk := raD_m (k := i) ra (by omega)
      have rk1 := rk.1.1
      have sp : ∀ r : Int32, r = DR (1 + 2 * i + 0) → r.toInt = gb_fpa DR i := fun r er => by
        rw [er, Nat.add_zero]
        unfold gb_fpa
        omega
      refine hm_bd (mx_seenOf hd e (by omega) z0 (by decide)) (fun f2 w2 r2 ⟨q1, q2, q3⟩ => ?_)
      rw [q1, q2]
      have ep := sp r2 q3
      refine hm_bd (mbx_has hb) (fun f3 w3 r3 ⟨q4, q5, q6⟩ => ?_)
      rw [q4, q5]
      refine hm_if (fun d => hm_lt (fun x ex => ih w x (i + 1) (gi_1 e (by omega) ex) (by omega) (hiti_s nh (fun z => ?_)))) (fun d => ?_)
      · exact (yn_0 q6 d) ⟨by omega, by have := z.1; omega⟩
      · have q := yn_1 q6 d
        have pl : gb_fpa DR i < gb_nP R := by
          have := q.1.2
          omega
        refine hm_bd (mx_seenOf hd e (by omega) z0 (by decide)) (fun f4 w4 r4 ⟨u1, u2, u3⟩ => ?_)
        rw [u1, u2]
        rw [gi_tn (gi_5g e1 (sp r4 u3) (by omega) (by omega)), me g (gb_fpa DR i) hg pl]
        refine hm_ck (fun _ _ => hm_lt (fun x34 e34 => hm_bd (mx_seenOf hd e (by omega) z1 (by decide)) (fun f5 w5 r5 ⟨t1, t2, t3⟩ => ?_)))
        rw [t1, t2]
        have t4 : r5 = DR (2 + 2 * i) := by rw [t3, show 1 + 2 * i + 1 = 2 + 2 * i by omega]
        rw [e34, t4]
        refine hm_if (fun z => hm_some (H2 ⟨i, il, pl, z⟩ _)) (fun z => hm_lt (fun x ex => ih w x (i + 1) (gi_1 e (by omega) ex) (by omega) (hiti_s nh (fun y => z y.2))))
theorem mh_toe6 {n m : Nat} {R DR : Nat → Int32} {f : gb_F} (hb : gb_mbx m R f) (me : gb_meas R f) (hd : gb_mdawn DR f) (ra : ∀ j, j < 11 → gb_iv (gt_R 3 j).1 (gt_R 3 j).2 (DR j)) : ∀ (mm : Nat) (w : Int64) (v1 : Int32) (g : Nat), v1.toInt = g → g ≤ gb_nG R → (∀ j, j < g → ¬ gb_hit R DR j) → gb_hm (ms_toe_6 n mm f w v1) (fun _ _ r => gb_qto R DR r) := by
  have hR := mbx_rB hb
  have h8 := (rB_nG hR).2
  have rG := (rB_nG hR).1
  intro mm
  induction mm with
  | zero =>
    intros
    exact hm_none
  | succ mm ih =>
    intro w v1 g e hg nh
    rw [ms_toe_6]
    refine hm_bd (mx_geese hb) (fun f1 w1 r ⟨g1, g2, g3⟩ => ?_)
    rw [g1, g2, g3]
    refine hm_if (fun c => hm_some (Or.inr ⟨rfl, fun j hj => nh j ?_⟩)) (fun c => ?_)
    · have c' := gi_le c
      rw [rG] at c'
      omega
    · have c' := gi_nle c
      rw [rG] at c'
      have gl : g < gb_nG R := by omega
      refine mh_toe16 hb me hd ra e gl (fun hn w x ex => ih w x (g + 1) (gi_1 e (by omega) ex) (by omega) (fun j hj => ?_)) (fun hh _ => Or.inl ⟨g, gl, e, hh, nh⟩) n w 0 0 (by decide) (Nat.zero_le _) (fun ⟨i, a, _⟩ => absurd a (Nat.not_lt_zero i))
      by_cases z : j = g
      · rw [z]
        exact hn
      · exact nh j (by omega)
theorem mh_toe {n m : Nat} {R DR : Nat → Int32} {f : gb_F} {w : Int64} (hb : gb_mbx m R f) (hd : gb_mdawn DR f) (ra : ∀ j, j < 11 → gb_iv (gt_R 3 j).1 (gt_R 3 j).2 (DR j)) : gb_hm (ms_toe n f w) (fun _ _ r => gb_qto R DR r) := by
  unfold ms_toe
  refine hm_bd (mh_measures hb) (fun f1 w1 _ ⟨a1, a2, a3⟩ => ?_)
  exact mh_toe6 a1 a3 (mdawn_fr hd (by rw [a2 0 (by decide)]) (a2 1 (by decide))) ra n w1 0 0 (by decide) (Nat.zero_le _) (fun j hj => absurd hj (Nat.not_lt_zero j))
/-! TOLD -/
theorem cm_le {x : Int64} {N : Nat} (e : x.toInt = N) : (lg_cmp x 0 ≤ 0) ↔ N = 0 := by
  have z64 : (0 : Int64).toInt = 0 := by decide
  unfold lg_cmp
  by_cases a : x > 0
  · rw [if_pos a]
    have a' : (0 : Int64).toInt < x.toInt := Int64.lt_iff_toInt_lt.mp a
    exact ⟨fun h => absurd h (by decide), fun h => by omega⟩
  · rw [if_neg a]
    have a' : ¬ (0 : Int64).toInt < x.toInt := fun z => a (Int64.lt_iff_toInt_lt.mpr z)
    refine ⟨fun _ => by omega, fun _ => ?_⟩
    by_cases b : x = 0
    · rw [if_pos b]
      decide
    · rw [if_neg b]
      decide
theorem Wy_p {R DR : Nat → Int32} {S : Nat} : 0 < gb_Wy R DR none (gb_fnD DR) S ↔ ∃ a, gb_vld R DR a ∧ gb_gon R S a := by
  unfold gb_Wy
  rw [cn_p]
  exact ⟨fun ⟨a, l, h⟩ => ⟨a, ⟨l, h.1⟩, h.2⟩, fun ⟨a, h, g⟩ => ⟨a, h.1, h.2, g⟩⟩
theorem Zy_p {R DR : Nat → Int32} : 0 < gb_Zy R DR none (gb_fnD DR) ↔ ∃ a, gb_vld R DR a := by
  unfold gb_Zy
  rw [cn_p]
  exact ⟨fun ⟨a, l, h⟩ => ⟨a, l, h⟩, fun ⟨a, h⟩ => ⟨a, h.1, h.2⟩⟩
theorem Zy_q {R DR : Nat → Int32} {g l : Nat} (hl : l < gb_fnD DR) : 0 < gb_Zy R DR (some (g, l)) (gb_fnD DR) ↔ ∃ a, gb_vld R DR a ∧ a g = gb_fpa DR l + 1 := by
  unfold gb_Zy
  rw [cn_p]
  refine ⟨fun ⟨a, h, q⟩ => ⟨a, ⟨h, q.1, q.2.1, fun _ _ e => by cases e⟩, q.2.2 g l rfl hl⟩, fun ⟨a, h, e⟩ => ⟨a, h.1, h.2.1, h.2.2.1, fun g2 l2 e2 _ => ?_⟩⟩
  cases e2
  exact e
theorem gon_m {R : Nat → Int32} (a : Nat → Nat) : ∃ S, S < 2 ^ gb_nG R ∧ gb_gon R S a := by
  have m := msk_t (P := fun g => ¬ a g = 0) (gb_nG R)
  exact ⟨_, m.1, fun g hg => by rw [m.2 g]; exact ⟨fun y => y.2, fun y => ⟨hg, y⟩⟩⟩
theorem pc_pop {R : Nat → Int32} {S : Nat} {a : Nat → Nat} (hR : gb_rB R) (hS : S < 2 ^ gb_nG R) (h : gb_gon R S a) : gb_pc S 8 = (gb_pop a (gb_nG R) : Int) := by
  unfold gb_pc
  rw [ss_8 hS (rB_nG hR).2]
  exact pop_gs _ h
theorem ch_few5 {n : Nat} {R DR : Nat → Int32} {σ0 σ : gb_S} (hR : gb_rB R) (hw : gb_wy R DR none (gb_fnD DR) σ0 σ) : ∀ (mm : Nat) (v1 v2 : Int32) (t : Nat), v2.toInt = t → t ≤ 2 ^ gb_nG R → (∀ S, S < t → 0 < gb_Wy R DR none (gb_fnD DR) S → v1.toInt ≤ gb_pc S 8) → (v1.toInt = 8 ∨ ∃ S, S < t ∧ 0 < gb_Wy R DR none (gb_fnD DR) S ∧ v1.toInt = gb_pc S 8) → gb_hc (cs_Flocks_fewestGone_5 n mm σ v1 v2) (fun _ r => (∀ a, gb_vld R DR a → r.toInt ≤ gb_pop a (gb_nG R)) ∧ (r.toInt = 8 ∨ ∃ a, gb_vld R DR a ∧ r.toInt = gb_pop a (gb_nG R))) := by
  have h8 := (rB_nG hR).2
  have p8 := p2_8 h8
  have es := hw.2.1
  intro mm
  induction mm with
  | zero =>
    intros
    exact hc_none
  | succ mm ih =>
    intro v1 v2 t e ht h1 h2
    rw [cs_Flocks_fewestGone_5, gi_tn e]
    refine hc_if (fun c => hc_some ⟨fun a ha => ?_, ?_⟩) (fun c => hc_kk (fun _ => hc_ck (fun _ _ => hc_lt (fun x4 e4 => ?_))))
    · have c' := gi_le c
      obtain ⟨S, hS, hg⟩ := gon_m (R := R) a
      have := h1 S (by omega) (Wy_p.mpr ⟨a, ha, hg⟩)
      rw [pc_pop hR hS hg] at this
      exact this
    · have c' := gi_le c
      rcases h2 with y | ⟨S, y1, y2, y3⟩
      · exact Or.inl y
      · obtain ⟨a, ha, hg⟩ := Wy_p.mp y2
        exact Or.inr ⟨a, ha, by rw [y3]; exact pc_pop hR (by omega) hg⟩
    · have c' := gi_nle c
      have w := hw.2.2.2 t (by omega)
      rw [← e4] at w
      refine hc_if (fun d => hc_lt (fun x ex => ih v1 x (t + 1) (gi_1 e (by omega) ex) (by omega) (fun S hS hp => ?_) ?_)) (fun d => hc_cd (ch_bc e (by omega)) (fun s7 r8 ⟨g0, g8⟩ => ?_))
      · have z := (cm_le w).mp d
        by_cases q : S = t
        · rw [q] at hp
          omega
        · exact h1 S (by omega) hp
      · rcases h2 with y | ⟨S, y1, y2, y3⟩
        · exact Or.inl y
        · exact Or.inr ⟨S, by omega, y2, y3⟩
      · subst g0
        have wp : 0 < gb_Wy R DR none (gb_fnD DR) t := Nat.pos_of_ne_zero (fun z => d ((cm_le w).mpr z))
        refine hc_lt (fun x11 e11 => hc_lt (fun x ex => ih x11 x (t + 1) (gi_1 e (by omega) ex) (by omega) (fun S hS hp => ?_) ?_))
        · have old : ¬ S = t → v1.toInt ≤ gb_pc S 8 := fun q => h1 S (by omega) hp
          by_cases u : r8 < v1
          · rw [if_pos u] at e11
            have u' := gi_lt u
            rw [e11]
            by_cases q : S = t
            · rw [q]
              omega
            · have := old q
              omega
          · rw [if_neg u] at e11
            have u' := gi_nlt u
            rw [e11]
            by_cases q : S = t
            · rw [q]
              omega
            · exact old q
        · by_cases u : r8 < v1
          · rw [if_pos u] at e11
            exact Or.inr ⟨t, by omega, wp, by rw [e11]; exact g8⟩
          · rw [if_neg u] at e11
            rw [e11]
            rcases h2 with y | ⟨S, y1, y2, y3⟩
            · exact Or.inl y
            · exact Or.inr ⟨S, by omega, y2, y3⟩
theorem ch_few {n : Nat} {R DR : Nat → Int32} {σ0 σ : gb_S} (hR : gb_rB R) (hw : gb_wy R DR none (gb_fnD DR) σ0 σ) : gb_hc (cs_Flocks_fewestGone n σ) (fun _ r => (∀ a, gb_vld R DR a → r.toInt ≤ gb_pop a (gb_nG R)) ∧ (r.toInt = 8 ∨ ∃ a, gb_vld R DR a ∧ r.toInt = gb_pop a (gb_nG R))) := by
  unfold cs_Flocks_fewestGone
  exact ch_few5 hR hw n 8 0 0 (by decide) (Nat.zero_le _) (fun S hS => absurd hS (Nat.not_lt_zero S)) (Or.inl (by decide))
theorem ch_most4 {n : Nat} {R DR : Nat → Int32} {σ0 σ : gb_S} (hR : gb_rB R) (hw : gb_wy R DR none (gb_fnD DR) σ0 σ) : ∀ (mm : Nat) (v1 v2 : Int32) (t : Nat), v2.toInt = t → t ≤ 2 ^ gb_nG R → (∀ S, S < t → 0 < gb_Wy R DR none (gb_fnD DR) S → gb_pc S 8 ≤ v1.toInt) → (v1.toInt = 0 ∨ ∃ S, S < t ∧ 0 < gb_Wy R DR none (gb_fnD DR) S ∧ v1.toInt = gb_pc S 8) → gb_hc (cs_Flocks_mostGone_4 n mm σ v1 v2) (fun _ r => (∀ a, gb_vld R DR a → (gb_pop a (gb_nG R) : Int) ≤ r.toInt) ∧ (r.toInt = 0 ∨ ∃ a, gb_vld R DR a ∧ r.toInt = gb_pop a (gb_nG R))) := by
  have h8 := (rB_nG hR).2
  have p8 := p2_8 h8
  have es := hw.2.1
  intro mm
  induction mm with
  | zero =>
    intros
    exact hc_none
  | succ mm ih =>
    intro v1 v2 t e ht h1 h2
    rw [cs_Flocks_mostGone_4, gi_tn e]
    refine hc_if (fun c => hc_some ⟨fun a ha => ?_, ?_⟩) (fun c => hc_kk (fun _ => hc_ck (fun _ _ => hc_lt (fun x4 e4 => ?_))))
    · have c' := gi_le c
      obtain ⟨S, hS, hg⟩ := gon_m (R := R) a
      have := h1 S (by omega) (Wy_p.mpr ⟨a, ha, hg⟩)
      rw [pc_pop hR hS hg] at this
      exact this
    · have c' := gi_le c
      rcases h2 with y | ⟨S, y1, y2, y3⟩
      · exact Or.inl y
      · obtain ⟨a, ha, hg⟩ := Wy_p.mp y2
        exact Or.inr ⟨a, ha, by rw [y3]; exact pc_pop hR (by omega) hg⟩
    · have c' := gi_nle c
      have w := hw.2.2.2 t (by omega)
      rw [← e4] at w
      refine hc_if (fun d => hc_lt (fun x ex => ih v1 x (t + 1) (gi_1 e (by omega) ex) (by omega) (fun S hS hp => ?_) ?_)) (fun d => hc_cd (ch_bc e (by omega)) (fun s7 r8 ⟨g0, g8⟩ => ?_))
      · have z := (cm_le w).mp d
        by_cases q : S = t
        · rw [q] at hp
          omega
        · exact h1 S (by omega) hp
      · rcases h2 with y | ⟨S, y1, y2, y3⟩
        · exact Or.inl y
        · exact Or.inr ⟨S, by omega, y2, y3⟩
      · subst g0
        have wp : 0 < gb_Wy R DR none (gb_fnD DR) t := Nat.pos_of_ne_zero (fun z => d ((cm_le w).mpr z))
        refine hc_lt (fun x11 e11 => hc_lt (fun x ex => ih x11 x (t + 1) (gi_1 e (by omega) ex) (by omega) (fun S hS hp => ?_) ?_))
        · have old : ¬ S = t → gb_pc S 8 ≤ v1.toInt := fun q => h1 S (by omega) hp
          by_cases u : v1 < r8
          · rw [if_pos u] at e11
            have u' := gi_lt u
            rw [e11]
            by_cases q : S = t
            · rw [q]
              omega
            · have := old q
              omega
          · rw [if_neg u] at e11
            have u' := gi_nlt u
            rw [e11]
            by_cases q : S = t
            · rw [q]
              omega
            · exact old q
        · by_cases u : v1 < r8
          · rw [if_pos u] at e11
            exact Or.inr ⟨t, by omega, wp, by rw [e11]; exact g8⟩
          · rw [if_neg u] at e11
            rw [e11]
            rcases h2 with y | ⟨S, y1, y2, y3⟩
            · exact Or.inl y
            · exact Or.inr ⟨S, by omega, y2, y3⟩
theorem ch_most {n : Nat} {R DR : Nat → Int32} {σ0 σ : gb_S} (hR : gb_rB R) (hw : gb_wy R DR none (gb_fnD DR) σ0 σ) : gb_hc (cs_Flocks_mostGone n σ) (fun _ r => (∀ a, gb_vld R DR a → (gb_pop a (gb_nG R) : Int) ≤ r.toInt) ∧ (r.toInt = 0 ∨ ∃ a, gb_vld R DR a ∧ r.toInt = gb_pop a (gb_nG R))) := by
  unfold cs_Flocks_mostGone
  exact ch_most4 hR hw n 0 0 0 (by decide) (Nat.zero_le _) (fun S hS => absurd hS (Nat.not_lt_zero S)) (Or.inl (by decide))
theorem tb_N {x : Int32} {S : Nat} (e : x.toInt = S) (hS : S < 1000) (i : Nat) : gb_tbt x i = S.testBit i := by
  have ev : x = Int32.ofNat S := gi_nI e (by omega)
  rw [ev]
  unfold gb_tbt
  show (BitVec.ofNat 32 S).getLsbD i = _
  rw [BitVec.getLsbD_ofNat]
  by_cases c : i < 32
  · rw [decide_eq_true c, Bool.true_and]
  · rw [decide_eq_false c, Bool.false_and]
    refine (Nat.testBit_lt_two_pow (Nat.lt_of_lt_of_le hS ?_)).symm
    exact Nat.le_trans (by decide) (Nat.pow_le_pow_right (n := 2) (by decide) (show 32 ≤ i by omega))
theorem ch_sure9 {n : Nat} {R DR : Nat → Int32} {σ0 σ : gb_S} (hR : gb_rB R) (hw : gb_wy R DR none (gb_fnD DR) σ0 σ) : ∀ (mm : Nat) (v1 v2 : Int32) (t : Nat), v2.toInt = t → t ≤ 2 ^ gb_nG R → (∀ i, gb_tbt v1 i = true ↔ i < gb_nG R ∧ ∀ S, S < t → 0 < gb_Wy R DR none (gb_fnD DR) S → S.testBit i = true) → gb_hc (cs_Flocks_sureOnes_9 n mm σ v1 v2) (fun _ r => ∀ i, gb_tbt r i = true ↔ i < gb_nG R ∧ ∀ a, gb_vld R DR a → ¬ a i = 0) := by
  have h8 := (rB_nG hR).2
  have p8 := p2_8 h8
  have es := hw.2.1
  intro mm
  induction mm with
  | zero =>
    intros
    exact hc_none
  | succ mm ih =>
    intro v1 v2 t e ht h1
    rw [cs_Flocks_sureOnes_9, gi_tn e]
    refine hc_if (fun c => hc_some (fun i => ?_)) (fun c => hc_kk (fun _ => hc_ck (fun _ _ => hc_lt (fun x4 e4 => ?_))))
    · have c' := gi_le c
      rw [h1 i]
      refine ⟨fun y => ⟨y.1, fun a ha => ?_⟩, fun y => ⟨y.1, fun S hS hp => ?_⟩⟩
      · obtain ⟨S, hS, hg⟩ := gon_m (R := R) a
        exact (hg i y.1).mp (y.2 S (by omega) (Wy_p.mpr ⟨a, ha, hg⟩))
      · obtain ⟨a, ha, hg⟩ := Wy_p.mp hp
        exact (hg i y.1).mpr (y.2 a ha)
    · have c' := gi_nle c
      have w := hw.2.2.2 t (by omega)
      rw [← e4] at w
      refine hc_if (fun d => hc_lt (fun x ex => ih v1 x (t + 1) (gi_1 e (by omega) ex) (by omega) (fun i => ?_))) (fun d => hc_lt (fun x8 e8 => hc_lt (fun x ex => ih x8 x (t + 1) (gi_1 e (by omega) ex) (by omega) (fun i => ?_))))
      · have z := (cm_le w).mp d
        rw [h1 i]
        refine ⟨fun y => ⟨y.1, fun S hS hp => ?_⟩, fun y => ⟨y.1, fun S hS hp => y.2 S (by omega) hp⟩⟩
        by_cases q : S = t
        · rw [q] at hp
          omega
        · exact y.2 S (by omega) hp
      · have wp : 0 < gb_Wy R DR none (gb_fnD DR) t := Nat.pos_of_ne_zero (fun z => d ((cm_le w).mpr z))
        rw [e8, tb_an, h1 i, tb_N e (by omega)]
        refine ⟨fun y => ⟨y.1.1, fun S hS hp => ?_⟩, fun y => ⟨⟨y.1, fun S hS hp => y.2 S (by omega) hp⟩, y.2 t (by omega) wp⟩⟩
        by_cases q : S = t
        · rw [q]
          exact y.2
        · exact y.1.2 S (by omega) hp
theorem ch_sure {n : Nat} {R DR : Nat → Int32} {σ0 σ : gb_S} (hR : gb_rB R) (hw : gb_wy R DR none (gb_fnD DR) σ0 σ) : gb_hc (cs_Flocks_sureOnes n σ) (fun _ r => ∀ i, gb_tbt r i = true ↔ i < gb_nG R ∧ ∀ a, gb_vld R DR a → ¬ a i = 0) := by
  have z1 : (1 : Int32).toInt = 1 := by decide
  have h8 := (rB_nG hR).2
  have p8 := p2_8 h8
  have es := hw.2.1
  unfold cs_Flocks_sureOnes
  refine hc_lt (fun x ex => ch_sure9 hR hw n x 0 0 (by decide) (Nat.zero_le _) (fun i => ?_))
  have e : x.toInt = ((2 ^ gb_nG R - 1 : Nat) : Int) := by
    rw [ex, gb_tsub (by omega) (by omega), es, z1]
    omega
  rw [tb_N e (by omega), Nat.testBit_two_pow_sub_one, decide_eq_true_iff]
  exact ⟨fun y => ⟨y, fun S hS => absurd hS (Nat.not_lt_zero S)⟩, fun y => y.1⟩
theorem ch_any6 {n k0 k1 g : Nat} {R DR : Nat → Int32} {σ0 : gb_S} {v3 : Int32} (hR : gb_rB R) (k9 : k0 + 1 < 109) (k9' : k1 + 1 < 109) (hb : gb_cbx k0 R σ0) (hS : gb_RS 3 (σ0.1 (k1 + 1)) DR) (ra : ∀ j, j < 11 → gb_iv (gt_R 3 j).1 (gt_R 3 j).2 (DR j)) (nd : ¬ gb_dup DR) (e3 : v3.toInt = g) (hg : g < gb_nG R) : ∀ (mm : Nat) (σ : gb_S) (v4 v5 : Int32) (i : Nat), v5.toInt = i → i ≤ gb_fnD DR → (∀ c, c ≠ 130 → c ≠ 131 → σ.1 c = σ0.1 c) → gb_JJ σ → (∀ p, gb_tbt v4 p = true ↔ ∃ j, j < i ∧ gb_fpa DR j = p ∧ ∃ a, gb_vld R DR a ∧ a g = gb_fpa DR j + 1) → gb_hc (cs_Flocks_pathsInAnyWay_B_D_6 n mm σ k0 k1 v3 v4 v5) (fun _ r => ∀ p, gb_tbt r p = true ↔ ∃ a, gb_vld R DR a ∧ a g = p + 1) := by
  have r0 := (raD_m (k := 0) ra (by decide)).2.2
  have r01 := r0.1
  have r02 := r0.2
  have eN : (DR 0).toInt = gb_fnD DR := by
    unfold gb_fnD
    omega
  intro mm
  induction mm with
  | zero =>
    intros
    exact hc_none
  | succ mm ih =>
    intro σ v4 v5 i e hi w1 jj h4
    have c0 : σ.1 (k0 + 1) = σ0.1 (k0 + 1) := w1 _ (by omega) (by omega)
    have c1 : σ.1 (k1 + 1) = σ0.1 (k1 + 1) := w1 _ (by omega) (by omega)
    have hbσ : gb_cbx k0 R σ := by
      unfold gb_cbx
      rw [c0]
      exact hb
    have hSσ : gb_RS 3 (σ.1 (k1 + 1)) DR := by
      rw [c1]
      exact hS
    rw [cs_Flocks_pathsInAnyWay_B_D_6]
    refine hc_kk (fun _ => hc_kk (fun _ => hc_cd ch_sizeD (fun s r ⟨g0, g1⟩ => ?_)))
    subst g0
    rw [hSσ.1] at g1
    refine hc_if (fun c => hc_some (fun p => ?_)) (fun c => ?_)
    · have c' := gi_le c
      rw [g1, eN] at c'
      rw [h4 p]
      refine ⟨fun ⟨j, j1, j2, a, a1, a2⟩ => ⟨a, a1, by rw [← j2]; exact a2⟩, fun ⟨a, a1, a2⟩ => ?_⟩
      obtain ⟨j, hj, ej⟩ := a1.2.1 g hg (by omega)
      exact ⟨j, by omega, by omega, a, a1, ej⟩
    · have c' := gi_nle c
      rw [g1, eN] at c'
      have il : i < gb_fnD DR := by omega
      have cell := hSσ.2.2.2 rfl i (by unfold gb_fnD at il; exact il)
      have rk := raD_m (k := i) ra (by omega)
      have rk1 := rk.1.1
      have rk2 := rk.1.2
      refine hc_cd (ch_find (q := some (g, i)) hR k9 k9' hbσ hSσ ra nd jj (Or.inr ⟨g, i, rfl, e3, hg, e⟩)) (fun s10 _ gw => hc_cd (ch_all hR gw) (fun s14 r15 ⟨g0, g15⟩ => ?_))
      subst g0
      have w1' : ∀ c, c ≠ 130 → c ≠ 131 → s14.1 c = σ0.1 c := fun c a b => (gw.1 c a b).trans (w1 c a b)
      refine hc_if (fun d => hc_lt (fun x ex => ih s14 v4 x (i + 1) (gi_1 e (by omega) ex) (by omega) w1' gw.2.2.1 (fun p => ?_))) (fun d => ?_)
      · have z := (cm_le g15).mp d
        rw [h4 p]
        refine ⟨fun ⟨j, j1, j2⟩ => ⟨j, by omega, j2⟩, fun ⟨j, j1, j2, j3⟩ => ?_⟩
        by_cases q : j = i
        · rw [q] at j3
          have := (Zy_q il).mpr j3
          omega
        · exact ⟨j, by omega, j2, j3⟩
      · have zp := (Zy_q il).mp (Nat.pos_of_ne_zero (fun z => d ((cm_le g15).mpr z)))
        refine hc_cd (ch_pathSeen e (by omega)) (fun s20 r21 ⟨g0, g21⟩ => ?_)
        subst g0
        rw [gw.1 _ (by omega) (by omega), cell.1] at g21
        have ep : r21.toInt = gb_fpa DR i := by
          rw [g21]
          unfold gb_fpa
          omega
        have p5 : gb_fpa DR i < 8 := by
          unfold gb_fpa
          omega
        refine hc_lt (fun x24 e24 => hc_lt (fun x ex => ih s20 x24 x (i + 1) (gi_1 e (by omega) ex) (by omega) w1' gw.2.2.1 (fun p => ?_)))
        rw [e24, tb_oo, h4 p, tb_on ep p5]
        refine ⟨fun y => y.elim (fun ⟨j, j1, j2⟩ => ⟨j, by omega, j2⟩) (fun y => ⟨i, by omega, y.symm, zp⟩), fun ⟨j, j1, j2, j3⟩ => ?_⟩
        by_cases q : j = i
        · exact Or.inr (by rw [← q]; exact j2.symm)
        · exact Or.inl ⟨j, by omega, j2, j3⟩
theorem ch_any {n k0 k1 g : Nat} {R DR : Nat → Int32} {σ : gb_S} {v3 : Int32} (hR : gb_rB R) (k9 : k0 + 1 < 109) (k9' : k1 + 1 < 109) (hb : gb_cbx k0 R σ) (hS : gb_RS 3 (σ.1 (k1 + 1)) DR) (ra : ∀ j, j < 11 → gb_iv (gt_R 3 j).1 (gt_R 3 j).2 (DR j)) (nd : ¬ gb_dup DR) (jj : gb_JJ σ) (e3 : v3.toInt = g) (hg : g < gb_nG R) : gb_hc (cs_Flocks_pathsInAnyWay_B_D n σ k0 k1 v3) (fun _ r => ∀ p, gb_tbt r p = true ↔ ∃ a, gb_vld R DR a ∧ a g = p + 1) := by
  unfold cs_Flocks_pathsInAnyWay_B_D
  exact hc_kk (fun _ => hc_kk (fun _ => ch_any6 hR k9 k9' hb hS ra nd e3 hg n σ 0 0 0 (by decide) (Nat.zero_le _) (fun _ _ _ => rfl) jj (fun p => by rw [tb_z]; exact ⟨fun y => absurd y (by decide), fun ⟨j, y, _⟩ => absurd y (Nat.not_lt_zero j)⟩)))
/-! TOLD: BOTH ALIKE -/
theorem tb_eq {x y : Int32} (h : ∀ i, gb_tbt x i = true ↔ gb_tbt y i = true) : x = y := by
  refine Int32.toBitVec_inj.mp (BitVec.eq_of_getLsbD_eq (fun i _ => ?_))
  have := h i
  unfold gb_tbt at this
  cases a : x.toBitVec.getLsbD i
  · cases b : y.toBitVec.getLsbD i
    · rfl
    · exact absurd (this.mpr b) (by rw [a]; decide)
  · exact (this.mp a).symm
def gb_okv (R : Nat → Int32) (v : Int32) : Prop := (0 ≤ v.toInt ∧ v.toInt ≤ 2) ∨ (10 ≤ v.toInt ∧ v.toInt - 10 < gb_nG R)
def gb_tvl (R DR : Nat → Int32) (v q : Int32) : Prop := (v.toInt = 0 → (∀ a, gb_vld R DR a → q.toInt ≤ gb_pop a (gb_nG R)) ∧ ∃ a, gb_vld R DR a ∧ q.toInt = gb_pop a (gb_nG R)) ∧ (v.toInt = 1 → (∀ a, gb_vld R DR a → (gb_pop a (gb_nG R) : Int) ≤ q.toInt) ∧ ∃ a, gb_vld R DR a ∧ q.toInt = gb_pop a (gb_nG R)) ∧ (v.toInt = 2 → ∀ i, gb_tbt q i = true ↔ i < gb_nG R ∧ ∀ a, gb_vld R DR a → ¬ a i = 0) ∧ (10 ≤ v.toInt → ∀ p, gb_tbt q p = true ↔ ∃ a, gb_vld R DR a ∧ a (v.toInt - 10).toNat = p + 1)
theorem tvl_u {R DR : Nat → Int32} {v q r : Int32} (ok : gb_okv R v) (h : gb_tvl R DR v q) (h2 : gb_tvl R DR v r) : q = r := by
  obtain ⟨a0, a1, a2, a3⟩ := h
  obtain ⟨b0, b1, b2, b3⟩ := h2
  rcases ok with o | o
  · by_cases c0 : v.toInt = 0
    · obtain ⟨x1, a, xa, xe⟩ := a0 c0
      obtain ⟨y1, b, ya, ye⟩ := b0 c0
      have := x1 b ya
      have := y1 a xa
      exact gb_ieq (by omega)
    · by_cases c1 : v.toInt = 1
      · obtain ⟨x1, a, xa, xe⟩ := a1 c1
        obtain ⟨y1, b, ya, ye⟩ := b1 c1
        have := x1 b ya
        have := y1 a xa
        exact gb_ieq (by omega)
      · have c2 : v.toInt = 2 := by omega
        exact tb_eq (fun i => (a2 c2 i).trans (b2 c2 i).symm)
  · exact tb_eq (fun i => (a3 o.1 i).trans (b3 o.1 i).symm)
def gb_qtd (R DR : Nat → Int32) (v q : Int32) : Prop := (v = 3 → gb_qto R DR q) ∧ (¬ v = 3 → ¬ gb_okv R v → q = -2) ∧ (¬ v = 3 → gb_okv R v → gb_Zy R DR none (gb_fnD DR) = 0 → q = -2) ∧ (¬ v = 3 → gb_okv R v → ¬ gb_Zy R DR none (gb_fnD DR) = 0 → gb_tvl R DR v q)
theorem qtd_u {R DR : Nat → Int32} {v q r : Int32} (h : gb_qtd R DR v q) (h2 : gb_qtd R DR v r) : q = r := by
  by_cases c : v = 3
  · exact qto_u (h.1 c) (h2.1 c)
  · by_cases o : gb_okv R v
    · by_cases z : gb_Zy R DR none (gb_fnD DR) = 0
      · rw [h.2.2.1 c o z, h2.2.2.1 c o z]
      · exact tvl_u o (h.2.2.2 c o z) (h2.2.2.2 c o z)
    · rw [h.2.1 c o, h2.2.1 c o]
def gb_qtf (f : gb_F) (p1 p2 p3 q : Int32) : Prop := ((gb_i0 p1 (f 1 0) ∧ gb_i0 p2 (f 1 3)) → gb_qtd (gb_Rs 0 f p1) (gb_Rs 3 f p2) p3 q) ∧ (¬ (gb_i0 p1 (f 1 0) ∧ gb_i0 p2 (f 1 3)) → q = -2)
theorem qtf_u {f : gb_F} {p1 p2 p3 q r : Int32} (h : gb_qtf f p1 p2 p3 q) (h2 : gb_qtf f p1 p2 p3 r) : q = r := by
  by_cases c : gb_i0 p1 (f 1 0) ∧ gb_i0 p2 (f 1 3)
  · exact qtd_u (h.1 c) (h2.1 c)
  · rw [h.2 c, h2.2 c]
theorem gs10 {R : Nat → Int32} {v : Int32} (hR : gb_rB R) : gb_i0 (v - 10) (R 1) ↔ (10 ≤ v.toInt ∧ v.toInt - 10 < gb_nG R) := by
  have h8 := (rB_nG hR).2
  have rG := (rB_nG hR).1
  have s := sub_c (v := v) (c := 10) (k := gb_nG R) (t := 10) (by decide) (by omega) (by omega)
  unfold gb_i0
  rw [rG]
  exact s
/-! the class -/
theorem ch_told82 {n k0 k1 : Nat} {R DR : Nat → Int32} {σ : gb_S} {v : Int32} (hR : gb_rB R) (k9 : k0 + 1 < 109) (k9' : k1 + 1 < 109) (hb : gb_cbx k0 R σ) (hS : gb_RS 3 (σ.1 (k1 + 1)) DR) (ra : ∀ j, j < 11 → gb_iv (gt_R 3 j).1 (gt_R 3 j).2 (DR j)) (nd : ¬ gb_dup DR) (jj : gb_JJ σ) (ok : gb_okv R v) (n3 : ¬ v = 3) : gb_hc (cs_Face_told_82 n σ v k0 k1) (fun _ r => gb_qtd R DR v r) := by
  have z0 : (0 : Int32).toInt = 0 := by decide
  have z1 : (1 : Int32).toInt = 1 := by decide
  have z2 : (2 : Int32).toInt = 2 := by decide
  have z10 : (10 : Int32).toInt = 10 := by decide
  have z64 : (0 : Int64).toInt = 0 := by decide
  have h8 := (rB_nG hR).2
  unfold cs_Face_told_82
  refine hc_kk (fun _ => hc_kk (fun _ => hc_cd (ch_find (q := none) hR k9 k9' hb hS ra nd jj (Or.inl ⟨rfl, rfl, rfl⟩)) (fun s1 _ gw => hc_cd (ch_all hR gw) (fun s2 r ⟨g0, g1⟩ => ?_))))
  subst g0
  have hbs : gb_cbx k0 R s2 := by
    unfold gb_cbx
    rw [gw.1 _ (by omega) (by omega)]
    exact hb
  have hSs : gb_RS 3 (s2.1 (k1 + 1)) DR := by
    rw [gw.1 _ (by omega) (by omega)]
    exact hS
  have fin : ¬ gb_Zy R DR none (gb_fnD DR) = 0 → ∀ q : Int32, gb_tvl R DR v q → gb_qtd R DR v q := fun hz q h => ⟨fun c => absurd c n3, fun _ c => absurd ok c, fun _ _ c => absurd c hz, fun _ _ _ => h⟩
  refine hc_if (fun c => hc_some ⟨fun c => absurd c n3, fun _ _ => rfl, fun _ _ _ => rfl, fun _ _ z => ?_⟩) (fun c => ?_)
  · rw [cm_0.mp c, z64] at g1
    exact absurd (by omega) z
  · have hz : ¬ gb_Zy R DR none (gb_fnD DR) = 0 := fun z => c (cm_0.mpr (Int64.toInt_inj.mp (by rw [g1, z, z64]; rfl)))
    obtain ⟨a0, ha0⟩ := Zy_p.mp (Nat.pos_of_ne_zero hz)
    have pl := pop_le (a := a0) (gb_nG R)
    refine hc_if (fun d => hc_cd (ch_few hR gw) (fun s3 r3 h3 => hc_some (fin hz _ ?_))) (fun d => hc_if (fun d2 => hc_cd (ch_most hR gw) (fun s3 r3 h3 => hc_some (fin hz _ ?_))) (fun d2 => hc_if (fun d3 => hc_cd (ch_sure hR gw) (fun s3 r3 h3 => hc_some (fin hz _ ?_))) (fun d3 => ?_)))
    · have dv : v.toInt = 0 := by
        rw [d]
        exact z0
      refine ⟨fun _ => ⟨h3.1, ?_⟩, fun y => absurd y (by omega), fun y => absurd y (by omega), fun y => absurd y (by omega)⟩
      rcases h3.2 with y | y
      · have := h3.1 a0 ha0
        exact ⟨a0, ha0, by omega⟩
      · exact y
    · have dv : v.toInt = 1 := by
        rw [d2]
        exact z1
      refine ⟨fun y => absurd y (by omega), fun _ => ⟨h3.1, ?_⟩, fun y => absurd y (by omega), fun y => absurd y (by omega)⟩
      rcases h3.2 with y | y
      · have := h3.1 a0 ha0
        exact ⟨a0, ha0, by omega⟩
      · exact y
    · have dv : v.toInt = 2 := by
        rw [d3]
        exact z2
      exact ⟨fun y => absurd y (by omega), fun y => absurd y (by omega), fun _ => h3, fun y => absurd y (by omega)⟩
    · have o : 10 ≤ v.toInt ∧ v.toInt - 10 < gb_nG R := by
        rcases ok with y | y
        · exfalso
          by_cases c0 : v.toInt = 0
          · exact d (gb_ieq (by rw [c0, z0]))
          · by_cases c1 : v.toInt = 1
            · exact d2 (gb_ieq (by rw [c1, z1]))
            · exact d3 (gb_ieq (by rw [z2]; omega))
        · exact y
      have ev : (v - 10).toInt = ((v.toInt - 10).toNat : Int) := by
        rw [gb_tsub (by omega) (by omega), z10]
        omega
      refine hc_cd (ch_any hR k9 k9' hbs hSs ra nd gw.2.2.1 ev (by omega)) (fun s3 r3 h3 => hc_some (fin hz _ ⟨fun y => absurd y (by omega), fun y => absurd y (by omega), fun y => absurd y (by omega), fun _ => h3⟩))
theorem c_told2 {n : Nat} {σ : gb_S} {f : gb_F} {p1 p2 p3 : Int32} (h : gb_R σ f) (hM : gb_TM f) (hD : gb_DD f) (hJ : gb_JJ σ) : gb_hc (cs_Face_told n σ p1 p2 p3) (fun _ r => gb_qtf f p1 p2 p3 r) := by
  have z0 : (0 : Int32).toInt = 0 := by decide
  have z2 : (2 : Int32).toInt = 2 := by decide
  have z10 : (10 : Int32).toInt = 10 := by decide
  unfold cs_Face_told gb_qtf
  refine hc_cd (cy_border h hM) (fun s r g => ?_)
  obtain ⟨g0, g⟩ := g
  subst s
  refine hc_if (fun c => ?_) (fun c => ?_)
  · have nb : ¬ (gb_i0 p1 (f 1 0) ∧ gb_i0 p2 (f 1 3)) := fun z => by
      rcases g with y | y
      · exact y.2 z.1
      · exact y.1 c
    refine hc_cd (cy_dawn h hM) (fun s r2 g2 => ?_)
    exact hc_if (fun _ => hc_some ⟨fun z => absurd z nb, fun _ => rfl⟩) (fun _ => hc_kk (fun _ => hc_some ⟨fun z => absurd z nb, fun _ => rfl⟩))
  · rcases g with y | ⟨y1, y2, y3, y4, y5⟩
    · exact absurd y.1 c
    refine hc_kk (fun _ => hc_cd (cy_dawn h hM) (fun s r2 g2 => ?_))
    obtain ⟨g0, g2⟩ := g2
    subst s
    refine hc_if (fun c2 => hc_some ⟨fun z => ?_, fun _ => rfl⟩) (fun c2 => hc_kk (fun _ => ?_))
    · rcases g2 with y | y
      · exact absurd z.2 y.2
      · exact absurd c2 y.1
    rcases g2 with z | ⟨w1, w2, w3, w4⟩
    · exact absurd z.1 c2
    have bo : gb_i0 p1 (f 1 0) ∧ gb_i0 p2 (f 1 3) := ⟨y2, w2⟩
    have ra := raD_of hM w2
    have fin : ∀ q : Int32, gb_qtd (gb_Rs 0 f p1) (gb_Rs 3 f p2) p3 q → ((gb_i0 p1 (f 1 0) ∧ gb_i0 p2 (f 1 3)) → gb_qtd (gb_Rs 0 f p1) (gb_Rs 3 f p2) p3 q) ∧ (¬ (gb_i0 p1 (f 1 0) ∧ gb_i0 p2 (f 1 3)) → q = -2) := fun q hq => ⟨fun _ => hq, fun z => absurd bo z⟩
    have yes : gb_okv (gb_Rs 0 f p1) p3 → ¬ p3 = 3 → gb_hc (cs_Face_told_82 n σ p3 r r2) (fun _ q => ((gb_i0 p1 (f 1 0) ∧ gb_i0 p2 (f 1 3)) → gb_qtd (gb_Rs 0 f p1) (gb_Rs 3 f p2) p3 q) ∧ (¬ (gb_i0 p1 (f 1 0) ∧ gb_i0 p2 (f 1 3)) → q = -2)) := fun ok n3 => hc_mono (ch_told82 y4 y5 w4 y3 w3 ra (DD_R hM hD w2) hJ ok n3) (fun _ q hq => fin q hq)
    have no : ¬ gb_okv (gb_Rs 0 f p1) p3 → ¬ p3 = 3 → gb_qtd (gb_Rs 0 f p1) (gb_Rs 3 f p2) p3 (-2) := fun nk n3 => ⟨fun c => absurd c n3, fun _ _ => rfl, fun _ c => absurd c nk, fun _ c => absurd c nk⟩
    have go : ¬ p3 = 3 → ¬ (10 ≤ p3.toInt ∧ p3.toInt - 10 < gb_nG (gb_Rs 0 f p1)) → gb_hc (cs_Face_told_62 n σ p3 r r2) (fun _ q => ((gb_i0 p1 (f 1 0) ∧ gb_i0 p2 (f 1 3)) → gb_qtd (gb_Rs 0 f p1) (gb_Rs 3 f p2) p3 q) ∧ (¬ (gb_i0 p1 (f 1 0) ∧ gb_i0 p2 (f 1 3)) → q = -2)) := fun n3 n10 => by
      unfold cs_Face_told_62 cs_Face_told_63
      refine hc_kk (fun _ => hc_kk (fun _ => hc_kk (fun _ => hc_kk (fun _ => hc_if (fun _ => hc_if (fun a => hc_some (fin _ (no (fun ok => ?_) n3))) (fun a => hc_if (fun b => yes (Or.inl ⟨?_, ?_⟩) n3) (fun b => hc_some (fin _ (no (fun ok => ?_) n3))))) (fun z => absurd rfl z)))))
      · have a' := gi_lt a
        rcases ok with y | y
        · omega
        · omega
      · have a' := gi_nlt a
        omega
      · have b' := gi_le b
        omega
      · have b' := gi_nle b
        rcases ok with y | y
        · omega
        · exact n10 y
    refine hc_if (fun t => hc_cd (ch_toe y4 y3 w3 ra) (fun s3 r3 h3 => hc_some (fin _ ⟨fun _ => h3, fun z => absurd t z, fun z => absurd t z, fun z => absurd t z⟩))) (fun t => hc_if (fun a => go t (fun z => ?_)) (fun a => hc_cd (cbx_hasG y3) (fun s3 r3 ⟨g0, g3⟩ => ?_)))
    · have a' := gi_lt a
      omega
    · subst g0
      refine hc_if (fun d => go t (fun z => (yn_0 g3 d) ((gs10 y4).mpr z))) (fun d => ?_)
      have o := (gs10 y4).mp (yn_1 g3 d).1
      unfold cs_Face_told_63
      exact hc_kk (fun _ => hc_kk (fun _ => hc_if (fun z => absurd z (by decide)) (fun _ => yes (Or.inr o) t)))
/-! the reference -/
theorem mh_told45 {n m : Nat} {R DR : Nat → Int32} {f : gb_F} {w : Int64} {v : Int32} (hb : gb_mbx m R f) (hd : gb_mdawn DR f) (ra : ∀ j, j < 11 → gb_iv (gt_R 3 j).1 (gt_R 3 j).2 (DR j)) (nd : ¬ gb_dup DR) (ok : gb_okv R v) (n3 : ¬ v = 3) : gb_hm (ms_told_45 n f w v) (fun _ _ q => gb_qtd R DR v q) := by
  have z0 : (0 : Int32).toInt = 0 := by decide
  have z1 : (1 : Int32).toInt = 1 := by decide
  have z2 : (2 : Int32).toInt = 2 := by decide
  have z10 : (10 : Int32).toInt = 10 := by decide
  have z64 : (0 : Int64).toInt = 0 := by decide
  have hR := mbx_rB hb
  have h8 := (rB_nG hR).2
  unfold ms_told_45
  refine hm_bd (mh_tries hb hd ra nd) (fun f1 w1 _ A => ?_)
  obtain ⟨A1, ⟨A2, A3⟩, ⟨A4, A5⟩, A6, A7⟩ := A
  have ew : w1.toInt = gb_Zy R DR none (gb_fnD DR) := by
    rw [A1]
    exact of_64 (by have := Zy_b (DR := DR) (q := none) (i := gb_fnD DR) hR; omega)
  have fin : ¬ gb_Zy R DR none (gb_fnD DR) = 0 → ∀ q : Int32, gb_tvl R DR v q → gb_qtd R DR v q := fun hz q h => ⟨fun c => absurd c n3, fun _ c => absurd ok c, fun _ _ c => absurd c hz, fun _ _ _ => h⟩
  refine hm_if (fun c => hm_some ⟨fun c => absurd c n3, fun _ _ => rfl, fun _ _ _ => rfl, fun _ _ z => ?_⟩) (fun c => ?_)
  · rw [cm_0.mp c, z64] at ew
    exact absurd (by omega) z
  · have hz : ¬ gb_Zy R DR none (gb_fnD DR) = 0 := fun z => c (cm_0.mpr (Int64.toInt_inj.mp (by rw [ew, z, z64]; rfl)))
    obtain ⟨a0, ha0⟩ := Zy_p.mp (Nat.pos_of_ne_zero hz)
    refine hm_if (fun d => hm_some (fin hz _ ?_)) (fun d => hm_if (fun d2 => hm_some (fin hz _ ?_)) (fun d2 => hm_if (fun d3 => hm_some (fin hz _ ?_)) (fun d3 => ?_)))
    · have dv : v.toInt = 0 := by
        rw [d]
        exact z0
      refine ⟨fun _ => ⟨A2, ?_⟩, fun y => absurd y (by omega), fun y => absurd y (by omega), fun y => absurd y (by omega)⟩
      rcases A3 with y | y
      · exact absurd ha0 (y.1 a0)
      · exact y
    · have dv : v.toInt = 1 := by
        rw [d2]
        exact z1
      refine ⟨fun y => absurd y (by omega), fun _ => ⟨A4, ?_⟩, fun y => absurd y (by omega), fun y => absurd y (by omega)⟩
      rcases A5 with y | y
      · exact absurd ha0 (y.1 a0)
      · exact y
    · have dv : v.toInt = 2 := by
        rw [d3]
        exact z2
      exact ⟨fun y => absurd y (by omega), fun y => absurd y (by omega), fun _ => A6, fun y => absurd y (by omega)⟩
    · have o : 10 ≤ v.toInt ∧ v.toInt - 10 < gb_nG R := by
        rcases ok with y | y
        · exfalso
          by_cases c0 : v.toInt = 0
          · exact d (gb_ieq (by rw [c0, z0]))
          · by_cases c1 : v.toInt = 1
            · exact d2 (gb_ieq (by rw [c1, z1]))
            · exact d3 (gb_ieq (by rw [z2]; omega))
        · exact y
      have ev : (v - 10).toInt = ((v.toInt - 10).toNat : Int) := by
        rw [gb_tsub (by omega) (by omega), z10]
        omega
      rw [gi_tn ev]
      refine hm_ck (fun _ _ => hm_lt (fun x ex => hm_some (fin hz _ ⟨fun y => absurd y (by omega), fun y => absurd y (by omega), fun y => absurd y (by omega), fun _ => ?_⟩)))
      rw [ex]
      exact A7 (v.toInt - 10).toNat (by omega)
theorem m_told {n : Nat} {f : gb_F} {w : Int64} {p1 p2 p3 : Int32} (hM : gb_TM f) (hD : gb_DD f) : gb_hm (ms_told n f w p1 p2 p3) (fun _ _ q => gb_qtf f p1 p2 p3 q) := by
  have z0 : (0 : Int32).toInt = 0 := by decide
  have z2 : (2 : Int32).toInt = 2 := by decide
  unfold ms_told gb_qtf
  refine hm_bd (mh_areSeen hM) (fun f1 w1 r g => ?_)
  refine hm_if (fun c => hm_some ⟨fun z => absurd z (yn_0 g c), fun _ => rfl⟩) (fun c => ?_)
  obtain ⟨bo, hM1, e1, md, m, mb⟩ := yn_1 g c
  have ra := raD_of hM bo.2
  have nd := DD_R hM hD bo.2
  have hR := mbx_rB mb
  have fin : ∀ q : Int32, gb_qtd (gb_Rs 0 f p1) (gb_Rs 3 f p2) p3 q → ((gb_i0 p1 (f 1 0) ∧ gb_i0 p2 (f 1 3)) → gb_qtd (gb_Rs 0 f p1) (gb_Rs 3 f p2) p3 q) ∧ (¬ (gb_i0 p1 (f 1 0) ∧ gb_i0 p2 (f 1 3)) → q = -2) := fun q hq => ⟨fun _ => hq, fun z => absurd bo z⟩
  refine hm_if (fun t => hm_bd (mh_toe mb md ra) (fun f2 w2 r2 h2 => hm_some (fin _ ⟨fun _ => h2, fun z => absurd t z, fun z => absurd t z, fun z => absurd t z⟩))) (fun t => hm_bd mh_isIn (fun f2 w2 r2 ⟨q1, q2, q3⟩ => ?_))
  rw [q1, q2]
  refine hm_if (fun d => hm_bd (mbx_hasG mb) (fun f3 w3 r3 ⟨u1, u2, u3⟩ => ?_)) (fun d => hm_mono (mh_told45 mb md ra nd (Or.inl ?_) t) (fun _ _ q hq => fin q hq))
  · rw [u1, u2]
    refine hm_if (fun y => hm_some (fin _ ⟨fun c => absurd c t, fun _ _ => rfl, fun _ ok => ?_, fun _ ok => ?_⟩)) (fun y => hm_mono (mh_told45 mb md ra nd (Or.inr ((gs10 hR).mp (yn_1 u3 y).1)) t) (fun _ _ q hq => fin q hq))
    · exfalso
      rcases ok with z | z
      · have := yn_0 q3.symm d
        omega
      · exact (yn_0 u3 y) ((gs10 hR).mpr z)
    · exfalso
      rcases ok with z | z
      · have := yn_0 q3.symm d
        omega
      · exact (yn_0 u3 y) ((gs10 hR).mpr z)
  · have := yn_1 q3.symm d
    rw [z0, z2] at this
    exact this
theorem e_told {σ σ2 : gb_S} {f f2 : gb_F} {w w2 : Int64} {p1 p2 p3 ra qa : Int32} (_ : gb_TC σ) (hM : gb_TM f) (h : gb_R σ f) (hD : gb_DD f) (hJ : gb_JJ σ) (ec : cs_Face_told gb_N σ p1 p2 p3 = some (σ2, ra)) (em : ms_told gb_N f w p1 p2 p3 = some (f2, w2, qa)) : ra = qa := qtf_u (c_told2 h hM hD hJ _ _ ec) (m_told hM hD _ _ _ em)
