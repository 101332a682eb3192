/-! THE REFERENCE: all ways of a dawn -/
def gb_XC (f0 f : gb_F) : Prop := gb_TM f ∧ gb_KM f0 f ∧ f 16 = f0 16 ∧ f 17 = f0 17
theorem gb_XCr {f : gb_F} (h : gb_TM f) : gb_XC f f := ⟨h, (gb_XKr h).2, rfl, rfl⟩
theorem gb_XCk {f0 f : gb_F} (h : gb_XC f0 f) : gb_XK f0 f := ⟨h.1, h.2.1⟩
def gb_c2 (k : Nat) : Bool := Nat.ble 2 k && !(k == 16) && !(k == 17)
theorem gb_XCu {f0 f : gb_F} {k : Nat} {F : Nat → Int32} (h : gb_XC f0 f) (hk : gb_c2 k = true) : gb_XC f0 (gb_u f k F) := by
  unfold gb_c2 at hk
  have hk1 : Nat.ble 2 k = true := by
    cases hb : Nat.ble 2 k
    · rw [hb] at hk
      cases hk
    · rfl
  have n16 : ¬ 16 = k := fun e => by
    subst e
    cases hk
  have n17 : ¬ 17 = k := fun e => by
    subst e
    cases hk
  have e16 : gb_u f k F 16 = f 16 := if_neg n16
  have e17 : gb_u f k F 17 = f 17 := if_neg n17
  have := gb_XKu (F := F) (gb_XCk h) hk1
  exact ⟨this.1, this.2, by rw [e16]; exact h.2.2.1, by rw [e17]; exact h.2.2.2⟩
theorem gb_XCf {f0 f : gb_F} {j : Nat} {v : Int32} (h : gb_XC f0 f) (hj : gb_fj j = true) : gb_XC f0 (gb_u f 0 (upd (f 0) j v)) := by
  have := gb_XKf (v := v) (gb_XCk h) hj
  exact ⟨this.1, this.2, h.2.2.1, h.2.2.2⟩
theorem gm_ltc {ρ : Type} {f0 v : gb_F} {k : gb_F → gb_MR ρ} {Q : gb_F → Int64 → ρ → Prop} (h : gb_XC f0 v) (H : ∀ f, f = v → gb_XC f0 f → gb_tm (k f) Q) : gb_tm (gb_lt v k) Q := H v rfl h
set_option maxHeartbeats 4000000 in
theorem mc2_counts_93 {n : Nat} (hn : gb_N ≤ n) {Q : gb_F → Int64 → Unit → Prop} {f0 : gb_F} (hret : ∀ (f : gb_F) (w : Int64) (r : Unit), gb_XC f0 f → True → Q f w r) : ∀ (f : gb_F) (w : Int64) (v1 : Int32) (v2 : Int32) (t0 : Int32), gb_XC f0 f → gb_iv 0 255 v1 → gb_iv (-2147483648) 2147483647 v2 → gb_iv (-2147483648) 2147483647 t0 → gb_tm (ms_counts_93 n f w v1 v2 t0) Q := by
  intro f w v1 v2 t0 hX iv1 iv2 it0
  unfold ms_counts_93
  refine gm_ltc (gb_XCf hX rfl) (fun f_15 ef_15 hXf_15 => ?_)
  refine gm_if (fun c_3353040 => ?_) (fun c_3353040 => ?_)
  · refine gm_ltc (gb_XCf hXf_15 rfl) (fun f_17 ef_17 hXf_17 => ?_)
    refine gm_ltc (gb_XCf hXf_17 rfl) (fun f_18 ef_18 hXf_18 => ?_)
    exact gm_some (hret _ _ _ hXf_18 trivial)
  · have j_3353041 : gb_iv (-2147483648) 2147483646 (f_15 0 35) := (gb_rU (lo := (-2147483648)) (hi := 2147483646) (gb_dnle c_3353040) (gb_it _) (gb_it _) (by decide))
    have j_3353042 : gb_iv (-2147483647) 2147483647 v2 := (gb_rL (lo := (-2147483647)) (hi := 2147483647) (gb_dnle c_3353040) (gb_it _) j_3353041 (by decide))
    refine gm_ltc (gb_XCf hXf_15 rfl) (fun f_19 ef_19 hXf_19 => ?_)
    refine gm_ltc (gb_XCf hXf_19 rfl) (fun f_20 ef_20 hXf_20 => ?_)
    exact gm_some (hret _ _ _ hXf_20 trivial)
set_option maxHeartbeats 4000000 in
theorem mc2_counts_93_i1 {n : Nat} (hn : gb_N ≤ n) {Q : gb_F → Int64 → Unit → Prop} {f0 : gb_F} (hret : ∀ (f : gb_F) (w : Int64) (r : Unit), gb_XC f0 f → True → Q f w r) : ∀ (f : gb_F) (w : Int64) (v1 : Int32) (v2 : Int32) (t0 : Int32), gb_XC f0 f → gb_iv 0 255 v1 → gb_iv (-2147483648) 2147483646 v2 → gb_iv (-2147483648) 2147483646 t0 → gb_tm (ms_counts_93 n f w v1 v2 t0) Q := by
  intro f w v1 v2 t0 hX iv1 iv2 it0
  unfold ms_counts_93
  refine gm_ltc (gb_XCf hX rfl) (fun f_15 ef_15 hXf_15 => ?_)
  refine gm_if (fun c_3353045 => ?_) (fun c_3353045 => ?_)
  · refine gm_ltc (gb_XCf hXf_15 rfl) (fun f_17 ef_17 hXf_17 => ?_)
    refine gm_ltc (gb_XCf hXf_17 rfl) (fun f_18 ef_18 hXf_18 => ?_)
    exact gm_some (hret _ _ _ hXf_18 trivial)
  · have j_3353046 : gb_iv (-2147483648) 2147483645 (f_15 0 35) := (gb_rU (lo := (-2147483648)) (hi := 2147483645) (gb_dnle c_3353045) (gb_it _) iv2 (by decide))
    have j_3353047 : gb_iv (-2147483647) 2147483646 v2 := (gb_rL (lo := (-2147483647)) (hi := 2147483646) (gb_dnle c_3353045) iv2 j_3353046 (by decide))
    refine gm_ltc (gb_XCf hXf_15 rfl) (fun f_19 ef_19 hXf_19 => ?_)
    refine gm_ltc (gb_XCf hXf_19 rfl) (fun f_20 ef_20 hXf_20 => ?_)
    exact gm_some (hret _ _ _ hXf_20 trivial)
set_option maxHeartbeats 4000000 in
theorem mc2_counts_14 {n : Nat} (hn : gb_N ≤ n) {Q : gb_F → Int64 → Unit → Prop} {f0 : gb_F} (hret : ∀ (f : gb_F) (w : Int64) (r : Unit), gb_XC f0 f → True → Q f w r) : ∀ (mm : Nat) (f : gb_F) (w : Int64) (v1 : Int32) (v2 : Int32) (v3 : Int32), gb_XC f0 f → gb_iv 0 255 v1 → gb_iv (-2147483648) 2147483647 v2 → gb_iv 0 8 v3 → (8 - v3.toInt).toNat < mm → gb_tm (ms_counts_14 n mm f w v1 v2 v3) Q := by
  intro mm
  induction mm with
  | zero =>
    intro f w v1 v2 v3 hX iv1 iv2 iv3 hm
    exact absurd hm (Nat.not_lt_zero _)
  | succ mm ih =>
    intro f w v1 v2 v3 hX iv1 iv2 iv3 hm
    rw [ms_counts_14]
    refine gm_bdP (mt_geese hX.1) (fun r_9 h_3353037 => ?_)
    refine gm_if (fun c_3353038 => ?_) (fun c_3353038 => ?_)
    · refine gm_lt (fun wl_13 ewl_13 => ?_)
      refine gm_if (fun c_3353039 => ?_) (fun c_3353039 => ?_)
      · exact mc2_counts_93 hn hret _ _ _ _ _ hX iv1 (gb_it _) (gb_it _)
      · have j_3353043 : gb_iv (-2147483648) 2147483646 v2 := (gb_rU (lo := (-2147483648)) (hi := 2147483646) (gb_dnle c_3353039) (gb_it _) (gb_it _) (by decide))
        have j_3353044 : gb_iv (-2147483647) 2147483647 (f 0 34) := (gb_rL (lo := (-2147483647)) (hi := 2147483647) (gb_dnle c_3353039) (gb_it _) j_3353043 (by decide))
        exact mc2_counts_93_i1 hn hret _ _ _ _ _ hX iv1 j_3353043 j_3353043
    · have j_3353048 : gb_iv 0 7 v3 := (gb_rU (lo := 0) (hi := 7) (gb_dnle c_3353038) iv3 h_3353037 (by decide))
      have j_3353049 : gb_iv 1 8 r_9 := (gb_rL (lo := 1) (hi := 8) (gb_dnle c_3353038) h_3353037 j_3353048 (by decide))
      refine gm_ck j_3353048 (by decide) ?_
      refine gm_lti (lo := (-2147483648)) (hi := 2147483647) (gb_it _) (fun x_22 ex_22 ix_22 => ?_)
      refine gm_if (fun c_3353050 => ?_) (fun c_3353050 => ?_)
      · have j_3353051 : gb_iv 0 2147483647 x_22 := (gb_rL (lo := 0) (hi := 2147483647) (gb_dle c_3353050) (gb_it _) (gb_ic (a := 0) (by decide)) (by decide))
        refine gm_lti (lo := 0) (hi := 255) (gb_ior iv1 (gb_iw (lo := 0) (hi := 255) (gb_ishl (lo := 1) (hi := 128) j_3353048 (by decide)) (by decide))) (fun x_24 ex_24 ix_24 => ?_)
        refine gm_lti (lo := (-2147483648)) (hi := 2147483647) (gb_it _) (fun x_25 ex_25 ix_25 => ?_)
        refine gm_ck j_3353048 (by decide) ?_
        refine gm_lti (lo := (-2147483648)) (hi := 2147483647) (gb_it _) (fun x_27 ex_27 ix_27 => ?_)
        refine gm_ck j_3353048 (by decide) ?_
        refine gm_lti (lo := (-2147483648)) (hi := 2147483647) (gb_it _) (fun x_29 ex_29 ix_29 => ?_)
        refine gm_ck j_3353048 (by decide) ?_
        refine gm_ltc (gb_XCu hX rfl) (fun f_31 ef_31 hXf_31 => ?_)
        refine gm_lti (lo := 1) (hi := 8) (gb_iadd (lo := 1) (hi := 8) j_3353048 (gb_ic (a := 1) (by decide)) (by decide)) (fun x_32 ex_32 ix_32 => ?_)
        exact ih _ _ _ _ _ hXf_31 ix_24 (gb_it _) (gb_iw (lo := 0) (hi := 8) ix_32 (by decide)) (gb_mup ex_32 j_3353048 (by decide) hm)
      · have j_3353052 : gb_iv (-2147483648) (-1) x_22 := (gb_rU (lo := (-2147483648)) (hi := (-1)) (gb_dnle c_3353050) (gb_it _) (gb_ic (a := 0) (by decide)) (by decide))
        refine gm_lti (lo := 1) (hi := 8) (gb_iadd (lo := 1) (hi := 8) j_3353048 (gb_ic (a := 1) (by decide)) (by decide)) (fun x_33 ex_33 ix_33 => ?_)
        exact ih _ _ _ _ _ hX iv1 (gb_it _) (gb_iw (lo := 0) (hi := 8) ix_33 (by decide)) (gb_mup ex_33 j_3353048 (by decide) hm)
set_option maxHeartbeats 4000000 in
theorem mc2_counts {n : Nat} (hn : gb_N ≤ n) {f : gb_F} {w : Int64} (hT : gb_TM f) : gb_tm (ms_counts n f w) (fun f2 _ _ => gb_XC f f2 ∧ True) := by
  have hX := gb_XCr hT
  unfold ms_counts
  refine gm_bdP (mt_isWhole hn hX.1) (fun r_3 h_3352457 => ?_)
  refine gm_if (fun c_3352458 => ?_) (fun c_3352458 => ?_)
  · have j_3352459 : gb_iv 0 0 r_3 := (gb_rU (lo := 0) (hi := 0) (gb_deq c_3352458) h_3352457 (gb_ic (a := 0) (by decide)) (by decide))
    exact gm_some ⟨hX, trivial⟩
  · have j_3352460 : gb_iv 1 1 r_3 := (gb_rN (lo := 1) (hi := 1) (v := 0) c_3352458 h_3352457 (by decide) (by decide))
    exact mc2_counts_14 hn (fun _ _ _ hX h => ⟨hX, h⟩) n _ _ _ _ _ hX (gb_iw (lo := 0) (hi := 255) (gb_ic (a := 0) (by decide)) (by decide)) (gb_iw (lo := (-2147483648)) (hi := 2147483647) (gb_ic (a := 0) (by decide)) (by decide)) (gb_iw (lo := 0) (hi := 8) (gb_ic (a := 0) (by decide)) (by decide)) (gb_fuu hn (gb_iw (lo := 0) (hi := 8) (gb_ic (a := 0) (by decide)) (by decide)) (by decide))
def gb_lv (f : gb_F) (i : Nat) : Prop := gb_iv (-2) 4 (f 16 i) ∧ (¬ f 17 i = 0 → gb_iv 0 4 (f 16 i))
set_option maxHeartbeats 4000000 in
theorem mt_isNext_38 {n : Nat} {f0 f : gb_F} {w : Int64} {v1 : Int32} (hX : gb_XK f0 f) (i1 : gb_iv 0 7 v1) (hc : gb_iv (-2) 4 (f 16 (Int32.toNatClampNeg v1))) : gb_tm (ms_isNext_38 n f w v1) (fun f2 _ _ => gb_XK f0 f2 ∧ f2 16 = upd (f 16) (Int32.toNatClampNeg v1) (f 16 (Int32.toNatClampNeg v1) + 1) ∧ (∀ i, i ≠ Int32.toNatClampNeg v1 → f2 17 i = f 17 i) ∧ (¬ f2 17 (Int32.toNatClampNeg v1) = 0 → gb_iv 0 4 (f2 16 (Int32.toNatClampNeg v1)))) := by
  have hc' := gb_iadd (lo := -1) (hi := 5) hc (gb_ic (x := 1) (a := 1) (by decide)) (by decide)
  have i40 : ∀ x : Int32, gb_iv 0 4 x → gb_iv 0 39 ((5 * v1) + x) := fun x ix => gb_iadd (lo := 0) (hi := 39) (gb_imul (lo := 0) (hi := 35) (gb_ic (a := 5) (by decide)) i1 (by decide)) ix (by decide)
  have nb0 : vp_nar .boolean 0 = 0 := by decide
  unfold ms_isNext_38
  generalize Int32.toNatClampNeg v1 = j at hc hc' ⊢
  refine gm_ck i1 (by decide) (gm_ltf (gb_XKu hX rfl) (fun f5 e5 hX5 => gm_ck i1 (by decide) (gm_lt (fun x7 e7 => gm_ck i1 (by decide) (gm_ltf (gb_XKu hX5 rfl) (fun f9 e9 hX9 => gm_ck i1 (by decide) (gm_lt (fun x11 e11 => ?_))))))))
  have b16 : f5 16 = f 16 := by
    rw [e5]
    rfl
  have a16 : f9 16 = upd (f 16) j (f 16 j + 1) := by
    rw [e9, e7, b16]
    rfl
  have a17 : f9 17 = upd (f 17) j (vp_nar .boolean 0) := by
    rw [e9, e5]
    rfl
  have hx : x11 = f 16 j + 1 := by
    rw [e11, a16]
    exact pk_us
  have ix : gb_iv (-1) 5 x11 := by
    rw [hx]
    exact hc'
  have d17 : f9 17 j = 0 := by
    rw [a17]
    exact pk_us.trans nb0
  have base : gb_XK f0 f9 ∧ f9 16 = upd (f 16) j (f 16 j + 1) ∧ (∀ i, i ≠ j → f9 17 i = f 17 i) ∧ (¬ f9 17 j = 0 → gb_iv 0 4 (f9 16 j)) := ⟨hX9, a16, fun i hi => by rw [a17]; exact pk_un hi, fun q => absurd d17 q⟩
  refine gm_if (fun c => gm_if (fun _ => gm_some base) (fun _ => gm_some base)) (fun c => ?_)
  refine gm_bdP (mt_paths hX9.1) (fun r hr => ?_)
  refine gm_if (fun c2 => ?_) (fun c2 => gm_if (fun _ => gm_some base) (fun _ => gm_some base))
  have ix4 : gb_iv 0 4 x11 := by
    have h1 := gb_dnlt c
    have h2 := gb_dlt c2
    have h3 := hr.1.2
    have h0 : (0 : Int32).toInt = 0 := by decide
    exact ⟨by omega, by omega⟩
  have ia := i40 x11 ix4
  refine gm_ck ix4 (by decide) (gm_lt (fun x21 e21 => gm_if (fun _ => gm_some base) (fun _ => ?_)))
  refine gm_ck ix4 (by decide) (gm_lt (fun x24 e24 => gm_ck ia (by decide) (gm_lt (fun x26 e26 => gm_ck ix4 (by decide) (gm_lt (fun x28 e28 => gm_if (fun _ => ?_) (fun _ => gm_some base)))))))
  refine gm_ck ix4 (by decide) (gm_lt (fun x31 e31 => gm_ck ia (by decide) (gm_lt (fun x33 e33 => gm_ck ix4 (by decide) (gm_ltf (gb_XKu hX9 rfl) (fun f35 e35 hX35 => gm_ck i1 (by decide) (gm_ltf (gb_XKu hX35 rfl) (fun f37 e37 hX37 => gm_some ?_))))))))
  have g16 : f37 16 = f9 16 := by
    rw [e37, e35]
    rfl
  have g17 : f37 17 = upd (f9 17) j (vp_nar .boolean 1) := by
    rw [e37, e35]
    rfl
  refine ⟨hX37, g16.trans a16, fun i hi => ?_, fun _ => ?_⟩
  · rw [g17, pk_un hi, a17, pk_un hi]
  · rw [g16, ← e11]
    exact ix4
set_option maxHeartbeats 4000000 in
theorem mt_isNextE {n : Nat} {f0 f : gb_F} {w : Int64} {v1 : Int32} (hX : gb_XK f0 f) (i1 : gb_iv 0 7 v1) (hl : gb_lv f (Int32.toNatClampNeg v1)) : gb_tm (ms_isNext n f w v1) (fun f2 _ _ => gb_XK f0 f2 ∧ f2 16 = upd (f 16) (Int32.toNatClampNeg v1) (f 16 (Int32.toNatClampNeg v1) + 1) ∧ (∀ i, i ≠ Int32.toNatClampNeg v1 → f2 17 i = f 17 i) ∧ (¬ f2 17 (Int32.toNatClampNeg v1) = 0 → gb_iv 0 4 (f2 16 (Int32.toNatClampNeg v1)))) := by
  unfold ms_isNext
  refine gm_ck i1 (by decide) (gm_lt (fun x e => gm_if (fun c => mt_isNext_38 hX i1 hl.1) (fun c => ?_)))
  have ic := hl.2 (by rw [← e]; exact c)
  refine gm_ck i1 (by decide) (gm_lti ic (fun y ey iy => gm_ck iy (by decide) (gm_lt (fun z ez => gm_ck i1 (by decide) (gm_lti ic (fun u eu iu => ?_))))))
  have ia := gb_iadd (lo := 0) (hi := 39) (gb_imul (lo := 0) (hi := 35) (gb_ic (x := 5) (a := 5) (by decide)) i1 (by decide)) iu (by decide)
  refine gm_ck ia (by decide) (gm_lt (fun q eq => gm_ck iy (by decide) (gm_ltf (gb_XKu hX rfl) (fun f2 e2 hX2 => ?_))))
  have b16 : f2 16 = f 16 := by
    rw [e2]
    rfl
  have b17 : f2 17 = f 17 := by
    rw [e2]
    rfl
  have := mt_isNext_38 (n := n) (w := w) hX2 i1 (by rw [b16]; exact hl.1)
  rw [b16, b17] at this
  exact this
def gb_wt (g : Nat) : Int := 8 ^ (8 - g)
def gb_ph (c : Nat → Int32) : Nat → Int
  | 0 => (5 - (c 0).toInt) * gb_wt 0
  | g + 1 => gb_ph c g + (5 - (c (g + 1)).toInt) * gb_wt (g + 1)
theorem gb_wt_pos (g : Nat) : 0 < gb_wt g := Int.pow_pos (by decide)
theorem gb_wt_s {g : Nat} (h : g ≤ 7) : gb_wt g = 8 * gb_wt (g + 1) := by
  unfold gb_wt
  have e : 8 - g = (8 - (g + 1)) + 1 := by omega
  rw [e, Int.pow_succ, Int.mul_comm]
theorem gb_ph_lo {c : Nat → Int32} : ∀ {g : Nat}, (∀ i, i ≤ g → (c i).toInt ≤ 5) → 0 ≤ gb_ph c g := by
  intro g
  induction g with
  | zero =>
    intro h
    exact Int.mul_nonneg (by have := h 0 (Nat.le_refl 0); omega) (Int.le_of_lt (gb_wt_pos 0))
  | succ g ih =>
    intro h
    have h1 := ih (fun i hi => h i (by omega))
    have h2 : 0 ≤ (5 - (c (g + 1)).toInt) * gb_wt (g + 1) := Int.mul_nonneg (by have := h (g + 1) (Nat.le_refl _); omega) (Int.le_of_lt (gb_wt_pos _))
    show 0 ≤ gb_ph c g + _
    omega
theorem gb_ph_above {c : Nat → Int32} {j : Nat} {x : Int32} : ∀ {g : Nat}, g < j → gb_ph (upd c j x) g = gb_ph c g := by
  intro g
  induction g with
  | zero =>
    intro h
    unfold gb_ph
    rw [pk_un (by omega)]
  | succ g ih =>
    intro h
    unfold gb_ph
    rw [ih (by omega), pk_un (by omega)]
theorem gb_ph_upd {c : Nat → Int32} {x : Int32} {g : Nat} : gb_ph (upd c g x) g = gb_ph c g + ((c g).toInt - x.toInt) * gb_wt g := by
  cases g with
  | zero =>
    unfold gb_ph
    rw [pk_us, ← Int.add_mul]
    congr 1
    omega
  | succ g =>
    unfold gb_ph
    rw [pk_us, gb_ph_above (by omega), Int.add_assoc, ← Int.add_mul]
    congr 2
    omega
theorem mt_geeseE {n : Nat} {f : gb_F} {w : Int64} (hT : gb_TM f) : gb_tm (ms_geese n f w) (fun f2 w2 r => f2 = f ∧ w2 = w ∧ r = f 1 (Int32.toNatClampNeg ((f 0 11) + 1))) := by
  unfold ms_geese
  refine gm_bdP (mt_of hT (gb_il (a := 1) (by decide) (by decide))) (fun r h => ?_)
  exact gm_some ⟨rfl, rfl, h⟩
set_option maxHeartbeats 8000000 in
theorem mt_tries_37 {n : Nat} (hn : gb_N ≤ n) {f0 : gb_F} : ∀ (mm : Nat) (f : gb_F) (w : Int64) (v1 : Int32), gb_XK f0 f → gb_iv (-1) 7 v1 → v1.toInt < (f0 1 (Int32.toNatClampNeg ((f0 0 11) + 1))).toInt → (∀ i : Nat, (i : Int) ≤ v1.toInt → gb_lv f i) → (0 ≤ v1.toInt → gb_ph (f 16) (Int32.toNatClampNeg v1) < mm) → 0 < mm → gb_tm (ms_tries_37 n mm f w v1) (fun f2 _ _ => gb_XK f0 f2 ∧ True) := by
  intro mm
  induction mm with
  | zero =>
    intro f w v1 hX i1 hg hl hm h0
    exact absurd h0 (Nat.not_lt_zero _)
  | succ mm ih =>
    intro f w v1 hX i1 hg hl hm h0
    rw [ms_tries_37]
    have z0 : (0 : Int32).toInt = 0 := by decide
    refine gm_if (fun c => gm_some ⟨hX, trivial⟩) (fun c => ?_)
    have hv0 : 0 ≤ v1.toInt := by
      have := gb_dnlt c
      omega
    have i1' : gb_iv 0 7 v1 := ⟨hv0, i1.2⟩
    have h7 := i1.2
    obtain ⟨j, hj⟩ : ∃ j : Nat, v1.toInt = j := ⟨v1.toInt.toNat, by omega⟩
    have ej : Int32.toNatClampNeg v1 = j := gb_tn hj
    have hlj := hl j (by omega)
    have hph := hm hv0
    rw [ej] at hph
    refine gm_bd (mt_isNextE hX i1' (by rw [ej]; exact hlj)) (fun f2 w2 r2 h2 => ?_)
    rw [ej] at h2
    obtain ⟨hX2, k16, k17, ka⟩ := h2
    have c1 : (1 : Int32).toInt = 1 := by decide
    have hcj1 := hlj.1.1
    have hcj2 := hlj.1.2
    have ec : (f 16 j + 1).toInt = (f 16 j).toInt + 1 := gb_i1 hlj.1 (by decide)
    have e2j : f2 16 j = f 16 j + 1 := by
      rw [k16]
      exact pk_us
    have hwp := gb_wt_pos j
    have hws := gb_wt_s (g := j) (by omega)
    have hwp1 := gb_wt_pos (j + 1)
    have p2 : gb_ph (f2 16) j = gb_ph (f 16) j - gb_wt j := by
      rw [k16, gb_ph_upd, ec]
      have : ((f 16 j).toInt - ((f 16 j).toInt + 1)) = -1 := by omega
      rw [this]
      omega
    have hlow : ∀ i : Nat, i < j → f2 16 i = f 16 i ∧ f2 17 i = f 17 i := fun i hi => ⟨by rw [k16]; exact pk_un (by omega), k17 i (by omega)⟩
    have hle5 : ∀ i : Nat, i ≤ j → (f2 16 i).toInt ≤ 5 := fun i hi => by
      by_cases q : i = j
      · rw [q, e2j, ec]
        omega
      · rw [(hlow i (by omega)).1]
        have := (hl i (by omega)).1.2
        omega
    have p2lo := gb_ph_lo (c := f2 16) hle5
    have hmm : 0 < mm := by omega
    refine gm_ck i1' (by decide) (gm_lt (fun x ex => ?_))
    rw [ej, e2j] at ex
    refine gm_bdP (mt_paths hX2.1) (fun r hr => ?_)
    have hr2 := hr.1.2
    refine gm_if (fun c2 => ?_) (fun c2 => ?_)
    · have hx4 : (f2 16 j).toInt ≤ 4 := by
        have := gb_dlt c2
        rw [ex] at this
        rw [e2j]
        omega
      have hlv2 : ∀ i : Nat, (i : Int) ≤ v1.toInt → gb_lv f2 i := fun i hi => by
        by_cases q : i = j
        · rw [q]
          exact ⟨⟨by rw [e2j, ec]; omega, hx4⟩, ka⟩
        · have hh := hlow i (by omega)
          unfold gb_lv
          rw [hh.1, hh.2]
          exact hl i hi
      have stay : ∀ (f3 : gb_F) (w3 : Int64), gb_XK f0 f3 → f3 16 = f2 16 → f3 17 = f2 17 → gb_tm (ms_tries_37 n mm f3 w3 v1) (fun f2 _ _ => gb_XK f0 f2 ∧ True) := fun f3 w3 hX3 e16 e17 => by
        refine ih f3 w3 v1 hX3 i1 hg (fun i hi => ?_) (fun _ => ?_) hmm
        · unfold gb_lv
          rw [e16, e17]
          exact hlv2 i hi
        · rw [ej, e16, p2]
          omega
      refine gm_if (fun c3 => ?_) (fun c3 => ?_)
      · unfold ms_tries_87
        rw [if_pos c3]
        exact stay f2 w2 hX2 rfl rfl
      refine gm_bdP (mt_geeseE hX2.1) (fun g hge => ?_)
      refine gm_if (fun c4 => ?_) (fun c4 => ?_)
      · obtain ⟨f3, w3, r3, e3, hX3, -⟩ := mc2_counts hn (w := w2) hX2.1
        rw [e3]
        exact stay f3 w3 (gb_XKt hX2 (gb_XCk hX3)) hX3.2.2.1 hX3.2.2.2
      · unfold ms_tries_87
        rw [if_neg c3]
        have eg : g = f0 1 (Int32.toNatClampNeg ((f0 0 11) + 1)) := by
          rw [hge, hX2.2.1, hX2.2.2.1]
        have ig : gb_iv 0 8 g := by
          rw [hge]
          exact gb_r111 hX2.1
        have ig1 := gb_isub (lo := -1) (hi := 7) ig (gb_ic (x := 1) (a := 1) (by decide)) (by decide)
        have eg1 : (g - 1).toInt = g.toInt - 1 := by
          rw [gb_tsub (by rw [c1]; have := ig.1; omega) (by rw [c1]; have := ig.2; omega), c1]
        rw [← eg] at hg
        have hne : v1.toInt ≠ g.toInt - 1 := fun q => c4 (gb_ieq (q.trans eg1.symm))
        have hg8 := ig.2
        refine gm_lt (fun x2 ex2 => ?_)
        have ev : x2.toInt = v1.toInt + 1 := by
          rw [ex2]
          exact gb_i1 i1 (by decide)
        have ix2 : gb_iv 0 7 x2 := ⟨by omega, by omega⟩
        have ej2 : Int32.toNatClampNeg x2 = j + 1 := gb_tn (by omega)
        refine gm_ck ix2 (by decide) (gm_ltf (gb_XKu hX2 rfl) (fun f3 e3 hX3 => gm_ck ix2 (by decide) (gm_ltf (gb_XKu hX3 rfl) (fun f4 e4 hX4 => ?_))))
        rw [ej2] at e3 e4
        have q16 : f4 16 = upd (f2 16) (j + 1) (-2) := by
          rw [e4, e3]
          rfl
        have q17 : f4 17 = upd (f2 17) (j + 1) (vp_nar .boolean 0) := by
          rw [e4, e3]
          rfl
        have m2 : (-2 : Int32).toInt = -2 := by decide
        have nb0 : vp_nar .boolean 0 = 0 := by decide
        refine ih f4 _ x2 hX4 (gb_iw ix2 (by decide)) (by rw [← eg]; omega) (fun i hi => ?_) (fun _ => ?_) hmm
        · unfold gb_lv
          rw [q16, q17]
          by_cases q : i = j + 1
          · rw [q, pk_us, pk_us]
            exact ⟨⟨by decide, by decide⟩, fun h => absurd nb0 h⟩
          · rw [pk_un q, pk_un q]
            exact hlv2 i (by omega)
        · rw [ej2, q16]
          have e5 : gb_ph (upd (f2 16) (j + 1) (-2)) (j + 1) = gb_ph (f2 16) j + 7 * gb_wt (j + 1) := by
            show gb_ph (upd (f2 16) (j + 1) (-2)) j + _ = _
            rw [gb_ph_above (by omega), pk_us, m2]
            rfl
          rw [e5, p2]
          omega
    · refine gm_lt (fun x2 ex2 => ?_)
      have cm : (-1 : Int32).toInt = -1 := by decide
      have ev : x2.toInt = v1.toInt - 1 := by
        rw [ex2, gb_tadd (by rw [cm]; omega) (by rw [cm]; omega), cm]
        omega
      refine ih f2 _ x2 hX2 ⟨by omega, by omega⟩ (by omega) (fun i hi => ?_) (fun h5 => ?_) hmm
      · have hh := hlow i (by omega)
        unfold gb_lv
        rw [hh.1, hh.2]
        exact hl i (by omega)
      · obtain ⟨j2, rfl⟩ : ∃ j2, j = j2 + 1 := ⟨j - 1, by omega⟩
        have ej2 : Int32.toNatClampNeg x2 = j2 := gb_tn (by omega)
        rw [ej2]
        have e6 : gb_ph (f2 16) (j2 + 1) = gb_ph (f2 16) j2 + (5 - (f2 16 (j2 + 1)).toInt) * gb_wt (j2 + 1) := rfl
        have h6 : 0 ≤ (5 - (f2 16 (j2 + 1)).toInt) * gb_wt (j2 + 1) := Int.mul_nonneg (by have := hle5 (j2 + 1) (Nat.le_refl _); omega) (by omega)
        omega
theorem mt_tries {n : Nat} (hn : gb_N ≤ n) {f : gb_F} {w : Int64} (hT : gb_TM f) : gb_tm (ms_tries n f w) (fun f2 _ _ => gb_XK f f2 ∧ True) := by
  unfold ms_tries
  refine gm_bdK (gb_XKr hT) (mt_measures hn hT) (fun f2 w2 _ hX2 _ => ?_)
  refine gm_bdK hX2 (mt_opens hn hX2.1) (fun f3 w3 _ hX3 _ => ?_)
  refine gm_bdP (mt_geeseE hX3.1) (fun g hg => ?_)
  refine gm_if (fun c => gm_bdK hX3 (mt_counts hn hX3.1) (fun f4 w4 _ hX4 _ => gm_some ⟨hX4, trivial⟩)) (fun c => ?_)
  refine gm_ltf (gb_XKu hX3 rfl) (fun f4 e4 hX4 => gm_ltf (gb_XKu hX4 rfl) (fun f5 e5 hX5 => ?_))
  have z0 : (0 : Int32).toInt = 0 := by decide
  have c0 : Int32.toNatClampNeg 0 = 0 := by decide
  have nb0 : vp_nar .boolean 0 = 0 := by decide
  have ig : gb_iv 0 8 g := by
    rw [hg]
    exact gb_r111 hX3.1
  have eg : g = f 1 (Int32.toNatClampNeg ((f 0 11) + 1)) := by
    rw [hg, hX3.2.1, hX3.2.2.1]
  have g1 : 0 < g.toInt := by
    have h1 := ig.1
    have h2 : g.toInt ≠ 0 := fun q => c (gb_ieq (q.trans z0.symm))
    omega
  rw [c0] at e4 e5
  have q16 : f5 16 = upd (f3 16) 0 (-2) := by
    rw [e5, e4]
    rfl
  have q17 : f5 17 = upd (f3 17) 0 (vp_nar .boolean 0) := by
    rw [e5, e4]
    rfl
  refine mt_tries_37 hn n f5 w3 0 hX5 ⟨by decide, by decide⟩ (by rw [← eg, z0]; exact g1) (fun i hi => ?_) (fun _ => ?_) (by unfold gb_N at hn; omega)
  · have : i = 0 := by omega
    subst this
    unfold gb_lv
    rw [q16, q17, pk_us, pk_us]
    exact ⟨⟨by decide, by decide⟩, fun h => absurd nb0 h⟩
  · rw [c0, q16]
    have : gb_ph (upd (f3 16) 0 (-2)) 0 = 117440512 := by
      unfold gb_ph
      rw [pk_us]
      decide
    rw [this]
    unfold gb_N at hn
    omega
theorem mt_fits {n : Nat} (hn : gb_N ≤ n) {f : gb_F} {w : Int64} {p1 p2 : Int32} (hT : gb_TM f) : gb_tm (ms_fits n f w p1 p2) (fun f2 _ _ => gb_TM f2) := by
  unfold ms_fits
  refine gm_bdT (mt_areSeen hT) (fun f1 w1 r1 hX h1 => ?_)
  refine gm_if (fun c => gm_some hX.1) (fun c => ?_)
  exact gm_bdK hX (mt_tries hn hX.1) (fun f2 w2 _ hX2 _ => gm_some hX2.1)
theorem mt_told_45 {n : Nat} (hn : gb_N ≤ n) {f : gb_F} {w : Int64} {v3 : Int32} (hT : gb_TM f) (i3 : gb_iv 0 2 v3 ∨ gb_iv 10 17 v3) : gb_tm (ms_told_45 n f w v3) (fun f2 _ _ => gb_TM f2) := by
  unfold ms_told_45
  refine gm_bdK (gb_XKr hT) (mt_tries hn hT) (fun f2 w2 _ hX2 _ => ?_)
  refine gm_if (fun c => gm_some hX2.1) (fun c => ?_)
  refine gm_if (fun c => gm_some hX2.1) (fun c0 => ?_)
  refine gm_if (fun c => gm_some hX2.1) (fun c1 => ?_)
  refine gm_if (fun c => gm_some hX2.1) (fun c2 => ?_)
  have i4 : gb_iv 10 17 v3 := by
    rcases i3 with h | h
    · have d0 : v3.toInt ≠ 0 := fun q => c0 (gb_ieq (q.trans (by decide)))
      have d1 : v3.toInt ≠ 1 := fun q => c1 (gb_ieq (q.trans (by decide)))
      have d2 : v3.toInt ≠ 2 := fun q => c2 (gb_ieq (q.trans (by decide)))
      have h1 := h.1
      have h2 := h.2
      exact ⟨by omega, by omega⟩
    · exact h
  exact gm_ck (gb_isub (lo := 0) (hi := 7) i4 (gb_ic (a := 10) (by decide)) (by decide)) (by decide) (gm_lt (fun x e => gm_some hX2.1))
theorem mt_told {n : Nat} (hn : gb_N ≤ n) {f : gb_F} {w : Int64} {p1 p2 p3 : Int32} (hT : gb_TM f) : gb_tm (ms_told n f w p1 p2 p3) (fun f2 _ _ => gb_TM f2) := by
  unfold ms_told
  refine gm_bdT (mt_areSeen hT) (fun f1 w1 r1 hX h1 => ?_)
  refine gm_if (fun c => gm_some hX.1) (fun c => ?_)
  refine gm_if (fun c => gm_bdK hX (mt_toe hn hX.1) (fun f2 w2 _ hX2 _ => gm_some hX2.1)) (fun c => ?_)
  refine gm_bdP mt_isIn (fun r h => ?_)
  refine gm_if (fun c2 => ?_) (fun c2 => ?_)
  · refine gm_bdP (mt_isGoose hX.1) (fun r2 h2 => gm_if (fun c => gm_some hX.1) (fun c3 => ?_))
    exact mt_told_45 hn hX.1 (Or.inr (gb_vsub (lo := 10) (hi := 17) (v := 10) (h2.2 c3) (by decide) (by decide)))
  · exact mt_told_45 hn hX.1 (Or.inl (gb_iin (a := 0) (b := 0) (h.2 c2) (by decide) (by decide)))
