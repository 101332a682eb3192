/-! shift of the reference leaves what is told as it was -/
def gb_swF (F : Nat → Int32) (B i : Nat) : Nat → Int32 := fun j => if B ≤ j ∧ j < B + i then F (j + 4) else if B + 4 ≤ j ∧ j < B + 4 + i then F (j - 4) else F j
theorem gb_swF0 {F : Nat → Int32} {B : Nat} : gb_swF F B 0 = F := by
  funext j
  unfold gb_swF
  rw [if_neg (by omega), if_neg (by omega)]
theorem gb_swF1 {F : Nat → Int32} {B i : Nat} (hi : i < 4) : upd (upd (gb_swF F B i) (B + i) (gb_swF F B i (B + i + 4))) (B + i + 4) (gb_swF F B i (B + i)) = gb_swF F B (i + 1) := by
  have a1 : gb_swF F B i (B + i) = F (B + i) := by
    unfold gb_swF
    rw [if_neg (by omega), if_neg (by omega)]
  have a2 : gb_swF F B i (B + i + 4) = F (B + i + 4) := by
    unfold gb_swF
    rw [if_neg (by omega), if_neg (by omega)]
  rw [a1, a2]
  funext j
  by_cases h1 : j = B + i + 4
  · rw [h1, pk_us]
    unfold gb_swF
    rw [if_neg (by omega), if_pos (by omega)]
    congr 1
  · rw [pk_un h1]
    by_cases h2 : j = B + i
    · rw [h2, pk_us]
      unfold gb_swF
      rw [if_pos (by omega)]
    · rw [pk_un h2]
      unfold gb_swF
      by_cases h3 : B ≤ j ∧ j < B + i
      · rw [if_pos h3, if_pos (by omega)]
      · have n1 : ¬ (B ≤ j ∧ j < B + (i + 1)) := by omega
        by_cases h4 : B + 4 ≤ j ∧ j < B + 4 + i
        · have n2 : B + 4 ≤ j ∧ j < B + 4 + (i + 1) := by omega
          rw [if_neg h3, if_pos h4, if_neg n1, if_pos n2]
        · have n2 : ¬ (B + 4 ≤ j ∧ j < B + 4 + (i + 1)) := by omega
          rw [if_neg h3, if_neg h4, if_neg n1, if_neg n2]
theorem gb_swF2 {F : Nat → Int32} {B : Nat} : gb_swF (gb_swF F B 4) B 4 = F := by
  funext j
  show (if B ≤ j ∧ j < B + 4 then gb_swF F B 4 (j + 4) else if B + 4 ≤ j ∧ j < B + 4 + 4 then gb_swF F B 4 (j - 4) else gb_swF F B 4 j) = F j
  by_cases h1 : B ≤ j ∧ j < B + 4
  · rw [if_pos h1]
    unfold gb_swF
    rw [if_neg (by omega), if_pos (by omega), Nat.add_sub_cancel]
  · rw [if_neg h1]
    by_cases h2 : B + 4 ≤ j ∧ j < B + 4 + 4
    · rw [if_pos h2]
      unfold gb_swF
      rw [if_pos (by omega)]
      congr 1
      omega
    · rw [if_neg h2]
      unfold gb_swF
      rw [if_neg h1, if_neg h2]
theorem mh_swaps_2 {n : Nat} {F0 : Nat → Int32} {f0 : gb_F} {v1 : Int32} {B : Nat} (hB : (((f0 0 12) + 1) + (4 * v1)).toInt = B) (hB2 : B ≤ 2000) : ∀ (mm : Nat) (f : gb_F) (w : Int64) (v2 : Int32) (i : Nat), v2.toInt = i → i ≤ 4 → f 1 = gb_swF F0 B i → (∀ q, q ≠ 1 → f q = f0 q) → gb_hm (ms_swaps_2 n mm f w v1 v2) (fun f2 _ _ => f2 1 = gb_swF F0 B 4 ∧ ∀ q, q ≠ 1 → f2 q = f0 q) := by
  intro mm
  induction mm with
  | zero =>
    intros
    exact hm_none
  | succ mm ih =>
    intro f w v2 i e2 hi h1 hf
    unfold ms_swaps_2
    have c4 : (4 : Int32).toInt = 4 := by decide
    refine hm_if (fun c => ?_) (fun c => ?_)
    · have := gi_le c
      have hi2 : i = 4 := by omega
      rw [hi2] at h1
      exact hm_some ⟨h1, hf⟩
    · have := gi_nle c
      refine hm_lt (fun x ex => hm_ck (fun _ _ => hm_lt (fun y ey => hm_ck (fun _ _ => hm_lt (fun z ez => hm_ck (fun _ _ => hm_lt (fun f2 e2' => hm_ck (fun _ _ => hm_lt (fun f3 e3 => hm_lt (fun u eu => ?_))))))))))
      rw [hf 0 (by decide)] at ex
      have a1 : x.toInt = ((B + i : Nat) : Int) := by
        rw [ex, gb_tadd (by omega) (by omega), hB, e2]
        omega
      have a2 : (x + 4).toInt = ((B + i + 4 : Nat) : Int) := by
        rw [gb_tadd (by omega) (by omega), c4, a1]
        omega
      refine ih f3 w u (i + 1) (by rw [eu]; exact gi_s1 e2 (by omega)) (by omega) ?_ (fun q hq => ?_)
      · rw [e3, gb_us, e2', gb_us, ey, ez, gi_tn a1, gi_tn a2, h1]
        exact gb_swF1 (by omega)
      · rw [e3, gb_un hq, e2', gb_un hq]
        exact hf q hq
theorem mh_swaps {n : Nat} {f : gb_F} {w : Int64} {v1 : Int32} {B : Nat} (hB : (((f 0 12) + 1) + (4 * v1)).toInt = B) (hB2 : B ≤ 2000) : gb_hm (ms_swaps n f w v1) (fun f2 _ _ => f2 1 = gb_swF (f 1) B 4 ∧ ∀ q, q ≠ 1 → f2 q = f q) := by
  unfold ms_swaps
  have z : (0 : Int32).toInt = ((0 : Nat) : Int) := by decide
  exact mh_swaps_2 hB hB2 n f w 0 0 z (by omega) gb_swF0.symm (fun _ _ => rfl)
theorem gb_swB {f : gb_F} {v : Int32} (hN : gb_NN f) (i : gb_iv 0 22 v) : ∃ B : Nat, (((f 0 12) + 1) + (4 * v)).toInt = B ∧ B ≤ 2000 := by
  have c1 : (1 : Int32).toInt = 1 := by decide
  have c4 : (4 : Int32).toInt = 4 := by decide
  obtain ⟨i1, i2⟩ := i
  have a2 : (4 * v).toInt = 4 * v.toInt := by
    rw [gb_tmul (by rw [c4]; omega) (by rw [c4]; omega), c4]
  have e : (f 0 12).toInt = 726 ∨ (f 0 12).toInt = 823 := by
    rcases hN with e | e
    · exact Or.inl (by rw [e]; decide)
    · exact Or.inr (by rw [e]; decide)
  have a1 : ((f 0 12) + 1).toInt = (f 0 12).toInt + 1 := by
    rw [gb_tadd (by omega) (by omega), c1]
  have a3 : (((f 0 12) + 1) + (4 * v)).toInt = (f 0 12).toInt + 1 + 4 * v.toInt := by
    rw [gb_tadd (by omega) (by omega), a1, a2]
  exact ⟨((f 0 12).toInt + 1 + 4 * v.toInt).toNat, by omega, by omega⟩
def gb_k12 (F1 F2 : Nat → Int32) (f : gb_F) : Prop := f 1 = F1 ∧ f 2 = F2
theorem gb_k12_sm {F1 F2 : Nat → Int32} : gb_sm (gb_k12 F1 F2) := ⟨fun f F h => ⟨h.1, h.2⟩, fun f k F hk h => ⟨(gb_un (by omega)).trans h.1, (gb_un (by omega)).trans h.2⟩⟩
set_option maxHeartbeats 4000000 in
theorem mh_shift_35 {n : Nat} (hn : gb_N ≤ n) {F1 F2 : Nat → Int32} : ∀ (mm : Nat) (f : gb_F) (w : Int64) (v3 v4 v5 v6 v7 : Int32), gb_TM f → gb_NN f → gb_k12 F1 F2 f → gb_iv 0 24 v4 → gb_iv 0 24 v7 → gb_hm (ms_shift_35 n mm f w v3 v4 v5 v6 v7) (fun f2 _ _ => gb_k12 F1 F2 f2) := by
  intro mm
  induction mm with
  | zero =>
    intros
    exact hm_none
  | succ mm ih =>
    intro f w v3 v4 v5 v6 v7 hT hN hk i4 i7
    rw [ms_shift_35]
    refine hm_if (fun c => hm_if (fun _ => hm_some hk) (fun _ => hm_if (fun _ => hm_some hk) (fun _ => hm_some hk))) (fun c => ?_)
    have i7' : gb_iv 0 22 v7 := by
      have h1 := gb_dnle c
      have h2 := gb_i1 i7 (by decide)
      have h3 := i4.2
      exact ⟨i7.1, by omega⟩
    have st : ∀ x : Int32, x = v7 + 1 → gb_iv 0 24 x := fun x e => by
      rw [e]
      exact gb_iw (gb_iadd (lo := 1) (hi := 23) i7' (gb_ic (a := 1) (by decide)) (by decide)) (by decide)
    obtain ⟨B, hB, hB2⟩ := gb_swB hN i7'
    refine hm_bd (hm_and (hm_of (mt_swaps hn hT hN i7')) (mh_swaps hB hB2)) (fun f2 w2 _ h => ?_)
    obtain ⟨⟨hT2, hN2⟩, s1, s2⟩ := h
    refine hm_bd (hm_and (hm_of (mt_runs hn hT2 hN2)) (hm_pm (cm_runs (P := fun g => g 2 = f2 2) ⟨fun g F h => h, fun g k F hk h => (gb_un (by omega)).trans h⟩ rfl))) (fun f3 w3 _ h3 => ?_)
    obtain ⟨⟨hX, -⟩, g2⟩ := h3
    have hT3 := hX.1
    have hN3 := gb_NNx hX hN2
    have b3 : (((f3 0 12) + 1) + (4 * v7)).toInt = B := by
      rw [hX.2.2.2.1, s2 0 (by decide)]
      exact hB
    have fin : ∀ (g : gb_F) (u : Int64), g = f3 → ∀ (x3 x4 x5 x6 : Int32), gb_iv 0 24 x4 → gb_hm (gb_bd (ms_swaps n g u v7) (fun f_34 wl_35 _ => gb_lt (v7 + 1) (fun x_39 => ms_shift_35 n mm f_34 wl_35 x3 x4 x5 x6 x_39))) (fun f2 _ _ => gb_k12 F1 F2 f2) := by
      intro g u eg x3 x4 x5 x6 hx4
      subst eg
      refine hm_bd (hm_and (hm_of (mt_swaps hn hT3 hN3 i7')) (mh_swaps b3 hB2)) (fun f4 w4 _ h => ?_)
      obtain ⟨⟨hT4, hN4⟩, u1, u2⟩ := h
      refine hm_lt (fun x ex => ih f4 w4 _ _ _ _ x hT4 hN4 ⟨?_, ?_⟩ hx4 (st x ex))
      · rw [u1, hX.2.1, s1, gb_swF2]
        exact hk.1
      · rw [u2 2 (by decide), g2, s2 2 (by decide)]
        exact hk.2
    have key : ∀ t0 : Int32, gb_hm (ms_shift_79 n (fun f w v3 v4 v5 v6 v7 => ms_shift_35 n mm f w v3 v4 v5 v6 v7) f3 w3 v3 v4 v5 v6 v7 t0) (fun f2 _ _ => gb_k12 F1 F2 f2) := by
      intro t0
      unfold ms_shift_79
      refine hm_if (fun _ => hm_if (fun _ => fin _ _ rfl _ _ _ _ i4) (fun _ => fin _ _ rfl _ _ _ _ i4)) (fun _ => ?_)
      refine hm_bd (hm_of (mt_allPay hn hT3)) (fun f5 w5 r h5 => ?_)
      exact hm_if (fun _ => fin _ _ h5.1 _ _ _ _ i4) (fun _ => fin _ _ h5.1 _ _ _ _ i4)
    refine hm_if (fun _ => ?_) (fun _ => ?_)
    · unfold ms_shift_78
      exact key 0
    · refine hm_bd (hm_of (mt_allPay hn hT3)) (fun f5 w5 r h5 => ?_)
      obtain ⟨rfl, rfl, -⟩ := h5
      refine hm_if (fun _ => ?_) (fun _ => key 1)
      unfold ms_shift_78
      exact key 0
theorem mh_shift {n : Nat} (hn : gb_N ≤ n) {f : gb_F} {w : Int64} {p1 p2 p3 : Int32} (hT : gb_TM f) : gb_hm (ms_shift n f w p1 p2 p3) (fun f2 _ _ => gb_k12 (f 1) (f 2) f2) := by
  unfold ms_shift
  refine hm_bd (hm_and (hm_of (mt_areTold hT)) (hm_pm (cm_areTold (P := gb_k12 (f 1) (f 2)) gb_k12_sm ⟨rfl, rfl⟩))) (fun f1 w1 r1 h1 => ?_)
  obtain ⟨⟨hT1, i1, hN⟩, k1⟩ := h1
  refine hm_if (fun c => hm_some k1) (fun c => ?_)
  refine hm_bd (hm_and (hm_of (mt_runs hn hT1 (hN c))) (hm_pm (cm_runs (P := gb_k12 (f 1) (f 2)) gb_k12_sm k1))) (fun f3 w3 _ h3 => ?_)
  obtain ⟨⟨hX, -⟩, k3⟩ := h3
  refine hm_lt (fun x ex => hm_bd (hm_of (mt_allPay hn hX.1)) (fun f5 w5 r h5 => ?_))
  obtain ⟨rfl, rfl, -⟩ := h5
  have z : gb_iv 0 24 (0 : Int32) := gb_iw (gb_ic (a := 0) (by decide)) (by decide)
  exact mh_shift_35 hn n f5 w5 _ _ _ _ _ hX.1 (gb_NNx hX (hN c)) k3 (by rw [ex]; exact gb_i23 hX.1) z
