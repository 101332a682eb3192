/-! THE CLASS: its two rows of longs stay two -/
def gb_JJ (σ : gb_S) : Prop := ¬ σ.2.1 4 = σ.2.1 5
def gb_pj {ρ : Type} (x : gb_CR ρ) : Prop := ∀ (σ2 : gb_S) (r : ρ), x = some (σ2, r) → gb_JJ σ2
theorem pj_none {ρ : Type} : gb_pj (none : gb_CR ρ) := fun _ _ h => by cases h
theorem pj_some {ρ : Type} {σ : gb_S} {r : ρ} (h : gb_JJ σ) : gb_pj (some (σ, r)) := fun _ _ e => by cases e; exact h
theorem pj_if {ρ : Type} {c : Prop} [Decidable c] {x y : gb_CR ρ} (h1 : gb_pj x) (h2 : gb_pj y) : gb_pj (if c then x else y) := by
  split
  · exact h1
  · exact h2
theorem pj_ck {ρ : Type} {i : Int32} {n : Nat} {x : gb_CR ρ} (h : gb_pj x) : gb_pj (gb_ck i n x) := by
  unfold gb_ck
  split
  · exact h
  · exact pj_none
theorem pj_kk {ρ : Type} {c : Bool} {x : gb_CR ρ} (h : c = true → gb_pj x) : gb_pj (gb_kk c x) := by
  unfold gb_kk
  by_cases hc : c = true
  · rw [if_pos hc]; exact h hc
  · rw [if_neg hc]; exact pj_none
theorem pj_ltE {ρ α : Type} {v : α} {k : α → gb_CR ρ} (h : gb_pj (k v)) : gb_pj (gb_lt v k) := h
theorem pj_ltV {ρ α : Type} {v : α} {k : α → gb_CR ρ} (h : ∀ v, gb_pj (k v)) : gb_pj (gb_lt v k) := h v
theorem pj_ltS {ρ : Type} {v : gb_S} {k : gb_S → gb_CR ρ} (hv : gb_JJ v) (h : ∀ s, gb_JJ s → gb_pj (k s)) : gb_pj (gb_lt v k) := h v hv
theorem pj_cd {ρ τ : Type} {x : gb_CR ρ} {k : gb_S → ρ → gb_CR τ} (h : gb_pj x) (hk : ∀ s r, gb_JJ s → gb_pj (k s r)) : gb_pj (gb_cd x k) := by
  unfold gb_cd
  cases x with
  | none => exact pj_none
  | some q => exact hk q.1 q.2 (h q.1 q.2 rfl)
theorem js_su {σ : gb_S} {k : Nat} {F : Nat → Int32} (h : gb_JJ σ) : gb_JJ (gb_su σ k F) := h
theorem js_sq {σ : gb_S} {k v : Nat} (hk : k ≠ 4 ∧ k ≠ 5) (h : gb_JJ σ) : gb_JJ (gb_sq σ k v) := by
  unfold gb_JJ
  show ¬ (if 4 = k then v else σ.2.1 4) = (if 5 = k then v else σ.2.1 5)
  rw [if_neg (fun e => hk.1 e.symm), if_neg (fun e => hk.2 e.symm)]
  exact h
theorem js_sw {σ : gb_S} (h : gb_JJ σ) : gb_JJ (gb_sq (gb_sq σ 4 (σ.2.1 5)) 5 (σ.2.1 4)) := fun e => h (Eq.symm e)
theorem js_sg {σ : gb_S} {k : Nat} {F : Nat → Int64} (h : gb_JJ σ) : gb_JJ (gb_sg σ k F) := h
theorem pj_ac {ρ : Type} {sp dp m : Int32} {n0 n1 : Nat} {x : gb_CR ρ} (h : gb_pj x) : gb_pj (gb_ac sp dp m n0 n1 x) := by
  unfold gb_ac
  split
  · exact h
  · exact pj_none
theorem pj_cc {ρ : Type} {v : Int32} {x : gb_CR ρ} (h : gb_pj x) : gb_pj (gb_cc v x) := by
  unfold gb_cc
  split
  · exact h
  · exact pj_none
theorem pj_nz {ρ : Type} {i : Int32} {x : gb_CR ρ} (h : gb_pj x) : gb_pj (gb_nz i x) := by
  unfold gb_nz
  split
  · exact pj_none
  · exact h
theorem cj_Border_clear_B {n : Nat} {σ : gb_S} {k0 : Nat} (h : gb_JJ σ) : gb_pj (cs_Border_clear_B n σ k0) := by
  unfold cs_Border_clear_B
  refine pj_kk (fun ck_k0 => ?_)
  refine pj_ltS (js_su h) (fun s_2 hs_2 => ?_)
  refine pj_ltS (js_su hs_2) (fun s_3 hs_3 => ?_)
  refine pj_ltS (js_su hs_3) (fun s_4 hs_4 => ?_)
  exact pj_some hs_4
theorem cj_Border_geese_B {n : Nat} {σ : gb_S} {k0 : Nat} (h : gb_JJ σ) : gb_pj (cs_Border_geese_B n σ k0) := by
  unfold cs_Border_geese_B
  refine pj_kk (fun ck_k0 => ?_)
  refine pj_ltV (fun x_2 => ?_)
  exact pj_some h
theorem cj_Border_paths_B {n : Nat} {σ : gb_S} {k0 : Nat} (h : gb_JJ σ) : gb_pj (cs_Border_paths_B n σ k0) := by
  unfold cs_Border_paths_B
  refine pj_kk (fun ck_k0 => ?_)
  refine pj_ltV (fun x_2 => ?_)
  exact pj_some h
theorem cj_Border_hasRoomFor_B {n : Nat} {σ : gb_S} {k0 : Nat} {p1 : Int32} (h : gb_JJ σ) : gb_pj (cs_Border_hasRoomFor_B n σ k0 p1) := by
  unfold cs_Border_hasRoomFor_B
  refine pj_kk (fun ck_k0 => ?_)
  refine pj_if ?_ ?_
  · exact pj_some h
  · refine pj_if ?_ ?_
    · refine pj_cd (cj_Border_paths_B h) (fun s_9 r_10 hs_9 => ?_)
      refine pj_if ?_ ?_
      · exact pj_some hs_9
      · exact pj_some hs_9
    · refine pj_cd (cj_Border_geese_B h) (fun s_4 r_5 hs_4 => ?_)
      refine pj_if ?_ ?_
      · exact pj_some hs_4
      · exact pj_some hs_4
theorem cj_Border_clashes_B {n : Nat} {σ : gb_S} {k0 : Nat} (h : gb_JJ σ) : gb_pj (cs_Border_clashes_B n σ k0) := by
  unfold cs_Border_clashes_B
  refine pj_kk (fun ck_k0 => ?_)
  exact pj_some h
theorem cj_Border_cap_B {n : Nat} {σ : gb_S} {k0 : Nat} (h : gb_JJ σ) : gb_pj (cs_Border_cap_B n σ k0) := by
  unfold cs_Border_cap_B
  refine pj_kk (fun ck_k0 => ?_)
  refine pj_ltV (fun x_2 => ?_)
  exact pj_some h
theorem cj_Border_hasPath_B {n : Nat} {σ : gb_S} {k0 : Nat} {p1 : Int32} (h : gb_JJ σ) : gb_pj (cs_Border_hasPath_B n σ k0 p1) := by
  unfold cs_Border_hasPath_B
  refine pj_kk (fun ck_k0 => ?_)
  refine pj_if ?_ ?_
  · exact pj_some h
  · refine pj_cd (cj_Border_paths_B h) (fun s_3 r_4 hs_3 => ?_)
    refine pj_if ?_ ?_
    · exact pj_some hs_3
    · exact pj_some hs_3
theorem cj_Border_hasGoose_B {n : Nat} {σ : gb_S} {k0 : Nat} {p1 : Int32} (h : gb_JJ σ) : gb_pj (cs_Border_hasGoose_B n σ k0 p1) := by
  unfold cs_Border_hasGoose_B
  refine pj_kk (fun ck_k0 => ?_)
  refine pj_if ?_ ?_
  · exact pj_some h
  · refine pj_cd (cj_Border_geese_B h) (fun s_3 r_4 hs_3 => ?_)
    refine pj_if ?_ ?_
    · exact pj_some hs_3
    · exact pj_some hs_3
theorem cj_Border_numberTold_B {n : Nat} {σ : gb_S} {k0 : Nat} {p1 : Int32} (h : gb_JJ σ) : gb_pj (cs_Border_numberTold_B n σ k0 p1) := by
  unfold cs_Border_numberTold_B
  refine pj_kk (fun ck_k0 => ?_)
  refine pj_if ?_ ?_
  · exact pj_some h
  · refine pj_if ?_ ?_
    · refine pj_ltE ?_
      refine pj_ltE ?_
      refine pj_if ?_ ?_
      · refine pj_ltE ?_
        refine pj_cd (cj_Border_hasGoose_B h) (fun s_8 r_9 hs_8 => ?_)
        refine pj_if ?_ ?_
        · exact pj_some hs_8
        · refine pj_ck ?_
          refine pj_ltV (fun x_14 => ?_)
          exact pj_some hs_8
      · refine pj_cd (cj_Border_hasPath_B h) (fun s_15 r_16 hs_15 => ?_)
        refine pj_if ?_ ?_
        · exact pj_some hs_15
        · refine pj_ck ?_
          refine pj_ltV (fun x_21 => ?_)
          exact pj_some hs_15
    · exact pj_some h
theorem cj_Border_miles_B {n : Nat} {σ : gb_S} {k0 : Nat} {p1 : Int32} (h : gb_JJ σ) : gb_pj (cs_Border_miles_B n σ k0 p1) := by
  unfold cs_Border_miles_B
  refine pj_kk (fun ck_k0 => ?_)
  refine pj_ck ?_
  refine pj_ltV (fun x_3 => ?_)
  exact pj_some h
theorem cj_Border_rate_B {n : Nat} {σ : gb_S} {k0 : Nat} {p1 : Int32} (h : gb_JJ σ) : gb_pj (cs_Border_rate_B n σ k0 p1) := by
  unfold cs_Border_rate_B
  refine pj_kk (fun ck_k0 => ?_)
  refine pj_ck ?_
  refine pj_ltV (fun x_3 => ?_)
  exact pj_some h
theorem cj_Border_pad_B {n : Nat} {σ : gb_S} {k0 : Nat} {p1 : Int32} (h : gb_JJ σ) : gb_pj (cs_Border_pad_B n σ k0 p1) := by
  unfold cs_Border_pad_B
  refine pj_kk (fun ck_k0 => ?_)
  refine pj_ck ?_
  refine pj_ltV (fun x_3 => ?_)
  exact pj_some h
theorem cj_Border_toes_B {n : Nat} {σ : gb_S} {k0 : Nat} {p1 : Int32} (h : gb_JJ σ) : gb_pj (cs_Border_toes_B n σ k0 p1) := by
  unfold cs_Border_toes_B
  refine pj_kk (fun ck_k0 => ?_)
  refine pj_ltE ?_
  refine pj_ck ?_
  refine pj_ltV (fun x_4 => ?_)
  refine pj_ck ?_
  refine pj_ltV (fun x_6 => ?_)
  exact pj_some h
theorem cj_Border_boots_B {n : Nat} {σ : gb_S} {k0 : Nat} {p1 : Int32} (h : gb_JJ σ) : gb_pj (cs_Border_boots_B n σ k0 p1) := by
  unfold cs_Border_boots_B
  refine pj_kk (fun ck_k0 => ?_)
  refine pj_ck ?_
  refine pj_ltV (fun x_3 => ?_)
  exact pj_some h
theorem cj_Border_limps_B {n : Nat} {σ : gb_S} {k0 : Nat} {p1 : Int32} (h : gb_JJ σ) : gb_pj (cs_Border_limps_B n σ k0 p1) := by
  unfold cs_Border_limps_B
  refine pj_kk (fun ck_k0 => ?_)
  refine pj_ck ?_
  refine pj_ltV (fun x_3 => ?_)
  refine pj_if ?_ ?_
  · exact pj_some h
  · exact pj_some h
theorem cj_Border_worth_B {n : Nat} {σ : gb_S} {k0 : Nat} {p1 : Int32} (h : gb_JJ σ) : gb_pj (cs_Border_worth_B n σ k0 p1) := by
  unfold cs_Border_worth_B
  refine pj_kk (fun ck_k0 => ?_)
  refine pj_ck ?_
  refine pj_ltV (fun x_3 => ?_)
  exact pj_some h
theorem cj_Border_worthOf_B_4 {n : Nat} : ∀ (mm : Nat) (σ : gb_S) (v0 : Nat) (v1 : Int32) (v2 : Int32) (v3 : Int32), gb_JJ σ → gb_pj (cs_Border_worthOf_B_4 n mm σ v0 v1 v2 v3) := by
  intro mm
  induction mm with
  | zero =>
    intros
    exact pj_none
  | succ mm ih =>
    intro σ v0 v1 v2 v3  h
    unfold cs_Border_worthOf_B_4
    refine pj_kk (fun ck_v0 => ?_)
    refine pj_cd (cj_Border_geese_B h) (fun s_3 r_4 hs_3 => ?_)
    refine pj_if ?_ ?_
    · exact pj_some hs_3
    · refine pj_if ?_ ?_
      · refine pj_cd (cj_Border_worth_B hs_3) (fun s_10 r_11 hs_10 => ?_)
        refine pj_ltE ?_
        refine pj_ltE ?_
        exact ih _ _ _ _ _ hs_10
      · refine pj_ltE ?_
        exact ih _ _ _ _ _ hs_3
theorem cj_Border_worthOf_B {n : Nat} {σ : gb_S} {k0 : Nat} {p1 : Int32} (h : gb_JJ σ) : gb_pj (cs_Border_worthOf_B n σ k0 p1) := by
  unfold cs_Border_worthOf_B
  refine pj_kk (fun ck_k0 => ?_)
  exact cj_Border_worthOf_B_4 _ _ _ _ _ _ h
theorem cj_Border_marksOver_B_20 {n : Nat} {σ : gb_S} {v0 : Nat} {v1 : Int32} {v2 : Int32} {v5 : Int32} {t0 : Int32} (h : gb_JJ σ) : gb_pj (cs_Border_marksOver_B_20 n σ v0 v1 v2 v5 t0) := by
  unfold cs_Border_marksOver_B_20
  refine pj_kk (fun ck_v0 => ?_)
  refine pj_cd (cj_Border_toes_B h) (fun s_5 r_6 hs_5 => ?_)
  refine pj_ltE ?_
  refine pj_cd (cj_Border_limps_B hs_5) (fun s_10 r_11 hs_10 => ?_)
  refine pj_if ?_ ?_
  · exact pj_some hs_10
  · exact pj_some hs_10
theorem cj_Border_marksOver_B {n : Nat} {σ : gb_S} {k0 : Nat} {p1 : Int32} {p2 : Int32} {p3 : Int32} {p4 : Int32} (h : gb_JJ σ) : gb_pj (cs_Border_marksOver_B n σ k0 p1 p2 p3 p4) := by
  unfold cs_Border_marksOver_B
  refine pj_kk (fun ck_k0 => ?_)
  refine pj_ltV (fun x_2 => ?_)
  refine pj_if ?_ ?_
  · exact cj_Border_marksOver_B_20 h
  · exact cj_Border_marksOver_B_20 h
theorem cj_Border_marksFirst_B {n : Nat} {σ : gb_S} {k0 : Nat} {p1 : Int32} {p2 : Int32} (h : gb_JJ σ) : gb_pj (cs_Border_marksFirst_B n σ k0 p1 p2) := by
  unfold cs_Border_marksFirst_B
  refine pj_kk (fun ck_k0 => ?_)
  refine pj_cd (cj_Border_miles_B h) (fun s_2 r_3 hs_2 => ?_)
  refine pj_cd (cj_Border_boots_B hs_2) (fun s_6 r_7 hs_6 => ?_)
  refine pj_cd (cj_Border_marksOver_B hs_6) (fun s_10 r_11 hs_10 => ?_)
  exact pj_some hs_10
theorem cj_Border_padded_B {n : Nat} {σ : gb_S} {k0 : Nat} {p1 : Int32} {p2 : Int32} (h : gb_JJ σ) : gb_pj (cs_Border_padded_B n σ k0 p1 p2) := by
  unfold cs_Border_padded_B
  refine pj_kk (fun ck_k0 => ?_)
  refine pj_cd (cj_Border_pad_B h) (fun s_2 r_3 hs_2 => ?_)
  refine pj_ltE ?_
  exact pj_some hs_2
theorem cj_Border_payOf_B {n : Nat} {σ : gb_S} {k0 : Nat} {p1 : Int32} {p2 : Int32} (h : gb_JJ σ) : gb_pj (cs_Border_payOf_B n σ k0 p1 p2) := by
  unfold cs_Border_payOf_B
  refine pj_kk (fun ck_k0 => ?_)
  refine pj_cd (cj_Border_rate_B h) (fun s_2 r_3 hs_2 => ?_)
  refine pj_cd (cj_Border_padded_B hs_2) (fun s_6 r_7 hs_6 => ?_)
  exact pj_some hs_6
theorem cj_Border_barefoot_B_4 {n : Nat} : ∀ (mm : Nat) (σ : gb_S) (v0 : Nat) (v1 : Int32) (v2 : Int32) (v3 : Int32), gb_JJ σ → gb_pj (cs_Border_barefoot_B_4 n mm σ v0 v1 v2 v3) := by
  intro mm
  induction mm with
  | zero =>
    intros
    exact pj_none
  | succ mm ih =>
    intro σ v0 v1 v2 v3  h
    unfold cs_Border_barefoot_B_4
    refine pj_kk (fun ck_v0 => ?_)
    refine pj_cd (cj_Border_geese_B h) (fun s_3 r_4 hs_3 => ?_)
    refine pj_if ?_ ?_
    · exact pj_some hs_3
    · refine pj_cd (cj_Border_miles_B hs_3) (fun s_8 r_9 hs_8 => ?_)
      refine pj_cd (cj_Border_marksOver_B hs_8) (fun s_12 r_13 hs_12 => ?_)
      refine pj_ltE ?_
      refine pj_ltE ?_
      exact ih _ _ _ _ _ hs_12
theorem cj_Border_barefoot_B {n : Nat} {σ : gb_S} {k0 : Nat} {p1 : Int32} (h : gb_JJ σ) : gb_pj (cs_Border_barefoot_B n σ k0 p1) := by
  unfold cs_Border_barefoot_B
  refine pj_kk (fun ck_k0 => ?_)
  exact cj_Border_barefoot_B_4 _ _ _ _ _ _ h
theorem cj_Border_milesThatSpare_B_5 {n : Nat} : ∀ (mm : Nat) (σ : gb_S) (v0 : Nat) (v1 : Int32) (v2 : Int32) (v3 : Int32) (v4 : Int32), gb_JJ σ → gb_pj (cs_Border_milesThatSpare_B_5 n mm σ v0 v1 v2 v3 v4) := by
  intro mm
  induction mm with
  | zero =>
    intros
    exact pj_none
  | succ mm ih =>
    intro σ v0 v1 v2 v3 v4  h
    unfold cs_Border_milesThatSpare_B_5
    refine pj_kk (fun ck_v0 => ?_)
    refine pj_cd (cj_Border_geese_B h) (fun s_3 r_4 hs_3 => ?_)
    refine pj_if ?_ ?_
    · exact pj_some hs_3
    · refine pj_cd (cj_Border_toes_B hs_3) (fun s_8 r_9 hs_8 => ?_)
      refine pj_cd (cj_Border_limps_B hs_8) (fun s_12 r_13 hs_12 => ?_)
      refine pj_if ?_ ?_
      · refine pj_ltE ?_
        refine pj_if ?_ ?_
        · refine pj_cd (cj_Border_miles_B hs_12) (fun s_20 r_21 hs_20 => ?_)
          refine pj_ltE ?_
          refine pj_ltE ?_
          exact ih _ _ _ _ _ _ hs_20
        · refine pj_ltE ?_
          exact ih _ _ _ _ _ _ hs_12
      · refine pj_ltE ?_
        refine pj_if ?_ ?_
        · refine pj_cd (cj_Border_miles_B hs_12) (fun s_29 r_30 hs_29 => ?_)
          refine pj_ltE ?_
          refine pj_ltE ?_
          exact ih _ _ _ _ _ _ hs_29
        · refine pj_ltE ?_
          exact ih _ _ _ _ _ _ hs_12
theorem cj_Border_milesThatSpare_B {n : Nat} {σ : gb_S} {k0 : Nat} {p1 : Int32} {p2 : Int32} (h : gb_JJ σ) : gb_pj (cs_Border_milesThatSpare_B n σ k0 p1 p2) := by
  unfold cs_Border_milesThatSpare_B
  refine pj_kk (fun ck_k0 => ?_)
  exact cj_Border_milesThatSpare_B_5 _ _ _ _ _ _ _ h
theorem cj_Told_addBytes_14 {n : Nat} : ∀ (mm : Nat) (σ : gb_S) (v1 : Int32) (v2 : Int32), gb_JJ σ → gb_pj (cs_Told_addBytes_14 n mm σ v1 v2) := by
  intro mm
  induction mm with
  | zero =>
    intros
    exact pj_none
  | succ mm ih =>
    intro σ v1 v2  h
    unfold cs_Told_addBytes_14
    refine pj_if ?_ ?_
    · exact pj_some h
    · refine pj_ck ?_
      refine pj_ltS (js_su h) (fun s_4 hs_4 => ?_)
      refine pj_ltS (js_su hs_4) (fun s_5 hs_5 => ?_)
      refine pj_ltE ?_
      exact ih _ _ _ hs_5
theorem cj_Told_addBytes {n : Nat} {σ : gb_S} {p1 : Int32} (h : gb_JJ σ) : gb_pj (cs_Told_addBytes n σ p1) := by
  unfold cs_Told_addBytes
  refine pj_if ?_ ?_
  · exact cj_Told_addBytes_14 _ _ _ _ h
  · exact pj_some h
theorem cj_Face_feed {n : Nat} {σ : gb_S} {p1 : Int32} {p2 : Int32} {p3 : Int32} {p4 : Int32} {p5 : Int32} (h : gb_JJ σ) : gb_pj (cs_Face_feed n σ p1 p2 p3 p4 p5) := by
  unfold cs_Face_feed
  refine pj_if ?_ ?_
  · refine pj_cd (cj_Told_addBytes h) (fun s_2 _ hs_2 => ?_)
    refine pj_cd (cj_Told_addBytes hs_2) (fun s_6 _ hs_6 => ?_)
    refine pj_cd (cj_Told_addBytes hs_6) (fun s_10 _ hs_10 => ?_)
    refine pj_cd (cj_Told_addBytes hs_10) (fun s_14 _ hs_14 => ?_)
    refine pj_cd (cj_Told_addBytes hs_14) (fun s_18 _ hs_18 => ?_)
    exact pj_some hs_18
  · exact pj_some h
theorem cj_Face_end {n : Nat} {σ : gb_S} {p1 : Int32} (h : gb_JJ σ) : gb_pj (cs_Face_end n σ p1) := by
  unfold cs_Face_end
  refine pj_if ?_ ?_
  · exact pj_some h
  · refine pj_if ?_ ?_
    · refine pj_ltS (js_su h) (fun s_3 hs_3 => ?_)
      exact pj_some hs_3
    · exact pj_some h
theorem cj_Reader_skipBlanks_0 {n : Nat} : ∀ (mm : Nat) (σ : gb_S), gb_JJ σ → gb_pj (cs_Reader_skipBlanks_0 n mm σ) := by
  intro mm
  induction mm with
  | zero =>
    intros
    exact pj_none
  | succ mm ih =>
    intro σ  h
    unfold cs_Reader_skipBlanks_0
    refine pj_if ?_ ?_
    · exact pj_some h
    · refine pj_kk (fun _ => ?_)
      refine pj_ck ?_
      refine pj_ltV (fun x_10 => ?_)
      refine pj_if ?_ ?_
      · refine pj_ltS (js_su h) (fun s_12 hs_12 => ?_)
        exact ih _ hs_12
      · refine pj_kk (fun _ => ?_)
        refine pj_ck ?_
        refine pj_ltV (fun x_15 => ?_)
        refine pj_if ?_ ?_
        · refine pj_ltS (js_su h) (fun s_17 hs_17 => ?_)
          exact ih _ hs_17
        · exact pj_some h
theorem cj_Reader_skipBlanks {n : Nat} {σ : gb_S} (h : gb_JJ σ) : gb_pj (cs_Reader_skipBlanks n σ) := by
  unfold cs_Reader_skipBlanks
  refine pj_if ?_ ?_
  · exact pj_some h
  · refine pj_kk (fun _ => ?_)
    refine pj_ck ?_
    refine pj_ltV (fun x_4 => ?_)
    refine pj_if ?_ ?_
    · refine pj_ltS (js_su h) (fun s_6 hs_6 => ?_)
      exact cj_Reader_skipBlanks_0 _ _ hs_6
    · refine pj_kk (fun _ => ?_)
      refine pj_ck ?_
      refine pj_ltV (fun x_20 => ?_)
      refine pj_if ?_ ?_
      · refine pj_ltS (js_su h) (fun s_22 hs_22 => ?_)
        exact cj_Reader_skipBlanks_0 _ _ hs_22
      · exact pj_some h
theorem cj_Reader_note {n : Nat} {σ : gb_S} {p1 : Int32} {p2 : Int32} (h : gb_JJ σ) : gb_pj (cs_Reader_note n σ p1 p2) := by
  unfold cs_Reader_note
  refine pj_if ?_ ?_
  · refine pj_ltS (js_su h) (fun s_2 hs_2 => ?_)
    refine pj_ltS (js_su hs_2) (fun s_3 hs_3 => ?_)
    exact pj_some hs_3
  · exact pj_some h
theorem cj_Lines_clashes_N {n : Nat} {σ : gb_S} {k0 : Nat} (h : gb_JJ σ) : gb_pj (cs_Lines_clashes_N n σ k0) := by
  unfold cs_Lines_clashes_N
  refine pj_kk (fun ck_k0 => ?_)
  exact pj_some h
theorem cj_Lines_clashes_L {n : Nat} {σ : gb_S} {k0 : Nat} (h : gb_JJ σ) : gb_pj (cs_Lines_clashes_L n σ k0) := by
  unfold cs_Lines_clashes_L
  refine pj_kk (fun ck_k0 => ?_)
  exact pj_some h
theorem cj_Lines_size_D {n : Nat} {σ : gb_S} {k0 : Nat} (h : gb_JJ σ) : gb_pj (cs_Lines_size_D n σ k0) := by
  unfold cs_Lines_size_D
  refine pj_kk (fun ck_k0 => ?_)
  refine pj_ltV (fun x_2 => ?_)
  exact pj_some h
theorem cj_Lines_cell_D {n : Nat} {σ : gb_S} {k0 : Nat} {p1 : Int32} {p2 : Int32} (h : gb_JJ σ) : gb_pj (cs_Lines_cell_D n σ k0 p1 p2) := by
  unfold cs_Lines_cell_D
  refine pj_kk (fun ck_k0 => ?_)
  refine pj_ck ?_
  refine pj_ltV (fun x_3 => ?_)
  exact pj_some h
theorem cj_Dawn_pathSeen_D {n : Nat} {σ : gb_S} {k0 : Nat} {p1 : Int32} (h : gb_JJ σ) : gb_pj (cs_Dawn_pathSeen_D n σ k0 p1) := by
  unfold cs_Dawn_pathSeen_D
  refine pj_kk (fun ck_k0 => ?_)
  refine pj_cd (cj_Lines_cell_D h) (fun s_2 r_3 hs_2 => ?_)
  exact pj_some hs_2
theorem cj_Dawn_clashes_D_4 {n : Nat} : ∀ (mm : Nat) (σ : gb_S) (v0 : Nat) (v1 : Int32) (v2 : Int32), gb_JJ σ → gb_pj (cs_Dawn_clashes_D_4 n mm σ v0 v1 v2) := by
  intro mm
  induction mm with
  | zero =>
    intros
    exact pj_none
  | succ mm ih =>
    intro σ v0 v1 v2  h
    unfold cs_Dawn_clashes_D_4
    refine pj_kk (fun ck_v0 => ?_)
    refine pj_cd (cj_Lines_size_D h) (fun s_3 r_4 hs_3 => ?_)
    refine pj_if ?_ ?_
    · exact pj_some hs_3
    · refine pj_cd (cj_Dawn_pathSeen_D hs_3) (fun s_8 r_9 hs_8 => ?_)
      refine pj_ltE ?_
      refine pj_if ?_ ?_
      · refine pj_ltE ?_
        refine pj_ltE ?_
        exact ih _ _ _ _ hs_8
      · exact pj_some hs_8
theorem cj_Dawn_clashes_D {n : Nat} {σ : gb_S} {k0 : Nat} (h : gb_JJ σ) : gb_pj (cs_Dawn_clashes_D n σ k0) := by
  unfold cs_Dawn_clashes_D
  refine pj_kk (fun ck_k0 => ?_)
  exact cj_Dawn_clashes_D_4 _ _ _ _ _ h
theorem cj_Face_fault {n : Nat} {σ : gb_S} {p1 : Int32} (h : gb_JJ σ) : gb_pj (cs_Face_fault n σ p1) := by
  unfold cs_Face_fault
  refine pj_if ?_ ?_
  · exact pj_some h
  · refine pj_if ?_ ?_
    · exact pj_some h
    · exact pj_some h
theorem cj_Face_count {n : Nat} {σ : gb_S} {p1 : Int32} (h : gb_JJ σ) : gb_pj (cs_Face_count n σ p1) := by
  unfold cs_Face_count
  refine pj_if ?_ ?_
  · exact pj_some h
  · refine pj_if ?_ ?_
    · exact pj_some h
    · refine pj_ck ?_
      refine pj_ltV (fun x_4 => ?_)
      exact pj_some h
theorem cj_Told_sheetOf_T {n : Nat} {σ : gb_S} {k0 : Nat} {p1 : Int32} {p2 : Int32} (h : gb_JJ σ) : gb_pj (cs_Told_sheetOf_T n σ k0 p1 p2) := by
  unfold cs_Told_sheetOf_T
  refine pj_kk (fun ck_k0 => ?_)
  refine pj_if ?_ ?_
  · refine pj_ck ?_
    refine pj_ltV (fun a_4 => ?_)
    refine pj_kk (fun ck_a_4 => ?_)
    exact pj_some h
  · refine pj_if ?_ ?_
    · refine pj_ck ?_
      refine pj_ltV (fun a_8 => ?_)
      refine pj_kk (fun ck_a_8 => ?_)
      exact pj_some h
    · refine pj_if ?_ ?_
      · refine pj_ck ?_
        refine pj_ltV (fun a_12 => ?_)
        refine pj_kk (fun ck_a_12 => ?_)
        exact pj_some h
      · refine pj_ck ?_
        refine pj_ltV (fun a_15 => ?_)
        refine pj_kk (fun ck_a_15 => ?_)
        exact pj_some h
theorem cj_Sheet_copyFrom_B_B {n : Nat} {σ : gb_S} {k0 : Nat} {p1 : Nat} (h : gb_JJ σ) : gb_pj (cs_Sheet_copyFrom_B_B n σ k0 p1) := by
  unfold cs_Sheet_copyFrom_B_B
  refine pj_kk (fun ck_k0 => ?_)
  refine pj_kk (fun ck_p1 => ?_)
  refine pj_ltV (fun x_3 => ?_)
  refine pj_ac ?_
  refine pj_ltS (js_su h) (fun s_5 hs_5 => ?_)
  exact pj_some hs_5
theorem cj_Sheet_copyFrom_N_N {n : Nat} {σ : gb_S} {k0 : Nat} {p1 : Nat} (h : gb_JJ σ) : gb_pj (cs_Sheet_copyFrom_N_N n σ k0 p1) := by
  unfold cs_Sheet_copyFrom_N_N
  refine pj_kk (fun ck_k0 => ?_)
  refine pj_kk (fun ck_p1 => ?_)
  refine pj_ltV (fun x_3 => ?_)
  refine pj_ac ?_
  refine pj_ltS (js_su h) (fun s_5 hs_5 => ?_)
  exact pj_some hs_5
theorem cj_Sheet_copyFrom_L_L {n : Nat} {σ : gb_S} {k0 : Nat} {p1 : Nat} (h : gb_JJ σ) : gb_pj (cs_Sheet_copyFrom_L_L n σ k0 p1) := by
  unfold cs_Sheet_copyFrom_L_L
  refine pj_kk (fun ck_k0 => ?_)
  refine pj_kk (fun ck_p1 => ?_)
  refine pj_ltV (fun x_3 => ?_)
  refine pj_ac ?_
  refine pj_ltS (js_su h) (fun s_5 hs_5 => ?_)
  exact pj_some hs_5
theorem cj_Sheet_copyFrom_D_D {n : Nat} {σ : gb_S} {k0 : Nat} {p1 : Nat} (h : gb_JJ σ) : gb_pj (cs_Sheet_copyFrom_D_D n σ k0 p1) := by
  unfold cs_Sheet_copyFrom_D_D
  refine pj_kk (fun ck_k0 => ?_)
  refine pj_kk (fun ck_p1 => ?_)
  refine pj_ltV (fun x_3 => ?_)
  refine pj_ac ?_
  refine pj_ltS (js_su h) (fun s_5 hs_5 => ?_)
  exact pj_some hs_5
theorem cj_Told_copyFrom_T_T_9 {n : Nat} {k2 : gb_S → Nat → Nat → Int32 → gb_CR Unit} (h_k2 : ∀ (s : gb_S) (x1 : Nat) (x2 : Nat) (x3 : Int32), gb_JJ s → gb_pj (k2 s x1 x2 x3)) : ∀ (mm : Nat) (σ : gb_S) (v0 : Nat) (v1 : Nat) (v2 : Int32) (v3 : Int32), gb_JJ σ → gb_pj (cs_Told_copyFrom_T_T_9 n k2 mm σ v0 v1 v2 v3) := by
  intro mm
  induction mm with
  | zero =>
    intros
    exact pj_none
  | succ mm ih =>
    intro σ v0 v1 v2 v3  h
    unfold cs_Told_copyFrom_T_T_9
    refine pj_kk (fun ck_v0 => ?_)
    refine pj_kk (fun ck_v1 => ?_)
    refine pj_if ?_ ?_
    · refine pj_ck ?_
      refine pj_ltV (fun x_16 => ?_)
      refine pj_ck ?_
      refine pj_ltS (js_su h) (fun s_18 hs_18 => ?_)
      refine pj_ltE ?_
      exact h_k2 _ _ _ _ hs_18
    · refine pj_cd (cj_Told_sheetOf_T h) (fun s_20 r_21 hs_20 => ?_)
      refine pj_if ?_ ?_
      · refine pj_cd (cj_Told_sheetOf_T hs_20) (fun s_25 r_26 hs_25 => ?_)
        refine pj_if ?_ ?_
        · exact pj_none
        · exact pj_none
      · refine pj_cd (cj_Told_sheetOf_T hs_20) (fun s_30 r_31 hs_30 => ?_)
        refine pj_if ?_ ?_
        · exact pj_none
        · refine pj_if ?_ ?_
          · refine pj_kk (fun ck_r_31 => ?_)
            refine pj_cd (cj_Sheet_copyFrom_B_B hs_30) (fun s_37 _ hs_37 => ?_)
            refine pj_ltE ?_
            exact ih _ _ _ _ _ hs_37
          · refine pj_if ?_ ?_
            · refine pj_kk (fun ck_r_31 => ?_)
              refine pj_cd (cj_Sheet_copyFrom_N_N hs_30) (fun s_44 _ hs_44 => ?_)
              refine pj_ltE ?_
              exact ih _ _ _ _ _ hs_44
            · refine pj_if ?_ ?_
              · refine pj_kk (fun ck_r_31 => ?_)
                refine pj_cd (cj_Sheet_copyFrom_L_L hs_30) (fun s_51 _ hs_51 => ?_)
                refine pj_ltE ?_
                exact ih _ _ _ _ _ hs_51
              · refine pj_if ?_ ?_
                · refine pj_kk (fun ck_r_31 => ?_)
                  refine pj_cd (cj_Sheet_copyFrom_D_D hs_30) (fun s_58 _ hs_58 => ?_)
                  refine pj_ltE ?_
                  exact ih _ _ _ _ _ hs_58
                · exact pj_none
theorem cj_Told_copyFrom_T_T_2 {n : Nat} : ∀ (mm : Nat) (σ : gb_S) (v0 : Nat) (v1 : Nat) (v2 : Int32), gb_JJ σ → gb_pj (cs_Told_copyFrom_T_T_2 n mm σ v0 v1 v2) := by
  intro mm
  induction mm with
  | zero =>
    intros
    exact pj_none
  | succ mm ih =>
    intro σ v0 v1 v2  h
    unfold cs_Told_copyFrom_T_T_2
    refine pj_kk (fun ck_v0 => ?_)
    refine pj_kk (fun ck_v1 => ?_)
    refine pj_if ?_ ?_
    · refine pj_ac ?_
      refine pj_kk (fun _ => ?_)
      refine pj_ltS (js_su h) (fun s_8 hs_8 => ?_)
      refine pj_ltS (js_su hs_8) (fun s_9 hs_9 => ?_)
      refine pj_ltS (js_su hs_9) (fun s_10 hs_10 => ?_)
      refine pj_ltS (js_su hs_10) (fun s_11 hs_11 => ?_)
      exact pj_some hs_11
    · refine cj_Told_copyFrom_T_T_9 ?_ _ _ _ _ _ _ h
      · intro σ v0 v1 v2 hσ
        exact ih _ _ _ _ hσ
theorem cj_Told_copyFrom_T_T {n : Nat} {σ : gb_S} {k0 : Nat} {p1 : Nat} (h : gb_JJ σ) : gb_pj (cs_Told_copyFrom_T_T n σ k0 p1) := by
  unfold cs_Told_copyFrom_T_T
  refine pj_kk (fun ck_k0 => ?_)
  refine pj_kk (fun ck_p1 => ?_)
  exact cj_Told_copyFrom_T_T_2 _ _ _ _ _ h
theorem cj_Face_image {n : Nat} {σ : gb_S} {p1 : Int32} (h : gb_JJ σ) : gb_pj (cs_Face_image n σ p1) := by
  unfold cs_Face_image
  refine pj_if ?_ ?_
  · exact pj_some h
  · refine pj_if ?_ ?_
    · refine pj_ck ?_
      refine pj_ltV (fun a_4 => ?_)
      refine pj_kk (fun ck_a_4 => ?_)
      refine pj_cd (cj_Told_copyFrom_T_T h) (fun s_6 _ hs_6 => ?_)
      refine pj_ck ?_
      refine pj_ltS (js_su hs_6) (fun s_11 hs_11 => ?_)
      exact pj_some hs_11
    · exact pj_some h
theorem cj_Face_again {n : Nat} {σ : gb_S} {p1 : Int32} (h : gb_JJ σ) : gb_pj (cs_Face_again n σ p1) := by
  unfold cs_Face_again
  refine pj_if ?_ ?_
  · exact pj_some h
  · refine pj_if ?_ ?_
    · exact pj_some h
    · refine pj_ck ?_
      refine pj_ltV (fun x_4 => ?_)
      refine pj_if ?_ ?_
      · exact pj_some h
      · refine pj_ck ?_
        refine pj_ltV (fun a_7 => ?_)
        refine pj_kk (fun ck_a_7 => ?_)
        refine pj_cd (cj_Told_copyFrom_T_T h) (fun s_9 _ hs_9 => ?_)
        exact pj_some hs_9
theorem cj_Face_borderAt {n : Nat} {σ : gb_S} {p1 : Int32} (h : gb_JJ σ) : gb_pj (cs_Face_borderAt n σ p1) := by
  unfold cs_Face_borderAt
  refine pj_if ?_ ?_
  · exact pj_some h
  · refine pj_ltV (fun x_2 => ?_)
    refine pj_if ?_ ?_
    · exact pj_some h
    · refine pj_ck ?_
      refine pj_ltV (fun a_5 => ?_)
      refine pj_kk (fun ck_a_5 => ?_)
      exact pj_some h
theorem cj_Face_border {n : Nat} {σ : gb_S} {p1 : Int32} {p2 : Int32} (h : gb_JJ σ) : gb_pj (cs_Face_border n σ p1 p2) := by
  unfold cs_Face_border
  refine pj_cd (cj_Face_borderAt h) (fun s_1 r_2 hs_1 => ?_)
  refine pj_if ?_ ?_
  · exact pj_some hs_1
  · refine pj_kk (fun ck_r_2 => ?_)
    refine pj_if ?_ ?_
    · refine pj_cd (cj_Border_paths_B hs_1) (fun s_8 r_9 hs_8 => ?_)
      exact pj_some hs_8
    · refine pj_if ?_ ?_
      · refine pj_cd (cj_Border_geese_B hs_1) (fun s_13 r_14 hs_13 => ?_)
        exact pj_some hs_13
      · refine pj_if ?_ ?_
        · refine pj_cd (cj_Border_cap_B hs_1) (fun s_18 r_19 hs_18 => ?_)
          exact pj_some hs_18
        · refine pj_cd (cj_Border_numberTold_B hs_1) (fun s_22 r_23 hs_22 => ?_)
          exact pj_some hs_22
theorem cj_Face_marks {n : Nat} {σ : gb_S} {p1 : Int32} {p2 : Int32} {p3 : Int32} {p4 : Int32} (h : gb_JJ σ) : gb_pj (cs_Face_marks n σ p1 p2 p3 p4) := by
  unfold cs_Face_marks
  refine pj_cd (cj_Face_borderAt h) (fun s_1 r_2 hs_1 => ?_)
  refine pj_if ?_ ?_
  · exact pj_some hs_1
  · refine pj_kk (fun ck_r_2 => ?_)
    refine pj_cd (cj_Border_hasGoose_B hs_1) (fun s_7 r_8 hs_7 => ?_)
    refine pj_if ?_ ?_
    · exact pj_some hs_7
    · refine pj_cd (cj_Border_hasPath_B hs_7) (fun s_12 r_13 hs_12 => ?_)
      refine pj_if ?_ ?_
      · exact pj_some hs_12
      · refine pj_cd (cj_Border_miles_B hs_12) (fun s_17 r_18 hs_17 => ?_)
        refine pj_cd (cj_Border_boots_B hs_17) (fun s_21 r_22 hs_21 => ?_)
        refine pj_cd (cj_Border_marksOver_B hs_21) (fun s_25 r_26 hs_25 => ?_)
        exact pj_some hs_25
theorem cj_Face_nightAt {n : Nat} {σ : gb_S} {p1 : Int32} (h : gb_JJ σ) : gb_pj (cs_Face_nightAt n σ p1) := by
  unfold cs_Face_nightAt
  refine pj_if ?_ ?_
  · exact pj_some h
  · refine pj_ltV (fun x_2 => ?_)
    refine pj_if ?_ ?_
    · exact pj_some h
    · refine pj_ck ?_
      refine pj_ltV (fun a_5 => ?_)
      refine pj_kk (fun ck_a_5 => ?_)
      exact pj_some h
theorem cj_Lines_size_N {n : Nat} {σ : gb_S} {k0 : Nat} (h : gb_JJ σ) : gb_pj (cs_Lines_size_N n σ k0) := by
  unfold cs_Lines_size_N
  refine pj_kk (fun ck_k0 => ?_)
  refine pj_ltV (fun x_2 => ?_)
  exact pj_some h
theorem cj_Lines_cell_N {n : Nat} {σ : gb_S} {k0 : Nat} {p1 : Int32} {p2 : Int32} (h : gb_JJ σ) : gb_pj (cs_Lines_cell_N n σ k0 p1 p2) := by
  unfold cs_Lines_cell_N
  refine pj_kk (fun ck_k0 => ?_)
  refine pj_ck ?_
  refine pj_ltV (fun x_3 => ?_)
  exact pj_some h
theorem cj_Face_lineOf_N {n : Nat} {σ : gb_S} {p1 : Nat} {p2 : Int32} {p3 : Int32} (h : gb_JJ σ) : gb_pj (cs_Face_lineOf_N n σ p1 p2 p3) := by
  unfold cs_Face_lineOf_N
  refine pj_kk (fun ck_p1 => ?_)
  refine pj_if ?_ ?_
  · refine pj_if ?_ ?_
    · refine pj_cd (cj_Lines_size_N h) (fun s_16 r_17 hs_16 => ?_)
      exact pj_some hs_16
    · exact pj_some h
  · refine pj_if ?_ ?_
    · exact pj_some h
    · refine pj_cd (cj_Lines_size_N h) (fun s_4 r_5 hs_4 => ?_)
      refine pj_if ?_ ?_
      · exact pj_some hs_4
      · refine pj_if ?_ ?_
        · exact pj_some hs_4
        · refine pj_if ?_ ?_
          · refine pj_cd (cj_Lines_cell_N hs_4) (fun s_11 r_12 hs_11 => ?_)
            exact pj_some hs_11
          · exact pj_some hs_4
theorem cj_Face_deed {n : Nat} {σ : gb_S} {p1 : Int32} {p2 : Int32} {p3 : Int32} (h : gb_JJ σ) : gb_pj (cs_Face_deed n σ p1 p2 p3) := by
  unfold cs_Face_deed
  refine pj_cd (cj_Face_nightAt h) (fun s_1 r_2 hs_1 => ?_)
  refine pj_if ?_ ?_
  · exact pj_some hs_1
  · refine pj_kk (fun ck_r_2 => ?_)
    refine pj_cd (cj_Face_lineOf_N hs_1) (fun s_7 r_8 hs_7 => ?_)
    exact pj_some hs_7
theorem cj_Face_lawAt {n : Nat} {σ : gb_S} {p1 : Int32} (h : gb_JJ σ) : gb_pj (cs_Face_lawAt n σ p1) := by
  unfold cs_Face_lawAt
  refine pj_if ?_ ?_
  · exact pj_some h
  · refine pj_ltV (fun x_2 => ?_)
    refine pj_if ?_ ?_
    · exact pj_some h
    · refine pj_ck ?_
      refine pj_ltV (fun a_5 => ?_)
      refine pj_kk (fun ck_a_5 => ?_)
      exact pj_some h
theorem cj_Lines_size_L {n : Nat} {σ : gb_S} {k0 : Nat} (h : gb_JJ σ) : gb_pj (cs_Lines_size_L n σ k0) := by
  unfold cs_Lines_size_L
  refine pj_kk (fun ck_k0 => ?_)
  refine pj_ltV (fun x_2 => ?_)
  exact pj_some h
theorem cj_Lines_cell_L {n : Nat} {σ : gb_S} {k0 : Nat} {p1 : Int32} {p2 : Int32} (h : gb_JJ σ) : gb_pj (cs_Lines_cell_L n σ k0 p1 p2) := by
  unfold cs_Lines_cell_L
  refine pj_kk (fun ck_k0 => ?_)
  refine pj_ck ?_
  refine pj_ltV (fun x_3 => ?_)
  exact pj_some h
theorem cj_Face_lineOf_L {n : Nat} {σ : gb_S} {p1 : Nat} {p2 : Int32} {p3 : Int32} (h : gb_JJ σ) : gb_pj (cs_Face_lineOf_L n σ p1 p2 p3) := by
  unfold cs_Face_lineOf_L
  refine pj_kk (fun ck_p1 => ?_)
  refine pj_if ?_ ?_
  · refine pj_if ?_ ?_
    · refine pj_cd (cj_Lines_size_L h) (fun s_16 r_17 hs_16 => ?_)
      exact pj_some hs_16
    · exact pj_some h
  · refine pj_if ?_ ?_
    · exact pj_some h
    · refine pj_cd (cj_Lines_size_L h) (fun s_4 r_5 hs_4 => ?_)
      refine pj_if ?_ ?_
      · exact pj_some hs_4
      · refine pj_if ?_ ?_
        · exact pj_some hs_4
        · refine pj_if ?_ ?_
          · refine pj_cd (cj_Lines_cell_L hs_4) (fun s_11 r_12 hs_11 => ?_)
            exact pj_some hs_11
          · exact pj_some hs_4
theorem cj_Face_term {n : Nat} {σ : gb_S} {p1 : Int32} {p2 : Int32} {p3 : Int32} (h : gb_JJ σ) : gb_pj (cs_Face_term n σ p1 p2 p3) := by
  unfold cs_Face_term
  refine pj_cd (cj_Face_lawAt h) (fun s_1 r_2 hs_1 => ?_)
  refine pj_if ?_ ?_
  · exact pj_some hs_1
  · refine pj_kk (fun ck_r_2 => ?_)
    refine pj_cd (cj_Face_lineOf_L hs_1) (fun s_7 r_8 hs_7 => ?_)
    exact pj_some hs_7
theorem cj_Face_dawnAt {n : Nat} {σ : gb_S} {p1 : Int32} (h : gb_JJ σ) : gb_pj (cs_Face_dawnAt n σ p1) := by
  unfold cs_Face_dawnAt
  refine pj_if ?_ ?_
  · exact pj_some h
  · refine pj_ltV (fun x_2 => ?_)
    refine pj_if ?_ ?_
    · exact pj_some h
    · refine pj_ck ?_
      refine pj_ltV (fun a_5 => ?_)
      refine pj_kk (fun ck_a_5 => ?_)
      exact pj_some h
theorem cj_Face_lineOf_D {n : Nat} {σ : gb_S} {p1 : Nat} {p2 : Int32} {p3 : Int32} (h : gb_JJ σ) : gb_pj (cs_Face_lineOf_D n σ p1 p2 p3) := by
  unfold cs_Face_lineOf_D
  refine pj_kk (fun ck_p1 => ?_)
  refine pj_if ?_ ?_
  · refine pj_if ?_ ?_
    · refine pj_cd (cj_Lines_size_D h) (fun s_16 r_17 hs_16 => ?_)
      exact pj_some hs_16
    · exact pj_some h
  · refine pj_if ?_ ?_
    · exact pj_some h
    · refine pj_cd (cj_Lines_size_D h) (fun s_4 r_5 hs_4 => ?_)
      refine pj_if ?_ ?_
      · exact pj_some hs_4
      · refine pj_if ?_ ?_
        · exact pj_some hs_4
        · refine pj_if ?_ ?_
          · refine pj_cd (cj_Lines_cell_D hs_4) (fun s_11 r_12 hs_11 => ?_)
            exact pj_some hs_11
          · exact pj_some hs_4
theorem cj_Face_seen {n : Nat} {σ : gb_S} {p1 : Int32} {p2 : Int32} {p3 : Int32} (h : gb_JJ σ) : gb_pj (cs_Face_seen n σ p1 p2 p3) := by
  unfold cs_Face_seen
  refine pj_cd (cj_Face_dawnAt h) (fun s_1 r_2 hs_1 => ?_)
  refine pj_if ?_ ?_
  · exact pj_some hs_1
  · refine pj_kk (fun ck_r_2 => ?_)
    refine pj_if ?_ ?_
    · exact pj_some hs_1
    · refine pj_if ?_ ?_
      · refine pj_if ?_ ?_
        · refine pj_cd (cj_Face_lineOf_D hs_1) (fun s_14 r_15 hs_14 => ?_)
          exact pj_some hs_14
        · refine pj_cd (cj_Face_lineOf_D hs_1) (fun s_10 r_11 hs_10 => ?_)
          exact pj_some hs_10
      · exact pj_some hs_1
theorem cj_Lines_kind_L {n : Nat} {σ : gb_S} {k0 : Nat} {p1 : Int32} (h : gb_JJ σ) : gb_pj (cs_Lines_kind_L n σ k0 p1) := by
  unfold cs_Lines_kind_L
  refine pj_kk (fun ck_k0 => ?_)
  refine pj_cd (cj_Lines_cell_L h) (fun s_2 r_3 hs_2 => ?_)
  exact pj_some hs_2
theorem cj_Law_payFor_L_4 {n : Nat} : ∀ (mm : Nat) (σ : gb_S) (v0 : Nat) (v1 : Int32) (v2 : Int32) (v3 : Int32), gb_JJ σ → gb_pj (cs_Law_payFor_L_4 n mm σ v0 v1 v2 v3) := by
  intro mm
  induction mm with
  | zero =>
    intros
    exact pj_none
  | succ mm ih =>
    intro σ v0 v1 v2 v3  h
    unfold cs_Law_payFor_L_4
    refine pj_kk (fun ck_v0 => ?_)
    refine pj_cd (cj_Lines_size_L h) (fun s_3 r_4 hs_3 => ?_)
    refine pj_if ?_ ?_
    · exact pj_some hs_3
    · refine pj_cd (cj_Lines_cell_L hs_3) (fun s_8 r_9 hs_8 => ?_)
      refine pj_cd (cj_Lines_cell_L hs_8) (fun s_12 r_13 hs_12 => ?_)
      refine pj_cd (cj_Lines_kind_L hs_12) (fun s_16 r_17 hs_16 => ?_)
      refine pj_if ?_ ?_
      · refine pj_ltE ?_
        refine pj_ltE ?_
        exact ih _ _ _ _ _ hs_16
      · refine pj_if ?_ ?_
        · refine pj_if ?_ ?_
          · refine pj_ltE ?_
            refine pj_ltE ?_
            exact ih _ _ _ _ _ hs_16
          · refine pj_ltE ?_
            refine pj_ltE ?_
            exact ih _ _ _ _ _ hs_16
        · refine pj_if ?_ ?_
          · refine pj_if ?_ ?_
            · refine pj_ltE ?_
              refine pj_ltE ?_
              exact ih _ _ _ _ _ hs_16
            · refine pj_ltE ?_
              refine pj_ltE ?_
              exact ih _ _ _ _ _ hs_16
          · refine pj_if ?_ ?_
            · refine pj_ltE ?_
              refine pj_if ?_ ?_
              · refine pj_ltE ?_
                refine pj_ltE ?_
                exact ih _ _ _ _ _ hs_16
              · refine pj_ltE ?_
                refine pj_ltE ?_
                exact ih _ _ _ _ _ hs_16
            · refine pj_if ?_ ?_
              · refine pj_ltV (fun x_43 => ?_)
                refine pj_ltE ?_
                exact ih _ _ _ _ _ hs_16
              · refine pj_ltE ?_
                exact ih _ _ _ _ _ hs_16
theorem cj_Law_payFor_L {n : Nat} {σ : gb_S} {k0 : Nat} {p1 : Int32} (h : gb_JJ σ) : gb_pj (cs_Law_payFor_L n σ k0 p1) := by
  unfold cs_Law_payFor_L
  refine pj_kk (fun ck_k0 => ?_)
  exact cj_Law_payFor_L_4 _ _ _ _ _ _ h
theorem cj_Face_pays {n : Nat} {σ : gb_S} {p1 : Int32} {p2 : Int32} (h : gb_JJ σ) : gb_pj (cs_Face_pays n σ p1 p2) := by
  unfold cs_Face_pays
  refine pj_cd (cj_Face_lawAt h) (fun s_1 r_2 hs_1 => ?_)
  refine pj_if ?_ ?_
  · exact pj_some hs_1
  · refine pj_kk (fun ck_r_2 => ?_)
    refine pj_if ?_ ?_
    · exact pj_some hs_1
    · refine pj_if ?_ ?_
      · refine pj_cd (cj_Law_payFor_L hs_1) (fun s_9 r_10 hs_9 => ?_)
        exact pj_some hs_9
      · exact pj_some hs_1
theorem cj_Face_playedOut_n_n {n : Nat} {σ : gb_S} (h : gb_JJ σ) : gb_pj (cs_Face_playedOut_n_n n σ) := by
  unfold cs_Face_playedOut_n_n
  exact pj_some h
theorem cj_Face_playedOut_n_N {n : Nat} {σ : gb_S} {p2 : Nat} (h : gb_JJ σ) : gb_pj (cs_Face_playedOut_n_N n σ p2) := by
  unfold cs_Face_playedOut_n_N
  refine pj_kk (fun ck_p2 => ?_)
  exact pj_some h
theorem cj_Face_playedOut_B_n {n : Nat} {σ : gb_S} {p1 : Nat} (h : gb_JJ σ) : gb_pj (cs_Face_playedOut_B_n n σ p1) := by
  unfold cs_Face_playedOut_B_n
  refine pj_kk (fun ck_p1 => ?_)
  exact pj_some h
theorem cj_java_util_Arrays_fill_c116_5 {n : Nat} : ∀ (mm : Nat) (σ : gb_S) (v1 : Int32) (v2 : Int32) (v3 : Int32), gb_JJ σ → gb_pj (cs_java_util_Arrays_fill_c116_5 n mm σ v1 v2 v3) := by
  intro mm
  induction mm with
  | zero =>
    intros
    exact pj_none
  | succ mm ih =>
    intro σ v1 v2 v3  h
    unfold cs_java_util_Arrays_fill_c116_5
    refine pj_if ?_ ?_
    · exact pj_some h
    · refine pj_ck ?_
      refine pj_ltS (js_su h) (fun s_3 hs_3 => ?_)
      refine pj_ltE ?_
      exact ih _ _ _ _ hs_3
theorem cj_java_util_Arrays_fill_c116 {n : Nat} {σ : gb_S} {p2 : Int32} (h : gb_JJ σ) : gb_pj (cs_java_util_Arrays_fill_c116 n σ p2) := by
  unfold cs_java_util_Arrays_fill_c116
  exact cj_java_util_Arrays_fill_c116_5 _ _ _ _ _ h
theorem cj_java_util_Arrays_fill_c117_5 {n : Nat} : ∀ (mm : Nat) (σ : gb_S) (v1 : Int32) (v2 : Int32) (v3 : Int32), gb_JJ σ → gb_pj (cs_java_util_Arrays_fill_c117_5 n mm σ v1 v2 v3) := by
  intro mm
  induction mm with
  | zero =>
    intros
    exact pj_none
  | succ mm ih =>
    intro σ v1 v2 v3  h
    unfold cs_java_util_Arrays_fill_c117_5
    refine pj_if ?_ ?_
    · exact pj_some h
    · refine pj_ck ?_
      refine pj_ltS (js_su h) (fun s_3 hs_3 => ?_)
      refine pj_ltE ?_
      exact ih _ _ _ _ hs_3
theorem cj_java_util_Arrays_fill_c117 {n : Nat} {σ : gb_S} {p2 : Int32} (h : gb_JJ σ) : gb_pj (cs_java_util_Arrays_fill_c117 n σ p2) := by
  unfold cs_java_util_Arrays_fill_c117
  exact cj_java_util_Arrays_fill_c117_5 _ _ _ _ _ h
theorem cj_java_util_Arrays_fill_c118_5 {n : Nat} : ∀ (mm : Nat) (σ : gb_S) (v1 : Int32) (v2 : Int32) (v3 : Int32), gb_JJ σ → gb_pj (cs_java_util_Arrays_fill_c118_5 n mm σ v1 v2 v3) := by
  intro mm
  induction mm with
  | zero =>
    intros
    exact pj_none
  | succ mm ih =>
    intro σ v1 v2 v3  h
    unfold cs_java_util_Arrays_fill_c118_5
    refine pj_if ?_ ?_
    · exact pj_some h
    · refine pj_ck ?_
      refine pj_ltS (js_su h) (fun s_3 hs_3 => ?_)
      refine pj_ltE ?_
      exact ih _ _ _ _ hs_3
theorem cj_java_util_Arrays_fill_c118 {n : Nat} {σ : gb_S} {p2 : Int32} (h : gb_JJ σ) : gb_pj (cs_java_util_Arrays_fill_c118 n σ p2) := by
  unfold cs_java_util_Arrays_fill_c118
  exact cj_java_util_Arrays_fill_c118_5 _ _ _ _ _ h
theorem cj_java_util_Arrays_fill_c119_5 {n : Nat} : ∀ (mm : Nat) (σ : gb_S) (v1 : Int32) (v2 : Int32) (v3 : Int32), gb_JJ σ → gb_pj (cs_java_util_Arrays_fill_c119_5 n mm σ v1 v2 v3) := by
  intro mm
  induction mm with
  | zero =>
    intros
    exact pj_none
  | succ mm ih =>
    intro σ v1 v2 v3  h
    unfold cs_java_util_Arrays_fill_c119_5
    refine pj_if ?_ ?_
    · exact pj_some h
    · refine pj_ck ?_
      refine pj_ltS (js_su h) (fun s_3 hs_3 => ?_)
      refine pj_ltE ?_
      exact ih _ _ _ _ hs_3
theorem cj_java_util_Arrays_fill_c119 {n : Nat} {σ : gb_S} {p2 : Int32} (h : gb_JJ σ) : gb_pj (cs_java_util_Arrays_fill_c119 n σ p2) := by
  unfold cs_java_util_Arrays_fill_c119
  exact cj_java_util_Arrays_fill_c119_5 _ _ _ _ _ h
theorem cj_Play_begin_B_7 {n : Nat} : ∀ (mm : Nat) (σ : gb_S) (v1 : Nat) (v2 : Int32), gb_JJ σ → gb_pj (cs_Play_begin_B_7 n mm σ v1 v2) := by
  intro mm
  induction mm with
  | zero =>
    intros
    exact pj_none
  | succ mm ih =>
    intro σ v1 v2  h
    unfold cs_Play_begin_B_7
    refine pj_kk (fun ck_v1 => ?_)
    refine pj_if ?_ ?_
    · refine pj_cd (cj_java_util_Arrays_fill_c116 h) (fun s_5 _ hs_5 => ?_)
      refine pj_cd (cj_java_util_Arrays_fill_c117 hs_5) (fun s_9 _ hs_9 => ?_)
      refine pj_cd (cj_java_util_Arrays_fill_c118 hs_9) (fun s_13 _ hs_13 => ?_)
      refine pj_cd (cj_java_util_Arrays_fill_c119 hs_13) (fun s_17 _ hs_17 => ?_)
      refine pj_ltS (js_su hs_17) (fun s_21 hs_21 => ?_)
      refine pj_ltS (js_su hs_21) (fun s_22 hs_22 => ?_)
      refine pj_ltS (js_su hs_22) (fun s_23 hs_23 => ?_)
      exact pj_some hs_23
    · refine pj_ck ?_
      refine pj_ltS (js_su h) (fun s_25 hs_25 => ?_)
      refine pj_cd (cj_Border_hasGoose_B hs_25) (fun s_26 r_27 hs_26 => ?_)
      refine pj_if ?_ ?_
      · refine pj_ck ?_
        refine pj_ltS (js_su hs_26) (fun s_32 hs_32 => ?_)
        refine pj_ck ?_
        refine pj_ltS (js_su hs_32) (fun s_34 hs_34 => ?_)
        refine pj_ck ?_
        refine pj_ltS (js_su hs_34) (fun s_36 hs_36 => ?_)
        refine pj_ltE ?_
        exact ih _ _ _ hs_36
      · refine pj_cd (cj_Border_boots_B hs_26) (fun s_38 r_39 hs_38 => ?_)
        refine pj_ck ?_
        refine pj_ltS (js_su hs_38) (fun s_43 hs_43 => ?_)
        refine pj_ck ?_
        refine pj_ltS (js_su hs_43) (fun s_45 hs_45 => ?_)
        refine pj_ck ?_
        refine pj_ltS (js_su hs_45) (fun s_47 hs_47 => ?_)
        refine pj_ltE ?_
        exact ih _ _ _ hs_47
theorem cj_Play_begin_B {n : Nat} {σ : gb_S} {p1 : Nat} (h : gb_JJ σ) : gb_pj (cs_Play_begin_B n σ p1) := by
  unfold cs_Play_begin_B
  refine pj_kk (fun ck_p1 => ?_)
  refine pj_ltS (js_sq (by decide) h) (fun s_2 hs_2 => ?_)
  exact cj_Play_begin_B_7 _ _ _ _ hs_2
theorem cj_Lines_kind_N {n : Nat} {σ : gb_S} {k0 : Nat} {p1 : Int32} (h : gb_JJ σ) : gb_pj (cs_Lines_kind_N n σ k0 p1) := by
  unfold cs_Lines_kind_N
  refine pj_kk (fun ck_k0 => ?_)
  refine pj_cd (cj_Lines_cell_N h) (fun s_2 r_3 hs_2 => ?_)
  exact pj_some hs_2
theorem cj_Play_stands {n : Nat} {σ : gb_S} {p1 : Int32} {p2 : Int32} (h : gb_JJ σ) : gb_pj (cs_Play_stands n σ p1 p2) := by
  unfold cs_Play_stands
  refine pj_kk (fun _ => ?_)
  refine pj_cd (cj_Border_hasGoose_B h) (fun s_2 r_3 hs_2 => ?_)
  refine pj_if ?_ ?_
  · exact pj_some hs_2
  · refine pj_ck ?_
    refine pj_ltV (fun x_8 => ?_)
    refine pj_if ?_ ?_
    · exact pj_some hs_2
    · exact pj_some hs_2
theorem cj_Play_latestGoer_7 {n : Nat} : ∀ (mm : Nat) (σ : gb_S) (v1 : Int32) (v2 : Int32) (v3 : Int32) (v4 : Int32), gb_JJ σ → gb_pj (cs_Play_latestGoer_7 n mm σ v1 v2 v3 v4) := by
  intro mm
  induction mm with
  | zero =>
    intros
    exact pj_none
  | succ mm ih =>
    intro σ v1 v2 v3 v4  h
    unfold cs_Play_latestGoer_7
    refine pj_kk (fun _ => ?_)
    refine pj_cd (cj_Border_geese_B h) (fun s_2 r_3 hs_2 => ?_)
    refine pj_if ?_ ?_
    · exact pj_some hs_2
    · refine pj_ck ?_
      refine pj_ltV (fun x_8 => ?_)
      refine pj_if ?_ ?_
      · refine pj_ltE ?_
        exact ih _ _ _ _ _ hs_2
      · refine pj_ck ?_
        refine pj_ltV (fun x_12 => ?_)
        refine pj_if ?_ ?_
        · refine pj_ltE ?_
          exact ih _ _ _ _ _ hs_2
        · refine pj_ltE ?_
          exact ih _ _ _ _ _ hs_2
theorem cj_Play_latestGoer {n : Nat} {σ : gb_S} {p1 : Int32} (h : gb_JJ σ) : gb_pj (cs_Play_latestGoer n σ p1) := by
  unfold cs_Play_latestGoer
  exact cj_Play_latestGoer_7 _ _ _ _ _ _ h
theorem cj_Play_canBe_N {n : Nat} {σ : gb_S} {p1 : Nat} {p2 : Int32} (h : gb_JJ σ) : gb_pj (cs_Play_canBe_N n σ p1 p2) := by
  unfold cs_Play_canBe_N
  refine pj_kk (fun ck_p1 => ?_)
  refine pj_cd (cj_Lines_cell_N h) (fun s_2 r_3 hs_2 => ?_)
  refine pj_cd (cj_Lines_cell_N hs_2) (fun s_6 r_7 hs_6 => ?_)
  refine pj_cd (cj_Lines_kind_N hs_6) (fun s_10 r_11 hs_10 => ?_)
  refine pj_if ?_ ?_
  · refine pj_cd (cj_Play_stands hs_10) (fun s_15 r_16 hs_15 => ?_)
    refine pj_if ?_ ?_
    · exact pj_some hs_15
    · refine pj_kk (fun _ => ?_)
      refine pj_cd (cj_Border_hasPath_B hs_15) (fun s_21 r_22 hs_21 => ?_)
      refine pj_if ?_ ?_
      · exact pj_some hs_21
      · exact pj_some hs_21
  · refine pj_if ?_ ?_
    · refine pj_cd (cj_Play_stands hs_10) (fun s_27 r_28 hs_27 => ?_)
      refine pj_if ?_ ?_
      · exact pj_some hs_27
      · refine pj_kk (fun _ => ?_)
        refine pj_cd (cj_Border_hasPath_B hs_27) (fun s_33 r_34 hs_33 => ?_)
        refine pj_if ?_ ?_
        · exact pj_some hs_33
        · exact pj_some hs_33
    · refine pj_if ?_ ?_
      · refine pj_cd (cj_Play_stands hs_10) (fun s_39 r_40 hs_39 => ?_)
        refine pj_if ?_ ?_
        · exact pj_some hs_39
        · refine pj_kk (fun _ => ?_)
          refine pj_cd (cj_Border_hasPath_B hs_39) (fun s_45 r_46 hs_45 => ?_)
          refine pj_if ?_ ?_
          · exact pj_some hs_45
          · exact pj_some hs_45
      · refine pj_if ?_ ?_
        · refine pj_cd (cj_Play_stands hs_10) (fun s_51 r_52 hs_51 => ?_)
          refine pj_if ?_ ?_
          · exact pj_some hs_51
          · refine pj_cd (cj_Play_stands hs_51) (fun s_56 r_57 hs_56 => ?_)
            refine pj_if ?_ ?_
            · exact pj_some hs_56
            · refine pj_kk (fun _ => ?_)
              refine pj_cd (cj_Lines_cell_N hs_56) (fun s_62 r_63 hs_62 => ?_)
              refine pj_cd (cj_Border_hasPath_B hs_62) (fun s_66 r_67 hs_66 => ?_)
              refine pj_if ?_ ?_
              · exact pj_some hs_66
              · exact pj_some hs_66
        · refine pj_if ?_ ?_
          · refine pj_cd (cj_Play_stands hs_10) (fun s_72 r_73 hs_72 => ?_)
            refine pj_if ?_ ?_
            · refine pj_cd (cj_Play_stands hs_72) (fun s_77 r_78 hs_77 => ?_)
              refine pj_if ?_ ?_
              · exact pj_some hs_77
              · exact pj_some hs_77
            · exact pj_some hs_72
          · refine pj_if ?_ ?_
            · exact pj_some hs_10
            · refine pj_if ?_ ?_
              · exact pj_some hs_10
              · refine pj_if ?_ ?_
                · exact pj_some hs_10
                · refine pj_if ?_ ?_
                  · refine pj_kk (fun _ => ?_)
                    refine pj_cd (cj_Border_hasPath_B hs_10) (fun s_87 r_88 hs_87 => ?_)
                    refine pj_if ?_ ?_
                    · exact pj_some hs_87
                    · refine pj_cd (cj_Play_latestGoer hs_87) (fun s_92 r_93 hs_92 => ?_)
                      refine pj_if ?_ ?_
                      · exact pj_some hs_92
                      · exact pj_some hs_92
                  · exact pj_some hs_10
theorem cj_Play_go_n_95 {n : Nat} {σ : gb_S} {v1 : Int32} {v2 : Int32} {v3 : Int32} {t0 : Int32} {t1 : Int32} (h : gb_JJ σ) : gb_pj (cs_Play_go_n_95 n σ v1 v2 v3 t0 t1) := by
  unfold cs_Play_go_n_95
  refine pj_ck ?_
  refine pj_ltS (js_su h) (fun s_26 hs_26 => ?_)
  refine pj_ck ?_
  refine pj_ltS (js_su hs_26) (fun s_28 hs_28 => ?_)
  refine pj_ck ?_
  refine pj_ltS (js_su hs_28) (fun s_30 hs_30 => ?_)
  exact pj_some hs_30
theorem cj_Play_go_n_46 {n : Nat} {σ : gb_S} {v1 : Int32} {v2 : Int32} {v3 : Int32} {v5 : Int32} {v6 : Int32} (h : gb_JJ σ) : gb_pj (cs_Play_go_n_46 n σ v1 v2 v3 v5 v6) := by
  unfold cs_Play_go_n_46
  refine pj_ck ?_
  refine pj_ltV (fun x_14 => ?_)
  refine pj_ltV (fun x_15 => ?_)
  refine pj_ck ?_
  refine pj_ltS (js_su h) (fun s_17 hs_17 => ?_)
  refine pj_ck ?_
  refine pj_ltV (fun x_19 => ?_)
  refine pj_ck ?_
  refine pj_ltS (js_su hs_17) (fun s_21 hs_21 => ?_)
  refine pj_ck ?_
  refine pj_ltV (fun x_23 => ?_)
  refine pj_if ?_ ?_
  · exact cj_Play_go_n_95 hs_21
  · exact cj_Play_go_n_95 hs_21
theorem cj_Play_go_n {n : Nat} {σ : gb_S} {p1 : Int32} {p2 : Int32} {p3 : Int32} (h : gb_JJ σ) : gb_pj (cs_Play_go_n n σ p1 p2 p3) := by
  unfold cs_Play_go_n
  refine pj_kk (fun _ => ?_)
  refine pj_cd (cj_Border_miles_B h) (fun s_2 r_3 hs_2 => ?_)
  refine pj_kk (fun _ => ?_)
  refine pj_ck ?_
  refine pj_ltV (fun x_8 => ?_)
  refine pj_cd (cj_Border_marksOver_B hs_2) (fun s_9 r_10 hs_9 => ?_)
  exact cj_Play_go_n_46 hs_9
theorem cj_Play_go_c116_95 {n : Nat} {σ : gb_S} {v1 : Int32} {v2 : Int32} {v3 : Int32} {t0 : Int32} {t1 : Int32} (h : gb_JJ σ) : gb_pj (cs_Play_go_c116_95 n σ v1 v2 v3 t0 t1) := by
  unfold cs_Play_go_c116_95
  refine pj_ck ?_
  refine pj_ltS (js_su h) (fun s_30 hs_30 => ?_)
  refine pj_ck ?_
  refine pj_ltS (js_su hs_30) (fun s_32 hs_32 => ?_)
  refine pj_ck ?_
  refine pj_ltS (js_su hs_32) (fun s_34 hs_34 => ?_)
  exact pj_some hs_34
theorem cj_Play_go_c116_46 {n : Nat} {σ : gb_S} {v1 : Int32} {v2 : Int32} {v3 : Int32} {v5 : Int32} {v6 : Int32} (h : gb_JJ σ) : gb_pj (cs_Play_go_c116_46 n σ v1 v2 v3 v5 v6) := by
  unfold cs_Play_go_c116_46
  refine pj_ck ?_
  refine pj_ltV (fun x_18 => ?_)
  refine pj_ltV (fun x_19 => ?_)
  refine pj_ck ?_
  refine pj_ltS (js_su h) (fun s_21 hs_21 => ?_)
  refine pj_ck ?_
  refine pj_ltV (fun x_23 => ?_)
  refine pj_ck ?_
  refine pj_ltS (js_su hs_21) (fun s_25 hs_25 => ?_)
  refine pj_ck ?_
  refine pj_ltV (fun x_27 => ?_)
  refine pj_if ?_ ?_
  · exact cj_Play_go_c116_95 hs_25
  · exact cj_Play_go_c116_95 hs_25
theorem cj_Play_go_c116 {n : Nat} {σ : gb_S} {p1 : Int32} {p2 : Int32} {p3 : Int32} (h : gb_JJ σ) : gb_pj (cs_Play_go_c116 n σ p1 p2 p3) := by
  unfold cs_Play_go_c116
  refine pj_kk (fun _ => ?_)
  refine pj_cd (cj_Border_miles_B h) (fun s_2 r_3 hs_2 => ?_)
  refine pj_kk (fun _ => ?_)
  refine pj_ck ?_
  refine pj_ltV (fun x_8 => ?_)
  refine pj_cd (cj_Border_marksOver_B hs_2) (fun s_9 r_10 hs_9 => ?_)
  refine pj_ck ?_
  refine pj_ltV (fun x_14 => ?_)
  refine pj_ck ?_
  refine pj_ltS (js_su hs_9) (fun s_16 hs_16 => ?_)
  exact cj_Play_go_c116_46 hs_16
theorem cj_Play_go_c117_95 {n : Nat} {σ : gb_S} {v1 : Int32} {v2 : Int32} {v3 : Int32} {t0 : Int32} {t1 : Int32} (h : gb_JJ σ) : gb_pj (cs_Play_go_c117_95 n σ v1 v2 v3 t0 t1) := by
  unfold cs_Play_go_c117_95
  refine pj_ck ?_
  refine pj_ltS (js_su h) (fun s_30 hs_30 => ?_)
  refine pj_ck ?_
  refine pj_ltS (js_su hs_30) (fun s_32 hs_32 => ?_)
  refine pj_ck ?_
  refine pj_ltS (js_su hs_32) (fun s_34 hs_34 => ?_)
  exact pj_some hs_34
theorem cj_Play_go_c117_46 {n : Nat} {σ : gb_S} {v1 : Int32} {v2 : Int32} {v3 : Int32} {v5 : Int32} {v6 : Int32} (h : gb_JJ σ) : gb_pj (cs_Play_go_c117_46 n σ v1 v2 v3 v5 v6) := by
  unfold cs_Play_go_c117_46
  refine pj_ck ?_
  refine pj_ltV (fun x_18 => ?_)
  refine pj_ltV (fun x_19 => ?_)
  refine pj_ck ?_
  refine pj_ltS (js_su h) (fun s_21 hs_21 => ?_)
  refine pj_ck ?_
  refine pj_ltV (fun x_23 => ?_)
  refine pj_ck ?_
  refine pj_ltS (js_su hs_21) (fun s_25 hs_25 => ?_)
  refine pj_ck ?_
  refine pj_ltV (fun x_27 => ?_)
  refine pj_if ?_ ?_
  · exact cj_Play_go_c117_95 hs_25
  · exact cj_Play_go_c117_95 hs_25
theorem cj_Play_go_c117 {n : Nat} {σ : gb_S} {p1 : Int32} {p2 : Int32} {p3 : Int32} (h : gb_JJ σ) : gb_pj (cs_Play_go_c117 n σ p1 p2 p3) := by
  unfold cs_Play_go_c117
  refine pj_kk (fun _ => ?_)
  refine pj_cd (cj_Border_miles_B h) (fun s_2 r_3 hs_2 => ?_)
  refine pj_kk (fun _ => ?_)
  refine pj_ck ?_
  refine pj_ltV (fun x_8 => ?_)
  refine pj_cd (cj_Border_marksOver_B hs_2) (fun s_9 r_10 hs_9 => ?_)
  refine pj_ck ?_
  refine pj_ltV (fun x_14 => ?_)
  refine pj_ck ?_
  refine pj_ltS (js_su hs_9) (fun s_16 hs_16 => ?_)
  exact cj_Play_go_c117_46 hs_16
theorem cj_Play_rainDown_2 {n : Nat} : ∀ (mm : Nat) (σ : gb_S) (v1 : Int32) (v2 : Int32), gb_JJ σ → gb_pj (cs_Play_rainDown_2 n mm σ v1 v2) := by
  intro mm
  induction mm with
  | zero =>
    intros
    exact pj_none
  | succ mm ih =>
    intro σ v1 v2  h
    unfold cs_Play_rainDown_2
    refine pj_kk (fun _ => ?_)
    refine pj_cd (cj_Border_paths_B h) (fun s_2 r_3 hs_2 => ?_)
    refine pj_if ?_ ?_
    · exact pj_some hs_2
    · refine pj_ck ?_
      refine pj_ltV (fun x_8 => ?_)
      refine pj_ltE ?_
      refine pj_ck ?_
      refine pj_ltV (fun x_11 => ?_)
      refine pj_ltE ?_
      refine pj_ck ?_
      refine pj_ltV (fun x_14 => ?_)
      refine pj_ck ?_
      refine pj_ltS (js_su hs_2) (fun s_16 hs_16 => ?_)
      refine pj_ck ?_
      refine pj_ltV (fun x_18 => ?_)
      refine pj_ck ?_
      refine pj_ltS (js_su hs_16) (fun s_20 hs_20 => ?_)
      refine pj_ck ?_
      refine pj_ltV (fun x_22 => ?_)
      refine pj_ck ?_
      refine pj_ltS (js_su hs_20) (fun s_24 hs_24 => ?_)
      refine pj_ltE ?_
      exact ih _ _ _ hs_24
theorem cj_Play_rainDown {n : Nat} {σ : gb_S} {p1 : Int32} (h : gb_JJ σ) : gb_pj (cs_Play_rainDown n σ p1) := by
  unfold cs_Play_rainDown
  exact cj_Play_rainDown_2 _ _ _ _ h
theorem cj_Play_eat {n : Nat} {σ : gb_S} {p1 : Int32} (h : gb_JJ σ) : gb_pj (cs_Play_eat n σ p1) := by
  unfold cs_Play_eat
  refine pj_kk (fun _ => ?_)
  refine pj_cd (cj_Border_hasGoose_B h) (fun s_2 r_3 hs_2 => ?_)
  refine pj_if ?_ ?_
  · exact pj_some hs_2
  · refine pj_ck ?_
    refine pj_ltS (js_su hs_2) (fun s_8 hs_8 => ?_)
    exact pj_some hs_8
theorem cj_Play_doDeed_N {n : Nat} {σ : gb_S} {p1 : Nat} {p2 : Int32} {p3 : Int32} (h : gb_JJ σ) : gb_pj (cs_Play_doDeed_N n σ p1 p2 p3) := by
  unfold cs_Play_doDeed_N
  refine pj_kk (fun ck_p1 => ?_)
  refine pj_cd (cj_Lines_cell_N h) (fun s_2 r_3 hs_2 => ?_)
  refine pj_cd (cj_Lines_cell_N hs_2) (fun s_6 r_7 hs_6 => ?_)
  refine pj_cd (cj_Lines_kind_N hs_6) (fun s_10 r_11 hs_10 => ?_)
  refine pj_if ?_ ?_
  · refine pj_if ?_ ?_
    · refine pj_cd (cj_Play_go_n hs_10) (fun s_16 _ hs_16 => ?_)
      exact pj_some hs_16
    · refine pj_cd (cj_Play_go_c116 hs_10) (fun s_20 _ hs_20 => ?_)
      exact pj_some hs_20
  · refine pj_if ?_ ?_
    · refine pj_cd (cj_Play_go_c117 hs_10) (fun s_25 _ hs_25 => ?_)
      exact pj_some hs_25
    · refine pj_if ?_ ?_
      · refine pj_cd (cj_Play_go_c117 hs_10) (fun s_30 _ hs_30 => ?_)
        exact pj_some hs_30
      · refine pj_if ?_ ?_
        · refine pj_cd (cj_Lines_cell_N hs_10) (fun s_35 r_36 hs_35 => ?_)
          refine pj_cd (cj_Play_go_c116 hs_35) (fun s_39 _ hs_39 => ?_)
          refine pj_ck ?_
          refine pj_ltS (js_su hs_39) (fun s_44 hs_44 => ?_)
          refine pj_cd (cj_Lines_cell_N hs_44) (fun s_45 r_46 hs_45 => ?_)
          refine pj_ck ?_
          refine pj_ltS (js_su hs_45) (fun s_50 hs_50 => ?_)
          exact pj_some hs_50
        · refine pj_if ?_ ?_
          · refine pj_ck ?_
            refine pj_ltS (js_su hs_10) (fun s_53 hs_53 => ?_)
            refine pj_ltS (js_su hs_53) (fun s_54 hs_54 => ?_)
            exact pj_some hs_54
          · refine pj_if ?_ ?_
            · refine pj_cd (cj_Play_rainDown hs_10) (fun s_56 _ hs_56 => ?_)
              exact pj_some hs_56
            · refine pj_if ?_ ?_
              · refine pj_ltS (js_su hs_10) (fun s_61 hs_61 => ?_)
                exact pj_some hs_61
              · refine pj_if ?_ ?_
                · refine pj_ltS (js_su hs_10) (fun s_63 hs_63 => ?_)
                  exact pj_some hs_63
                · refine pj_if ?_ ?_
                  · refine pj_cd (cj_Play_latestGoer hs_10) (fun s_65 r_66 hs_65 => ?_)
                    refine pj_cd (cj_Play_eat hs_65) (fun s_69 _ hs_69 => ?_)
                    exact pj_some hs_69
                  · exact pj_some hs_10
theorem cj_Play_run_B_N_18 {n : Nat} : ∀ (mm : Nat) (σ : gb_S) (v2 : Nat) (v4 : Int32) (v5 : Int32) (v6 : Int32), gb_JJ σ → gb_pj (cs_Play_run_B_N_18 n mm σ v2 v4 v5 v6) := by
  intro mm
  induction mm with
  | zero =>
    intros
    exact pj_none
  | succ mm ih =>
    intro σ v2 v4 v5 v6  h
    unfold cs_Play_run_B_N_18
    refine pj_kk (fun ck_v2 => ?_)
    refine pj_if ?_ ?_
    · exact pj_some h
    · refine pj_cd (cj_Play_canBe_N h) (fun s_14 r_15 hs_14 => ?_)
      refine pj_if ?_ ?_
      · exact pj_some hs_14
      · refine pj_if ?_ ?_
        · refine pj_cd (cj_Play_doDeed_N hs_14) (fun s_20 _ hs_20 => ?_)
          refine pj_ltS (js_su hs_20) (fun s_24 hs_24 => ?_)
          refine pj_ltE ?_
          exact ih _ _ _ _ _ hs_24
        · refine pj_cd (cj_Play_doDeed_N hs_14) (fun s_26 _ hs_26 => ?_)
          refine pj_ltS (js_su hs_26) (fun s_30 hs_30 => ?_)
          refine pj_ltE ?_
          exact ih _ _ _ _ _ hs_30
theorem cj_Play_run_B_N {n : Nat} {σ : gb_S} {p1 : Nat} {p2 : Nat} {p3 : Int32} {p4 : Int32} (h : gb_JJ σ) : gb_pj (cs_Play_run_B_N n σ p1 p2 p3 p4) := by
  unfold cs_Play_run_B_N
  refine pj_kk (fun ck_p1 => ?_)
  refine pj_kk (fun ck_p2 => ?_)
  refine pj_cd (cj_Play_begin_B h) (fun s_3 _ hs_3 => ?_)
  refine pj_cd (cj_Lines_size_N hs_3) (fun s_7 r_8 hs_7 => ?_)
  refine pj_ltV (fun x_11 => ?_)
  exact cj_Play_run_B_N_18 _ _ _ _ _ _ hs_7
theorem cj_Face_playedOut_B_N {n : Nat} {σ : gb_S} {p1 : Nat} {p2 : Nat} (h : gb_JJ σ) : gb_pj (cs_Face_playedOut_B_N n σ p1 p2) := by
  unfold cs_Face_playedOut_B_N
  refine pj_kk (fun ck_p1 => ?_)
  refine pj_kk (fun ck_p2 => ?_)
  refine pj_cd (cj_Lines_size_N h) (fun s_3 r_4 hs_3 => ?_)
  refine pj_cd (cj_Play_run_B_N hs_3) (fun s_7 _ hs_7 => ?_)
  exact pj_some hs_7
theorem cj_Face_stop {n : Nat} {σ : gb_S} {p1 : Int32} {p2 : Int32} (h : gb_JJ σ) : gb_pj (cs_Face_stop n σ p1 p2) := by
  unfold cs_Face_stop
  refine pj_cd (cj_Face_borderAt h) (fun s_1 r_2 hs_1 => ?_)
  refine pj_if ?_ ?_
  · refine pj_cd (cj_Face_nightAt hs_1) (fun s_6 r_7 hs_6 => ?_)
    refine pj_if ?_ ?_
    · refine pj_cd (cj_Face_playedOut_n_n hs_6) (fun s_11 r_12 hs_11 => ?_)
      refine pj_if ?_ ?_
      · exact pj_some hs_11
      · exact pj_some hs_11
    · refine pj_kk (fun ck_r_7 => ?_)
      refine pj_cd (cj_Face_playedOut_n_N hs_6) (fun s_17 r_18 hs_17 => ?_)
      refine pj_if ?_ ?_
      · exact pj_some hs_17
      · exact pj_some hs_17
  · refine pj_kk (fun ck_r_2 => ?_)
    refine pj_cd (cj_Face_nightAt hs_1) (fun s_23 r_24 hs_23 => ?_)
    refine pj_if ?_ ?_
    · refine pj_cd (cj_Face_playedOut_B_n hs_23) (fun s_28 r_29 hs_28 => ?_)
      refine pj_if ?_ ?_
      · exact pj_some hs_28
      · exact pj_some hs_28
    · refine pj_kk (fun ck_r_24 => ?_)
      refine pj_cd (cj_Face_playedOut_B_N hs_23) (fun s_34 r_35 hs_34 => ?_)
      refine pj_if ?_ ?_
      · exact pj_some hs_34
      · exact pj_some hs_34
theorem cj_Face_playedTo_B_n {n : Nat} {σ : gb_S} {p1 : Nat} {p3 : Int32} (h : gb_JJ σ) : gb_pj (cs_Face_playedTo_B_n n σ p1 p3) := by
  unfold cs_Face_playedTo_B_n
  refine pj_kk (fun ck_p1 => ?_)
  exact pj_some h
theorem cj_Face_playedTo_B_N {n : Nat} {σ : gb_S} {p1 : Nat} {p2 : Nat} {p3 : Int32} (h : gb_JJ σ) : gb_pj (cs_Face_playedTo_B_N n σ p1 p2 p3) := by
  unfold cs_Face_playedTo_B_N
  refine pj_kk (fun ck_p1 => ?_)
  refine pj_kk (fun ck_p2 => ?_)
  refine pj_if ?_ ?_
  · exact pj_some h
  · refine pj_cd (cj_Lines_size_N h) (fun s_4 r_5 hs_4 => ?_)
    refine pj_if ?_ ?_
    · refine pj_cd (cj_Play_run_B_N hs_4) (fun s_9 _ hs_9 => ?_)
      refine pj_if ?_ ?_
      · exact pj_some hs_9
      · exact pj_some hs_9
    · exact pj_some hs_4
theorem cj_Face_goose {n : Nat} {σ : gb_S} {p1 : Int32} {p2 : Int32} {p3 : Int32} {p4 : Int32} {p5 : Int32} (h : gb_JJ σ) : gb_pj (cs_Face_goose n σ p1 p2 p3 p4 p5) := by
  unfold cs_Face_goose
  refine pj_cd (cj_Face_borderAt h) (fun s_1 r_2 hs_1 => ?_)
  refine pj_if ?_ ?_
  · exact pj_some hs_1
  · refine pj_kk (fun ck_r_2 => ?_)
    refine pj_cd (cj_Border_hasGoose_B hs_1) (fun s_7 r_8 hs_7 => ?_)
    refine pj_if ?_ ?_
    · exact pj_some hs_7
    · refine pj_cd (cj_Face_nightAt hs_7) (fun s_12 r_13 hs_12 => ?_)
      refine pj_if ?_ ?_
      · refine pj_cd (cj_Face_playedTo_B_n hs_12) (fun s_17 r_18 hs_17 => ?_)
        refine pj_if ?_ ?_
        · exact pj_some hs_17
        · refine pj_if ?_ ?_
          · refine pj_ck ?_
            refine pj_ltV (fun x_24 => ?_)
            exact pj_some hs_17
          · refine pj_if ?_ ?_
            · refine pj_ck ?_
              refine pj_ltV (fun x_27 => ?_)
              exact pj_some hs_17
            · refine pj_if ?_ ?_
              · refine pj_ck ?_
                refine pj_ltV (fun x_30 => ?_)
                exact pj_some hs_17
              · refine pj_if ?_ ?_
                · refine pj_ck ?_
                  refine pj_ltV (fun x_33 => ?_)
                  exact pj_some hs_17
                · exact pj_some hs_17
      · refine pj_kk (fun ck_r_13 => ?_)
        refine pj_cd (cj_Face_playedTo_B_N hs_12) (fun s_35 r_36 hs_35 => ?_)
        refine pj_if ?_ ?_
        · exact pj_some hs_35
        · refine pj_if ?_ ?_
          · refine pj_ck ?_
            refine pj_ltV (fun x_42 => ?_)
            exact pj_some hs_35
          · refine pj_if ?_ ?_
            · refine pj_ck ?_
              refine pj_ltV (fun x_45 => ?_)
              exact pj_some hs_35
            · refine pj_if ?_ ?_
              · refine pj_ck ?_
                refine pj_ltV (fun x_48 => ?_)
                exact pj_some hs_35
              · refine pj_if ?_ ?_
                · refine pj_ck ?_
                  refine pj_ltV (fun x_51 => ?_)
                  exact pj_some hs_35
                · exact pj_some hs_35
theorem cj_Play_tally {n : Nat} {σ : gb_S} {p1 : Int32} (h : gb_JJ σ) : gb_pj (cs_Play_tally n σ p1) := by
  unfold cs_Play_tally
  refine pj_ck ?_
  refine pj_ltV (fun x_2 => ?_)
  refine pj_ck ?_
  refine pj_ltV (fun x_4 => ?_)
  refine pj_ltV (fun x_5 => ?_)
  exact pj_some h
theorem cj_Face_path {n : Nat} {σ : gb_S} {p1 : Int32} {p2 : Int32} {p3 : Int32} {p4 : Int32} {p5 : Int32} (h : gb_JJ σ) : gb_pj (cs_Face_path n σ p1 p2 p3 p4 p5) := by
  unfold cs_Face_path
  refine pj_cd (cj_Face_borderAt h) (fun s_1 r_2 hs_1 => ?_)
  refine pj_if ?_ ?_
  · exact pj_some hs_1
  · refine pj_kk (fun ck_r_2 => ?_)
    refine pj_cd (cj_Border_hasPath_B hs_1) (fun s_7 r_8 hs_7 => ?_)
    refine pj_if ?_ ?_
    · exact pj_some hs_7
    · refine pj_cd (cj_Face_nightAt hs_7) (fun s_12 r_13 hs_12 => ?_)
      refine pj_if ?_ ?_
      · refine pj_cd (cj_Face_playedTo_B_n hs_12) (fun s_17 r_18 hs_17 => ?_)
        refine pj_if ?_ ?_
        · exact pj_some hs_17
        · refine pj_if ?_ ?_
          · refine pj_ck ?_
            refine pj_ltV (fun x_24 => ?_)
            exact pj_some hs_17
          · refine pj_if ?_ ?_
            · refine pj_ck ?_
              refine pj_ltV (fun x_27 => ?_)
              exact pj_some hs_17
            · refine pj_if ?_ ?_
              · refine pj_cd (cj_Play_tally hs_17) (fun s_29 r_30 hs_29 => ?_)
                exact pj_some hs_29
              · refine pj_if ?_ ?_
                · refine pj_cd (cj_Play_tally hs_17) (fun s_34 r_35 hs_34 => ?_)
                  refine pj_cd (cj_Border_padded_B hs_34) (fun s_38 r_39 hs_38 => ?_)
                  exact pj_some hs_38
                · refine pj_if ?_ ?_
                  · refine pj_cd (cj_Play_tally hs_17) (fun s_43 r_44 hs_43 => ?_)
                    refine pj_cd (cj_Border_payOf_B hs_43) (fun s_47 r_48 hs_47 => ?_)
                    exact pj_some hs_47
                  · refine pj_if ?_ ?_
                    · refine pj_ck ?_
                      refine pj_ltV (fun x_53 => ?_)
                      exact pj_some hs_17
                    · exact pj_some hs_17
      · refine pj_kk (fun ck_r_13 => ?_)
        refine pj_cd (cj_Face_playedTo_B_N hs_12) (fun s_55 r_56 hs_55 => ?_)
        refine pj_if ?_ ?_
        · exact pj_some hs_55
        · refine pj_if ?_ ?_
          · refine pj_ck ?_
            refine pj_ltV (fun x_62 => ?_)
            exact pj_some hs_55
          · refine pj_if ?_ ?_
            · refine pj_ck ?_
              refine pj_ltV (fun x_65 => ?_)
              exact pj_some hs_55
            · refine pj_if ?_ ?_
              · refine pj_cd (cj_Play_tally hs_55) (fun s_67 r_68 hs_67 => ?_)
                exact pj_some hs_67
              · refine pj_if ?_ ?_
                · refine pj_cd (cj_Play_tally hs_55) (fun s_72 r_73 hs_72 => ?_)
                  refine pj_cd (cj_Border_padded_B hs_72) (fun s_76 r_77 hs_76 => ?_)
                  exact pj_some hs_76
                · refine pj_if ?_ ?_
                  · refine pj_cd (cj_Play_tally hs_55) (fun s_81 r_82 hs_81 => ?_)
                    refine pj_cd (cj_Border_payOf_B hs_81) (fun s_85 r_86 hs_85 => ?_)
                    exact pj_some hs_85
                  · refine pj_if ?_ ?_
                    · refine pj_ck ?_
                      refine pj_ltV (fun x_91 => ?_)
                      exact pj_some hs_55
                    · exact pj_some hs_55
theorem cj_Play_whoIs_4 {n : Nat} : ∀ (mm : Nat) (σ : gb_S) (v1 : Int32) (v2 : Int32) (v3 : Int32), gb_JJ σ → gb_pj (cs_Play_whoIs_4 n mm σ v1 v2 v3) := by
  intro mm
  induction mm with
  | zero =>
    intros
    exact pj_none
  | succ mm ih =>
    intro σ v1 v2 v3  h
    unfold cs_Play_whoIs_4
    refine pj_kk (fun _ => ?_)
    refine pj_cd (cj_Border_geese_B h) (fun s_2 r_3 hs_2 => ?_)
    refine pj_if ?_ ?_
    · exact pj_some hs_2
    · refine pj_ck ?_
      refine pj_ltV (fun x_8 => ?_)
      refine pj_if ?_ ?_
      · refine pj_ltE ?_
        refine pj_ltE ?_
        exact ih _ _ _ _ hs_2
      · refine pj_ltE ?_
        exact ih _ _ _ _ hs_2
theorem cj_Play_whoIs {n : Nat} {σ : gb_S} {p1 : Int32} (h : gb_JJ σ) : gb_pj (cs_Play_whoIs n σ p1) := by
  unfold cs_Play_whoIs
  exact cj_Play_whoIs_4 _ _ _ _ _ h
theorem cj_Play_worn_43 {n : Nat} {k4 : gb_S → Int32 → Int32 → gb_CR Int32} {σ : gb_S} {v1 : Int32} {v2 : Int32} {t0 : Int32} (h_k4 : ∀ (s : gb_S) (x1 : Int32) (x2 : Int32), gb_JJ s → gb_pj (k4 s x1 x2)) (h : gb_JJ σ) : gb_pj (cs_Play_worn_43 n k4 σ v1 v2 t0) := by
  unfold cs_Play_worn_43
  refine pj_if ?_ ?_
  · refine pj_ltE ?_
    exact h_k4 _ _ _ h
  · refine pj_ck ?_
    refine pj_ltV (fun x_16 => ?_)
    refine pj_if ?_ ?_
    · refine pj_ltE ?_
      refine pj_ltE ?_
      exact h_k4 _ _ _ h
    · refine pj_ltE ?_
      exact h_k4 _ _ _ h
theorem cj_Play_worn_38 {n : Nat} {k4 : gb_S → Int32 → Int32 → gb_CR Int32} {σ : gb_S} {v1 : Int32} {v2 : Int32} (h_k4 : ∀ (s : gb_S) (x1 : Int32) (x2 : Int32), gb_JJ s → gb_pj (k4 s x1 x2)) (h : gb_JJ σ) : gb_pj (cs_Play_worn_38 n k4 σ v1 v2) := by
  unfold cs_Play_worn_38
  exact cj_Play_worn_43 h_k4 h
theorem cj_Play_worn_4 {n : Nat} : ∀ (mm : Nat) (σ : gb_S) (v1 : Int32) (v2 : Int32), gb_JJ σ → gb_pj (cs_Play_worn_4 n mm σ v1 v2) := by
  intro mm
  induction mm with
  | zero =>
    intros
    exact pj_none
  | succ mm ih =>
    intro σ v1 v2  h
    unfold cs_Play_worn_4
    refine pj_kk (fun _ => ?_)
    refine pj_cd (cj_Border_geese_B h) (fun s_2 r_3 hs_2 => ?_)
    refine pj_if ?_ ?_
    · exact pj_some hs_2
    · refine pj_kk (fun _ => ?_)
      refine pj_cd (cj_Border_boots_B hs_2) (fun s_8 r_9 hs_8 => ?_)
      refine pj_if ?_ ?_
      · refine cj_Play_worn_38 ?_ hs_8
        · intro σ v1 v2 hσ
          exact ih _ _ _ hσ
      · refine pj_if ?_ ?_
        · refine cj_Play_worn_38 ?_ hs_8
          · intro σ v1 v2 hσ
            exact ih _ _ _ hσ
        · refine cj_Play_worn_43 ?_ hs_8
          · intro σ v1 v2 hσ
            exact ih _ _ _ hσ
theorem cj_Play_worn {n : Nat} {σ : gb_S} (h : gb_JJ σ) : gb_pj (cs_Play_worn n σ) := by
  unfold cs_Play_worn
  exact cj_Play_worn_4 _ _ _ _ h
theorem cj_Play_payTold_14 {n : Nat} {σ : gb_S} {v2 : Int32} {t0 : Int32} (h : gb_JJ σ) : gb_pj (cs_Play_payTold_14 n σ v2 t0) := by
  unfold cs_Play_payTold_14
  refine pj_kk (fun _ => ?_)
  refine pj_cd (cj_Border_rate_B h) (fun s_3 r_4 hs_3 => ?_)
  refine pj_if ?_ ?_
  · refine pj_cd (cj_Play_tally hs_3) (fun s_8 r_9 hs_8 => ?_)
    exact pj_some hs_8
  · refine pj_kk (fun _ => ?_)
    refine pj_cd (cj_Play_tally hs_3) (fun s_13 r_14 hs_13 => ?_)
    refine pj_cd (cj_Border_padded_B hs_13) (fun s_17 r_18 hs_17 => ?_)
    exact pj_some hs_17
theorem cj_Play_payTold {n : Nat} {σ : gb_S} {p1 : Int32} {p2 : Int32} (h : gb_JJ σ) : gb_pj (cs_Play_payTold n σ p1 p2) := by
  unfold cs_Play_payTold
  refine pj_if ?_ ?_
  · exact cj_Play_payTold_14 h
  · exact cj_Play_payTold_14 h
theorem cj_Play_payBy_4 {n : Nat} : ∀ (mm : Nat) (σ : gb_S) (v1 : Int32) (v2 : Int32) (v3 : Int32), gb_JJ σ → gb_pj (cs_Play_payBy_4 n mm σ v1 v2 v3) := by
  intro mm
  induction mm with
  | zero =>
    intros
    exact pj_none
  | succ mm ih =>
    intro σ v1 v2 v3  h
    unfold cs_Play_payBy_4
    refine pj_kk (fun _ => ?_)
    refine pj_cd (cj_Border_paths_B h) (fun s_2 r_3 hs_2 => ?_)
    refine pj_if ?_ ?_
    · exact pj_some hs_2
    · refine pj_cd (cj_Play_payTold hs_2) (fun s_7 r_8 hs_7 => ?_)
      refine pj_ltE ?_
      refine pj_ltE ?_
      exact ih _ _ _ _ hs_7
theorem cj_Play_payBy {n : Nat} {σ : gb_S} {p1 : Int32} (h : gb_JJ σ) : gb_pj (cs_Play_payBy n σ p1) := by
  unfold cs_Play_payBy
  exact cj_Play_payBy_4 _ _ _ _ _ h
theorem cj_Play_allPay {n : Nat} {σ : gb_S} (h : gb_JJ σ) : gb_pj (cs_Play_allPay n σ) := by
  unfold cs_Play_allPay
  refine pj_kk (fun _ => ?_)
  refine pj_cd (cj_Border_paths_B h) (fun s_2 r_3 hs_2 => ?_)
  refine pj_cd (cj_Play_payBy hs_2) (fun s_6 r_7 hs_6 => ?_)
  exact pj_some hs_6
theorem cj_Face_state {n : Nat} {σ : gb_S} {p1 : Int32} {p2 : Int32} {p3 : Int32} {p4 : Int32} (h : gb_JJ σ) : gb_pj (cs_Face_state n σ p1 p2 p3 p4) := by
  unfold cs_Face_state
  refine pj_cd (cj_Face_borderAt h) (fun s_1 r_2 hs_1 => ?_)
  refine pj_if ?_ ?_
  · exact pj_some hs_1
  · refine pj_kk (fun ck_r_2 => ?_)
    refine pj_cd (cj_Face_nightAt hs_1) (fun s_7 r_8 hs_7 => ?_)
    refine pj_if ?_ ?_
    · refine pj_cd (cj_Face_playedTo_B_n hs_7) (fun s_12 r_13 hs_12 => ?_)
      refine pj_if ?_ ?_
      · exact pj_some hs_12
      · refine pj_if ?_ ?_
        · refine pj_cd (cj_Play_whoIs hs_12) (fun s_18 r_19 hs_18 => ?_)
          exact pj_some hs_18
        · refine pj_if ?_ ?_
          · refine pj_cd (cj_Play_whoIs hs_12) (fun s_23 r_24 hs_23 => ?_)
            exact pj_some hs_23
          · refine pj_if ?_ ?_
            · refine pj_cd (cj_Play_whoIs hs_12) (fun s_28 r_29 hs_28 => ?_)
              exact pj_some hs_28
            · refine pj_if ?_ ?_
              · refine pj_cd (cj_Play_whoIs hs_12) (fun s_33 r_34 hs_33 => ?_)
                refine pj_cd (cj_Border_worthOf_B hs_33) (fun s_37 r_38 hs_37 => ?_)
                exact pj_some hs_37
              · refine pj_if ?_ ?_
                · refine pj_cd (cj_Play_whoIs hs_12) (fun s_42 r_43 hs_42 => ?_)
                  refine pj_cd (cj_Border_worthOf_B hs_42) (fun s_46 r_47 hs_46 => ?_)
                  exact pj_some hs_46
                · refine pj_if ?_ ?_
                  · refine pj_cd (cj_Play_whoIs hs_12) (fun s_51 r_52 hs_51 => ?_)
                    refine pj_cd (cj_Border_worthOf_B hs_51) (fun s_55 r_56 hs_55 => ?_)
                    exact pj_some hs_55
                  · refine pj_if ?_ ?_
                    · refine pj_cd (cj_Play_worn hs_12) (fun s_60 r_61 hs_60 => ?_)
                      exact pj_some hs_60
                    · refine pj_if ?_ ?_
                      · refine pj_cd (cj_Play_allPay hs_12) (fun s_65 r_66 hs_65 => ?_)
                        exact pj_some hs_65
                      · refine pj_if ?_ ?_
                        · refine pj_if ?_ ?_
                          · exact pj_some hs_12
                          · exact pj_some hs_12
                        · exact pj_some hs_12
    · refine pj_kk (fun ck_r_8 => ?_)
      refine pj_cd (cj_Face_playedTo_B_N hs_7) (fun s_72 r_73 hs_72 => ?_)
      refine pj_if ?_ ?_
      · exact pj_some hs_72
      · refine pj_if ?_ ?_
        · refine pj_cd (cj_Play_whoIs hs_72) (fun s_78 r_79 hs_78 => ?_)
          exact pj_some hs_78
        · refine pj_if ?_ ?_
          · refine pj_cd (cj_Play_whoIs hs_72) (fun s_83 r_84 hs_83 => ?_)
            exact pj_some hs_83
          · refine pj_if ?_ ?_
            · refine pj_cd (cj_Play_whoIs hs_72) (fun s_88 r_89 hs_88 => ?_)
              exact pj_some hs_88
            · refine pj_if ?_ ?_
              · refine pj_cd (cj_Play_whoIs hs_72) (fun s_93 r_94 hs_93 => ?_)
                refine pj_cd (cj_Border_worthOf_B hs_93) (fun s_97 r_98 hs_97 => ?_)
                exact pj_some hs_97
              · refine pj_if ?_ ?_
                · refine pj_cd (cj_Play_whoIs hs_72) (fun s_102 r_103 hs_102 => ?_)
                  refine pj_cd (cj_Border_worthOf_B hs_102) (fun s_106 r_107 hs_106 => ?_)
                  exact pj_some hs_106
                · refine pj_if ?_ ?_
                  · refine pj_cd (cj_Play_whoIs hs_72) (fun s_111 r_112 hs_111 => ?_)
                    refine pj_cd (cj_Border_worthOf_B hs_111) (fun s_115 r_116 hs_115 => ?_)
                    exact pj_some hs_115
                  · refine pj_if ?_ ?_
                    · refine pj_cd (cj_Play_worn hs_72) (fun s_120 r_121 hs_120 => ?_)
                      exact pj_some hs_120
                    · refine pj_if ?_ ?_
                      · refine pj_cd (cj_Play_allPay hs_72) (fun s_125 r_126 hs_125 => ?_)
                        exact pj_some hs_125
                      · refine pj_if ?_ ?_
                        · refine pj_if ?_ ?_
                          · exact pj_some hs_72
                          · exact pj_some hs_72
                        · exact pj_some hs_72
theorem cj_Play_taken_14 {n : Nat} {σ : gb_S} {v1 : Int32} {v2 : Int32} {t0 : Int32} (h : gb_JJ σ) : gb_pj (cs_Play_taken_14 n σ v1 v2 t0) := by
  unfold cs_Play_taken_14
  refine pj_if ?_ ?_
  · refine pj_if ?_ ?_
    · refine pj_cd (cj_Play_payTold h) (fun s_4 r_5 hs_4 => ?_)
      exact pj_some hs_4
    · exact pj_some h
  · refine pj_kk (fun _ => ?_)
    refine pj_cd (cj_Border_cap_B h) (fun s_9 r_10 hs_9 => ?_)
    refine pj_if ?_ ?_
    · refine pj_if ?_ ?_
      · refine pj_cd (cj_Play_payTold hs_9) (fun s_15 r_16 hs_15 => ?_)
        exact pj_some hs_15
      · exact pj_some hs_9
    · refine pj_cd (cj_Play_payBy hs_9) (fun s_19 r_20 hs_19 => ?_)
      refine pj_kk (fun _ => ?_)
      refine pj_cd (cj_Border_cap_B hs_19) (fun s_24 r_25 hs_24 => ?_)
      refine pj_if ?_ ?_
      · refine pj_if ?_ ?_
        · refine pj_cd (cj_Play_payTold hs_24) (fun s_30 r_31 hs_30 => ?_)
          exact pj_some hs_30
        · exact pj_some hs_24
      · refine pj_if ?_ ?_
        · refine pj_cd (cj_Play_payTold hs_24) (fun s_35 r_36 hs_35 => ?_)
          exact pj_some hs_35
        · exact pj_some hs_24
theorem cj_Play_taken {n : Nat} {σ : gb_S} {p1 : Int32} {p2 : Int32} (h : gb_JJ σ) : gb_pj (cs_Play_taken n σ p1 p2) := by
  unfold cs_Play_taken
  refine pj_if ?_ ?_
  · exact cj_Play_taken_14 h
  · exact cj_Play_taken_14 h
theorem cj_Play_isAtRest_2 {n : Nat} : ∀ (mm : Nat) (σ : gb_S) (v1 : Int32) (v2 : Int32), gb_JJ σ → gb_pj (cs_Play_isAtRest_2 n mm σ v1 v2) := by
  intro mm
  induction mm with
  | zero =>
    intros
    exact pj_none
  | succ mm ih =>
    intro σ v1 v2  h
    unfold cs_Play_isAtRest_2
    refine pj_kk (fun _ => ?_)
    refine pj_cd (cj_Border_paths_B h) (fun s_2 r_3 hs_2 => ?_)
    refine pj_if ?_ ?_
    · exact pj_some hs_2
    · refine pj_cd (cj_Play_taken hs_2) (fun s_7 r_8 hs_7 => ?_)
      refine pj_cd (cj_Play_taken hs_7) (fun s_11 r_12 hs_11 => ?_)
      refine pj_if ?_ ?_
      · refine pj_ltE ?_
        exact ih _ _ _ hs_11
      · exact pj_some hs_11
theorem cj_Play_isAtRest {n : Nat} {σ : gb_S} {p1 : Int32} (h : gb_JJ σ) : gb_pj (cs_Play_isAtRest n σ p1) := by
  unfold cs_Play_isAtRest
  exact cj_Play_isAtRest_2 _ _ _ _ h
theorem cj_Face_rest_49 {n : Nat} : ∀ (mm : Nat) (σ : gb_S) (v3 : Int32) (v5 : Int32) (v6 : Int32) (v7 : Int32), gb_JJ σ → gb_pj (cs_Face_rest_49 n mm σ v3 v5 v6 v7) := by
  intro mm
  induction mm with
  | zero =>
    intros
    exact pj_none
  | succ mm ih =>
    intro σ v3 v5 v6 v7  h
    unfold cs_Face_rest_49
    refine pj_if ?_ ?_
    · refine pj_if ?_ ?_
      · exact pj_some h
      · exact pj_some h
    · refine pj_cd (cj_Play_isAtRest h) (fun s_26 r_27 hs_26 => ?_)
      refine pj_if ?_ ?_
      · refine pj_ltE ?_
        exact ih _ _ _ _ _ hs_26
      · refine pj_if ?_ ?_
        · exact pj_some hs_26
        · refine pj_ltE ?_
          refine pj_ltE ?_
          exact ih _ _ _ _ _ hs_26
theorem cj_Face_rest {n : Nat} {σ : gb_S} {p1 : Int32} {p2 : Int32} {p3 : Int32} (h : gb_JJ σ) : gb_pj (cs_Face_rest n σ p1 p2 p3) := by
  unfold cs_Face_rest
  refine pj_cd (cj_Face_borderAt h) (fun s_1 r_2 hs_1 => ?_)
  refine pj_if ?_ ?_
  · refine pj_if ?_ ?_
    · exact pj_some hs_1
    · exact pj_some hs_1
  · refine pj_kk (fun ck_r_2 => ?_)
    refine pj_if ?_ ?_
    · exact pj_some hs_1
    · refine pj_cd (cj_Face_nightAt hs_1) (fun s_9 r_10 hs_9 => ?_)
      refine pj_if ?_ ?_
      · refine pj_cd (cj_Face_playedOut_B_n hs_9) (fun s_14 r_15 hs_14 => ?_)
        refine pj_if ?_ ?_
        · exact pj_some hs_14
        · refine pj_cd (cj_Border_paths_B hs_14) (fun s_19 r_20 hs_19 => ?_)
          refine pj_ltE ?_
          exact cj_Face_rest_49 _ _ _ _ _ _ hs_19
      · refine pj_kk (fun ck_r_10 => ?_)
        refine pj_cd (cj_Face_playedOut_B_N hs_9) (fun s_36 r_37 hs_36 => ?_)
        refine pj_if ?_ ?_
        · exact pj_some hs_36
        · refine pj_cd (cj_Border_paths_B hs_36) (fun s_41 r_42 hs_41 => ?_)
          refine pj_ltE ?_
          exact cj_Face_rest_49 _ _ _ _ _ _ hs_41
theorem cj_Face_take {n : Nat} {σ : gb_S} {p1 : Int32} {p2 : Int32} {p3 : Int32} {p4 : Int32} (h : gb_JJ σ) : gb_pj (cs_Face_take n σ p1 p2 p3 p4) := by
  unfold cs_Face_take
  refine pj_cd (cj_Face_borderAt h) (fun s_1 r_2 hs_1 => ?_)
  refine pj_if ?_ ?_
  · exact pj_some hs_1
  · refine pj_kk (fun ck_r_2 => ?_)
    refine pj_cd (cj_Border_hasPath_B hs_1) (fun s_7 r_8 hs_7 => ?_)
    refine pj_if ?_ ?_
    · exact pj_some hs_7
    · refine pj_if ?_ ?_
      · exact pj_some hs_7
      · refine pj_cd (cj_Border_paths_B hs_7) (fun s_13 r_14 hs_13 => ?_)
        refine pj_if ?_ ?_
        · refine pj_cd (cj_Face_nightAt hs_13) (fun s_18 r_19 hs_18 => ?_)
          refine pj_if ?_ ?_
          · refine pj_cd (cj_Face_playedOut_B_n hs_18) (fun s_23 r_24 hs_23 => ?_)
            refine pj_if ?_ ?_
            · exact pj_some hs_23
            · refine pj_cd (cj_Play_taken hs_23) (fun s_28 r_29 hs_28 => ?_)
              exact pj_some hs_28
          · refine pj_kk (fun ck_r_19 => ?_)
            refine pj_cd (cj_Face_playedOut_B_N hs_18) (fun s_33 r_34 hs_33 => ?_)
            refine pj_if ?_ ?_
            · exact pj_some hs_33
            · refine pj_cd (cj_Play_taken hs_33) (fun s_38 r_39 hs_38 => ?_)
              exact pj_some hs_38
        · exact pj_some hs_13
theorem cj_Face_honest {n : Nat} {σ : gb_S} {p1 : Int32} {p2 : Int32} {p3 : Int32} (h : gb_JJ σ) : gb_pj (cs_Face_honest n σ p1 p2 p3) := by
  unfold cs_Face_honest
  refine pj_cd (cj_Face_borderAt h) (fun s_1 r_2 hs_1 => ?_)
  refine pj_if ?_ ?_
  · exact pj_some hs_1
  · refine pj_kk (fun ck_r_2 => ?_)
    refine pj_cd (cj_Border_hasPath_B hs_1) (fun s_7 r_8 hs_7 => ?_)
    refine pj_if ?_ ?_
    · exact pj_some hs_7
    · refine pj_cd (cj_Face_nightAt hs_7) (fun s_12 r_13 hs_12 => ?_)
      refine pj_if ?_ ?_
      · refine pj_cd (cj_Face_playedOut_B_n hs_12) (fun s_17 r_18 hs_17 => ?_)
        refine pj_if ?_ ?_
        · exact pj_some hs_17
        · refine pj_cd (cj_Play_tally hs_17) (fun s_22 r_23 hs_22 => ?_)
          refine pj_cd (cj_Border_payOf_B hs_22) (fun s_26 r_27 hs_26 => ?_)
          refine pj_cd (cj_Border_rate_B hs_26) (fun s_30 r_31 hs_30 => ?_)
          exact pj_some hs_30
      · refine pj_kk (fun ck_r_13 => ?_)
        refine pj_cd (cj_Face_playedOut_B_N hs_12) (fun s_35 r_36 hs_35 => ?_)
        refine pj_if ?_ ?_
        · exact pj_some hs_35
        · refine pj_cd (cj_Play_tally hs_35) (fun s_40 r_41 hs_40 => ?_)
          refine pj_cd (cj_Border_payOf_B hs_40) (fun s_44 r_45 hs_44 => ?_)
          refine pj_cd (cj_Border_rate_B hs_44) (fun s_48 r_49 hs_48 => ?_)
          exact pj_some hs_48
theorem cj_Dawn_marksSeen_D {n : Nat} {σ : gb_S} {k0 : Nat} {p1 : Int32} (h : gb_JJ σ) : gb_pj (cs_Dawn_marksSeen_D n σ k0 p1) := by
  unfold cs_Dawn_marksSeen_D
  refine pj_kk (fun ck_k0 => ?_)
  refine pj_cd (cj_Lines_cell_D h) (fun s_2 r_3 hs_2 => ?_)
  exact pj_some hs_2
theorem cj_Dawn_leftOn_D_2 {n : Nat} : ∀ (mm : Nat) (σ : gb_S) (v0 : Nat) (v1 : Int32) (v2 : Int32), gb_JJ σ → gb_pj (cs_Dawn_leftOn_D_2 n mm σ v0 v1 v2) := by
  intro mm
  induction mm with
  | zero =>
    intros
    exact pj_none
  | succ mm ih =>
    intro σ v0 v1 v2  h
    unfold cs_Dawn_leftOn_D_2
    refine pj_kk (fun ck_v0 => ?_)
    refine pj_cd (cj_Lines_size_D h) (fun s_3 r_4 hs_3 => ?_)
    refine pj_if ?_ ?_
    · exact pj_some hs_3
    · refine pj_cd (cj_Dawn_pathSeen_D hs_3) (fun s_8 r_9 hs_8 => ?_)
      refine pj_if ?_ ?_
      · refine pj_cd (cj_Dawn_marksSeen_D hs_8) (fun s_14 r_15 hs_14 => ?_)
        exact pj_some hs_14
      · refine pj_ltE ?_
        exact ih _ _ _ _ hs_8
theorem cj_Dawn_leftOn_D {n : Nat} {σ : gb_S} {k0 : Nat} {p1 : Int32} (h : gb_JJ σ) : gb_pj (cs_Dawn_leftOn_D n σ k0 p1) := by
  unfold cs_Dawn_leftOn_D
  refine pj_kk (fun ck_k0 => ?_)
  exact cj_Dawn_leftOn_D_2 _ _ _ _ _ h
theorem cj_Face_lacks_46 {n : Nat} : ∀ (mm : Nat) (σ : gb_S) (v4 : Nat) (v5 : Nat) (v6 : Int32) (v7 : Int32), gb_JJ σ → gb_pj (cs_Face_lacks_46 n mm σ v4 v5 v6 v7) := by
  intro mm
  induction mm with
  | zero =>
    intros
    exact pj_none
  | succ mm ih =>
    intro σ v4 v5 v6 v7  h
    unfold cs_Face_lacks_46
    refine pj_kk (fun ck_v4 => ?_)
    refine pj_kk (fun ck_v5 => ?_)
    refine pj_cd (cj_Border_paths_B h) (fun s_31 r_32 hs_31 => ?_)
    refine pj_if ?_ ?_
    · exact pj_some hs_31
    · refine pj_cd (cj_Dawn_leftOn_D hs_31) (fun s_36 r_37 hs_36 => ?_)
      refine pj_cd (cj_Play_tally hs_36) (fun s_40 r_41 hs_40 => ?_)
      refine pj_if ?_ ?_
      · refine pj_ltE ?_
        exact ih _ _ _ _ _ hs_40
      · refine pj_ltE ?_
        refine pj_ltE ?_
        exact ih _ _ _ _ _ hs_40
theorem cj_Face_lacks {n : Nat} {σ : gb_S} {p1 : Int32} {p2 : Int32} {p3 : Int32} (h : gb_JJ σ) : gb_pj (cs_Face_lacks n σ p1 p2 p3) := by
  unfold cs_Face_lacks
  refine pj_cd (cj_Face_borderAt h) (fun s_1 r_2 hs_1 => ?_)
  refine pj_if ?_ ?_
  · refine pj_cd (cj_Face_dawnAt hs_1) (fun s_6 r_7 hs_6 => ?_)
    refine pj_if ?_ ?_
    · exact pj_some hs_6
    · refine pj_kk (fun ck_r_7 => ?_)
      exact pj_some hs_6
  · refine pj_kk (fun ck_r_2 => ?_)
    refine pj_cd (cj_Face_dawnAt hs_1) (fun s_13 r_14 hs_13 => ?_)
    refine pj_if ?_ ?_
    · exact pj_some hs_13
    · refine pj_kk (fun ck_r_14 => ?_)
      refine pj_cd (cj_Face_nightAt hs_13) (fun s_19 r_20 hs_19 => ?_)
      refine pj_if ?_ ?_
      · refine pj_cd (cj_Face_playedOut_B_n hs_19) (fun s_24 r_25 hs_24 => ?_)
        refine pj_if ?_ ?_
        · exact pj_some hs_24
        · exact cj_Face_lacks_46 _ _ _ _ _ _ hs_24
      · refine pj_kk (fun ck_r_20 => ?_)
        refine pj_cd (cj_Face_playedOut_B_N hs_19) (fun s_49 r_50 hs_49 => ?_)
        refine pj_if ?_ ?_
        · exact pj_some hs_49
        · exact cj_Face_lacks_46 _ _ _ _ _ _ hs_49
theorem cj_Face_who_58 {n : Nat} : ∀ (mm : Nat) (σ : gb_S) (v3 : Int32) (v4 : Int32) (v5 : Nat) (v6 : Nat) (v7 : Int32) (v8 : Int32), gb_JJ σ → gb_pj (cs_Face_who_58 n mm σ v3 v4 v5 v6 v7 v8) := by
  intro mm
  induction mm with
  | zero =>
    intros
    exact pj_none
  | succ mm ih =>
    intro σ v3 v4 v5 v6 v7 v8  h
    unfold cs_Face_who_58
    refine pj_kk (fun ck_v5 => ?_)
    refine pj_kk (fun ck_v6 => ?_)
    refine pj_if ?_ ?_
    · exact pj_some h
    · refine pj_cd (cj_Lines_kind_N h) (fun s_33 r_34 hs_33 => ?_)
      refine pj_if ?_ ?_
      · refine pj_cd (cj_Lines_cell_N hs_33) (fun s_39 r_40 hs_39 => ?_)
        refine pj_if ?_ ?_
        · refine pj_cd (cj_Play_run_B_N hs_39) (fun s_45 _ hs_45 => ?_)
          refine pj_cd (cj_Play_tally hs_45) (fun s_49 r_50 hs_49 => ?_)
          refine pj_if ?_ ?_
          · exact pj_some hs_49
          · refine pj_ltE ?_
            exact ih _ _ _ _ _ _ _ hs_49
        · refine pj_ltE ?_
          exact ih _ _ _ _ _ _ _ hs_39
      · refine pj_ltE ?_
        exact ih _ _ _ _ _ _ _ hs_33
theorem cj_Face_who {n : Nat} {σ : gb_S} {p1 : Int32} {p2 : Int32} {p3 : Int32} {p4 : Int32} (h : gb_JJ σ) : gb_pj (cs_Face_who n σ p1 p2 p3 p4) := by
  unfold cs_Face_who
  refine pj_cd (cj_Face_borderAt h) (fun s_1 r_2 hs_1 => ?_)
  refine pj_if ?_ ?_
  · refine pj_cd (cj_Face_nightAt hs_1) (fun s_6 r_7 hs_6 => ?_)
    refine pj_if ?_ ?_
    · exact pj_some hs_6
    · refine pj_kk (fun ck_r_7 => ?_)
      exact pj_some hs_6
  · refine pj_kk (fun ck_r_2 => ?_)
    refine pj_cd (cj_Face_nightAt hs_1) (fun s_13 r_14 hs_13 => ?_)
    refine pj_if ?_ ?_
    · exact pj_some hs_13
    · refine pj_kk (fun ck_r_14 => ?_)
      refine pj_cd (cj_Border_hasPath_B hs_13) (fun s_19 r_20 hs_19 => ?_)
      refine pj_if ?_ ?_
      · exact pj_some hs_19
      · refine pj_cd (cj_Face_playedOut_B_N hs_19) (fun s_24 r_25 hs_24 => ?_)
        refine pj_if ?_ ?_
        · exact pj_some hs_24
        · refine pj_ltV (fun x_29 => ?_)
          exact cj_Face_who_58 _ _ _ _ _ _ _ _ hs_24
theorem cj_Lines_size {n : Nat} {σ : gb_S} (h : gb_JJ σ) : gb_pj (cs_Lines_size n σ) := by
  unfold cs_Lines_size
  refine pj_ltV (fun x_1 => ?_)
  exact pj_some h
theorem cj_Night_changeWithNext_31 {n : Nat} : ∀ (mm : Nat) (σ : gb_S) (v2 : Int32) (v3 : Int32) (v4 : Int32), gb_JJ σ → gb_pj (cs_Night_changeWithNext_31 n mm σ v2 v3 v4) := by
  intro mm
  induction mm with
  | zero =>
    intros
    exact pj_none
  | succ mm ih =>
    intro σ v2 v3 v4  h
    unfold cs_Night_changeWithNext_31
    refine pj_if ?_ ?_
    · exact pj_some h
    · refine pj_ck ?_
      refine pj_ltV (fun x_11 => ?_)
      refine pj_ck ?_
      refine pj_ltV (fun x_13 => ?_)
      refine pj_ck ?_
      refine pj_ltS (js_su h) (fun s_15 hs_15 => ?_)
      refine pj_ck ?_
      refine pj_ltS (js_su hs_15) (fun s_17 hs_17 => ?_)
      refine pj_ltE ?_
      exact ih _ _ _ _ hs_17
theorem cj_Night_changeWithNext {n : Nat} {σ : gb_S} {p1 : Int32} (h : gb_JJ σ) : gb_pj (cs_Night_changeWithNext n σ p1) := by
  unfold cs_Night_changeWithNext
  refine pj_if ?_ ?_
  · exact pj_some h
  · refine pj_cd (cj_Lines_size h) (fun s_2 r_3 hs_2 => ?_)
    refine pj_if ?_ ?_
    · refine pj_ltE ?_
      refine pj_ltE ?_
      exact cj_Night_changeWithNext_31 _ _ _ _ _ hs_2
    · exact pj_some hs_2
theorem cj_Lines_cell {n : Nat} {σ : gb_S} {p1 : Int32} {p2 : Int32} (h : gb_JJ σ) : gb_pj (cs_Lines_cell n σ p1 p2) := by
  unfold cs_Lines_cell
  refine pj_ck ?_
  refine pj_ltV (fun x_2 => ?_)
  exact pj_some h
theorem cj_Lines_kind {n : Nat} {σ : gb_S} {p1 : Int32} (h : gb_JJ σ) : gb_pj (cs_Lines_kind n σ p1) := by
  unfold cs_Lines_kind
  refine pj_cd (cj_Lines_cell h) (fun s_1 r_2 hs_1 => ?_)
  exact pj_some hs_1
theorem cj_Play_canBe_c104 {n : Nat} {σ : gb_S} {p2 : Int32} (h : gb_JJ σ) : gb_pj (cs_Play_canBe_c104 n σ p2) := by
  unfold cs_Play_canBe_c104
  refine pj_cd (cj_Lines_cell h) (fun s_1 r_2 hs_1 => ?_)
  refine pj_cd (cj_Lines_cell hs_1) (fun s_5 r_6 hs_5 => ?_)
  refine pj_cd (cj_Lines_kind hs_5) (fun s_9 r_10 hs_9 => ?_)
  refine pj_if ?_ ?_
  · refine pj_cd (cj_Play_stands hs_9) (fun s_14 r_15 hs_14 => ?_)
    refine pj_if ?_ ?_
    · exact pj_some hs_14
    · refine pj_kk (fun _ => ?_)
      refine pj_cd (cj_Border_hasPath_B hs_14) (fun s_20 r_21 hs_20 => ?_)
      refine pj_if ?_ ?_
      · exact pj_some hs_20
      · exact pj_some hs_20
  · refine pj_if ?_ ?_
    · refine pj_cd (cj_Play_stands hs_9) (fun s_26 r_27 hs_26 => ?_)
      refine pj_if ?_ ?_
      · exact pj_some hs_26
      · refine pj_kk (fun _ => ?_)
        refine pj_cd (cj_Border_hasPath_B hs_26) (fun s_32 r_33 hs_32 => ?_)
        refine pj_if ?_ ?_
        · exact pj_some hs_32
        · exact pj_some hs_32
    · refine pj_if ?_ ?_
      · refine pj_cd (cj_Play_stands hs_9) (fun s_38 r_39 hs_38 => ?_)
        refine pj_if ?_ ?_
        · exact pj_some hs_38
        · refine pj_kk (fun _ => ?_)
          refine pj_cd (cj_Border_hasPath_B hs_38) (fun s_44 r_45 hs_44 => ?_)
          refine pj_if ?_ ?_
          · exact pj_some hs_44
          · exact pj_some hs_44
      · refine pj_if ?_ ?_
        · refine pj_cd (cj_Play_stands hs_9) (fun s_50 r_51 hs_50 => ?_)
          refine pj_if ?_ ?_
          · exact pj_some hs_50
          · refine pj_cd (cj_Play_stands hs_50) (fun s_55 r_56 hs_55 => ?_)
            refine pj_if ?_ ?_
            · exact pj_some hs_55
            · refine pj_kk (fun _ => ?_)
              refine pj_cd (cj_Lines_cell hs_55) (fun s_61 r_62 hs_61 => ?_)
              refine pj_cd (cj_Border_hasPath_B hs_61) (fun s_65 r_66 hs_65 => ?_)
              refine pj_if ?_ ?_
              · exact pj_some hs_65
              · exact pj_some hs_65
        · refine pj_if ?_ ?_
          · refine pj_cd (cj_Play_stands hs_9) (fun s_71 r_72 hs_71 => ?_)
            refine pj_if ?_ ?_
            · refine pj_cd (cj_Play_stands hs_71) (fun s_76 r_77 hs_76 => ?_)
              refine pj_if ?_ ?_
              · exact pj_some hs_76
              · exact pj_some hs_76
            · exact pj_some hs_71
          · refine pj_if ?_ ?_
            · exact pj_some hs_9
            · refine pj_if ?_ ?_
              · exact pj_some hs_9
              · refine pj_if ?_ ?_
                · exact pj_some hs_9
                · refine pj_if ?_ ?_
                  · refine pj_kk (fun _ => ?_)
                    refine pj_cd (cj_Border_hasPath_B hs_9) (fun s_86 r_87 hs_86 => ?_)
                    refine pj_if ?_ ?_
                    · exact pj_some hs_86
                    · refine pj_cd (cj_Play_latestGoer hs_86) (fun s_91 r_92 hs_91 => ?_)
                      refine pj_if ?_ ?_
                      · exact pj_some hs_91
                      · exact pj_some hs_91
                  · exact pj_some hs_9
theorem cj_Play_doDeed_c104 {n : Nat} {σ : gb_S} {p2 : Int32} {p3 : Int32} (h : gb_JJ σ) : gb_pj (cs_Play_doDeed_c104 n σ p2 p3) := by
  unfold cs_Play_doDeed_c104
  refine pj_cd (cj_Lines_cell h) (fun s_1 r_2 hs_1 => ?_)
  refine pj_cd (cj_Lines_cell hs_1) (fun s_5 r_6 hs_5 => ?_)
  refine pj_cd (cj_Lines_kind hs_5) (fun s_9 r_10 hs_9 => ?_)
  refine pj_if ?_ ?_
  · refine pj_if ?_ ?_
    · refine pj_cd (cj_Play_go_n hs_9) (fun s_15 _ hs_15 => ?_)
      exact pj_some hs_15
    · refine pj_cd (cj_Play_go_c116 hs_9) (fun s_19 _ hs_19 => ?_)
      exact pj_some hs_19
  · refine pj_if ?_ ?_
    · refine pj_cd (cj_Play_go_c117 hs_9) (fun s_24 _ hs_24 => ?_)
      exact pj_some hs_24
    · refine pj_if ?_ ?_
      · refine pj_cd (cj_Play_go_c117 hs_9) (fun s_29 _ hs_29 => ?_)
        exact pj_some hs_29
      · refine pj_if ?_ ?_
        · refine pj_cd (cj_Lines_cell hs_9) (fun s_34 r_35 hs_34 => ?_)
          refine pj_cd (cj_Play_go_c116 hs_34) (fun s_38 _ hs_38 => ?_)
          refine pj_ck ?_
          refine pj_ltS (js_su hs_38) (fun s_43 hs_43 => ?_)
          refine pj_cd (cj_Lines_cell hs_43) (fun s_44 r_45 hs_44 => ?_)
          refine pj_ck ?_
          refine pj_ltS (js_su hs_44) (fun s_49 hs_49 => ?_)
          exact pj_some hs_49
        · refine pj_if ?_ ?_
          · refine pj_ck ?_
            refine pj_ltS (js_su hs_9) (fun s_52 hs_52 => ?_)
            refine pj_ltS (js_su hs_52) (fun s_53 hs_53 => ?_)
            exact pj_some hs_53
          · refine pj_if ?_ ?_
            · refine pj_cd (cj_Play_rainDown hs_9) (fun s_55 _ hs_55 => ?_)
              exact pj_some hs_55
            · refine pj_if ?_ ?_
              · refine pj_ltS (js_su hs_9) (fun s_60 hs_60 => ?_)
                exact pj_some hs_60
              · refine pj_if ?_ ?_
                · refine pj_ltS (js_su hs_9) (fun s_62 hs_62 => ?_)
                  exact pj_some hs_62
                · refine pj_if ?_ ?_
                  · refine pj_cd (cj_Play_latestGoer hs_9) (fun s_64 r_65 hs_64 => ?_)
                    refine pj_cd (cj_Play_eat hs_64) (fun s_68 _ hs_68 => ?_)
                    exact pj_some hs_68
                  · exact pj_some hs_9
theorem cj_Play_run_B_c104_18 {n : Nat} : ∀ (mm : Nat) (σ : gb_S) (v4 : Int32) (v5 : Int32) (v6 : Int32), gb_JJ σ → gb_pj (cs_Play_run_B_c104_18 n mm σ v4 v5 v6) := by
  intro mm
  induction mm with
  | zero =>
    intros
    exact pj_none
  | succ mm ih =>
    intro σ v4 v5 v6  h
    unfold cs_Play_run_B_c104_18
    refine pj_if ?_ ?_
    · exact pj_some h
    · refine pj_cd (cj_Play_canBe_c104 h) (fun s_12 r_13 hs_12 => ?_)
      refine pj_if ?_ ?_
      · exact pj_some hs_12
      · refine pj_if ?_ ?_
        · refine pj_cd (cj_Play_doDeed_c104 hs_12) (fun s_18 _ hs_18 => ?_)
          refine pj_ltS (js_su hs_18) (fun s_22 hs_22 => ?_)
          refine pj_ltE ?_
          exact ih _ _ _ _ hs_22
        · refine pj_cd (cj_Play_doDeed_c104 hs_12) (fun s_24 _ hs_24 => ?_)
          refine pj_ltS (js_su hs_24) (fun s_28 hs_28 => ?_)
          refine pj_ltE ?_
          exact ih _ _ _ _ hs_28
theorem cj_Play_run_B_c104 {n : Nat} {σ : gb_S} {p1 : Nat} {p3 : Int32} {p4 : Int32} (h : gb_JJ σ) : gb_pj (cs_Play_run_B_c104 n σ p1 p3 p4) := by
  unfold cs_Play_run_B_c104
  refine pj_kk (fun ck_p1 => ?_)
  refine pj_cd (cj_Play_begin_B h) (fun s_2 _ hs_2 => ?_)
  refine pj_cd (cj_Lines_size hs_2) (fun s_6 r_7 hs_6 => ?_)
  refine pj_ltV (fun x_10 => ?_)
  exact cj_Play_run_B_c104_18 _ _ _ _ _ hs_6
theorem cj_Face_shift_61 {n : Nat} : ∀ (mm : Nat) (σ : gb_S) (v3 : Int32) (v4 : Nat) (v5 : Nat) (v6 : Int32) (v7 : Int32) (v8 : Int32) (v9 : Int32), gb_JJ σ → gb_pj (cs_Face_shift_61 n mm σ v3 v4 v5 v6 v7 v8 v9) := by
  intro mm
  induction mm with
  | zero =>
    intros
    exact pj_none
  | succ mm ih =>
    intro σ v3 v4 v5 v6 v7 v8 v9  h
    unfold cs_Face_shift_61
    refine pj_kk (fun ck_v4 => ?_)
    refine pj_kk (fun ck_v5 => ?_)
    refine pj_if ?_ ?_
    · refine pj_if ?_ ?_
      · exact pj_some h
      · refine pj_if ?_ ?_
        · exact pj_some h
        · exact pj_some h
    · refine pj_cd (cj_Sheet_copyFrom_N_N h) (fun s_34 _ hs_34 => ?_)
      refine pj_cd (cj_Night_changeWithNext hs_34) (fun s_38 _ hs_38 => ?_)
      refine pj_cd (cj_Lines_size hs_38) (fun s_42 r_43 hs_42 => ?_)
      refine pj_cd (cj_Play_run_B_c104 hs_42) (fun s_46 _ hs_46 => ?_)
      refine pj_if ?_ ?_
      · refine pj_ltE ?_
        exact ih _ _ _ _ _ _ _ _ hs_46
      · refine pj_cd (cj_Play_allPay hs_46) (fun s_52 r_53 hs_52 => ?_)
        refine pj_if ?_ ?_
        · refine pj_ltE ?_
          exact ih _ _ _ _ _ _ _ _ hs_52
        · refine pj_cd (cj_Play_allPay hs_52) (fun s_58 r_59 hs_58 => ?_)
          refine pj_ltE ?_
          exact ih _ _ _ _ _ _ _ _ hs_58
theorem cj_Face_shift {n : Nat} {σ : gb_S} {p1 : Int32} {p2 : Int32} {p3 : Int32} (h : gb_JJ σ) : gb_pj (cs_Face_shift n σ p1 p2 p3) := by
  unfold cs_Face_shift
  refine pj_cd (cj_Face_borderAt h) (fun s_1 r_2 hs_1 => ?_)
  refine pj_if ?_ ?_
  · refine pj_cd (cj_Face_nightAt hs_1) (fun s_6 r_7 hs_6 => ?_)
    refine pj_if ?_ ?_
    · exact pj_some hs_6
    · refine pj_kk (fun ck_r_7 => ?_)
      exact pj_some hs_6
  · refine pj_kk (fun ck_r_2 => ?_)
    refine pj_cd (cj_Face_nightAt hs_1) (fun s_13 r_14 hs_13 => ?_)
    refine pj_if ?_ ?_
    · exact pj_some hs_13
    · refine pj_kk (fun ck_r_14 => ?_)
      refine pj_cd (cj_Face_playedOut_B_N hs_13) (fun s_19 r_20 hs_19 => ?_)
      refine pj_if ?_ ?_
      · exact pj_some hs_19
      · refine pj_ltV (fun x_24 => ?_)
        refine pj_cd (cj_Play_allPay hs_19) (fun s_25 r_26 hs_25 => ?_)
        exact cj_Face_shift_61 _ _ _ _ _ _ _ _ _ hs_25
theorem cj_Sharing_canShare_B {n : Nat} {σ : gb_S} {p1 : Nat} (h : gb_JJ σ) : gb_pj (cs_Sharing_canShare_B n σ p1) := by
  unfold cs_Sharing_canShare_B
  refine pj_kk (fun ck_p1 => ?_)
  refine pj_cd (cj_Border_paths_B h) (fun s_2 r_3 hs_2 => ?_)
  refine pj_if ?_ ?_
  · exact pj_some hs_2
  · refine pj_cd (cj_Border_geese_B hs_2) (fun s_7 r_8 hs_7 => ?_)
    refine pj_if ?_ ?_
    · exact pj_some hs_7
    · exact pj_some hs_7
theorem cj_Sharing_payAnew {n : Nat} {σ : gb_S} {p1 : Int32} (h : gb_JJ σ) : gb_pj (cs_Sharing_payAnew n σ p1) := by
  unfold cs_Sharing_payAnew
  refine pj_if ?_ ?_
  · refine pj_kk (fun _ => ?_)
    refine pj_ck ?_
    refine pj_ltV (fun x_4 => ?_)
    refine pj_cd (cj_Border_payOf_B h) (fun s_5 r_6 hs_5 => ?_)
    refine pj_ck ?_
    refine pj_ltS (js_su hs_5) (fun s_10 hs_10 => ?_)
    exact pj_some hs_10
  · refine pj_kk (fun _ => ?_)
    refine pj_if ?_ ?_
    · refine pj_kk (fun _ => ?_)
      refine pj_ck ?_
      refine pj_ltV (fun x_15 => ?_)
      refine pj_cd (cj_Border_padded_B h) (fun s_16 r_17 hs_16 => ?_)
      exact pj_none
    · refine pj_kk (fun _ => ?_)
      refine pj_kk (fun _ => ?_)
      refine pj_ck ?_
      refine pj_ltV (fun x_23 => ?_)
      refine pj_cd (cj_Border_padded_B h) (fun s_24 r_25 hs_24 => ?_)
      refine pj_cd (cj_Law_payFor_L hs_24) (fun s_28 r_29 hs_28 => ?_)
      refine pj_ck ?_
      refine pj_ltS (js_su hs_28) (fun s_33 hs_33 => ?_)
      exact pj_some hs_33
theorem cj_Sharing_begin_B_n_177 {n : Nat} : ∀ (mm : Nat) (σ : gb_S) (v4 : Int32), gb_JJ σ → gb_pj (cs_Sharing_begin_B_n_177 n mm σ v4) := by
  intro mm
  induction mm with
  | zero =>
    intros
    exact pj_none
  | succ mm ih =>
    intro σ v4  h
    unfold cs_Sharing_begin_B_n_177
    refine pj_if ?_ ?_
    · exact pj_some h
    · refine pj_ck ?_
      refine pj_ltV (fun x_19 => ?_)
      refine pj_cd (cj_Sharing_payAnew h) (fun s_20 _ hs_20 => ?_)
      refine pj_ltE ?_
      exact ih _ _ hs_20
theorem cj_Sharing_begin_B_n_97 {n : Nat} {k74 : gb_S → Int32 → gb_CR Unit} (h_k74 : ∀ (s : gb_S) (x1 : Int32), gb_JJ s → gb_pj (k74 s x1)) : ∀ (mm : Nat) (σ : gb_S) (v4 : Int32) (v5 : Int32), gb_JJ σ → gb_pj (cs_Sharing_begin_B_n_97 n k74 mm σ v4 v5) := by
  intro mm
  induction mm with
  | zero =>
    intros
    exact pj_none
  | succ mm ih =>
    intro σ v4 v5  h
    unfold cs_Sharing_begin_B_n_97
    refine pj_kk (fun _ => ?_)
    refine pj_cd (cj_Border_paths_B h) (fun s_28 r_29 hs_28 => ?_)
    refine pj_if ?_ ?_
    · refine pj_ltV (fun x_33 => ?_)
      refine pj_ck ?_
      refine pj_ltV (fun x_35 => ?_)
      refine pj_ltV (fun x_36 => ?_)
      refine pj_ck ?_
      refine pj_ltV (fun x_38 => ?_)
      refine pj_ck ?_
      refine pj_ltS (js_su hs_28) (fun s_40 hs_40 => ?_)
      refine pj_ltE ?_
      exact h_k74 _ _ hs_40
    · refine pj_kk (fun _ => ?_)
      refine pj_cd (cj_Border_marksFirst_B hs_28) (fun s_43 r_44 hs_43 => ?_)
      refine pj_ck ?_
      refine pj_ltS (js_su hs_43) (fun s_48 hs_48 => ?_)
      refine pj_ltE ?_
      exact ih _ _ _ hs_48
theorem cj_Sharing_begin_B_n_74 {n : Nat} : ∀ (mm : Nat) (σ : gb_S) (v4 : Int32), gb_JJ σ → gb_pj (cs_Sharing_begin_B_n_74 n mm σ v4) := by
  intro mm
  induction mm with
  | zero =>
    intros
    exact pj_none
  | succ mm ih =>
    intro σ v4  h
    unfold cs_Sharing_begin_B_n_74
    refine pj_kk (fun _ => ?_)
    refine pj_cd (cj_Border_geese_B h) (fun s_12 r_13 hs_12 => ?_)
    refine pj_if ?_ ?_
    · exact cj_Sharing_begin_B_n_177 _ _ _ hs_12
    · refine pj_ck ?_
      refine pj_ltS (js_su hs_12) (fun s_26 hs_26 => ?_)
      refine cj_Sharing_begin_B_n_97 ?_ _ _ _ _ hs_26
      · intro σ v4 hσ
        exact ih _ _ hσ
theorem cj_Sharing_begin_B_n_18 {n : Nat} : ∀ (mm : Nat) (σ : gb_S) (v3 : Int32) (v4 : Int32), gb_JJ σ → gb_pj (cs_Sharing_begin_B_n_18 n mm σ v3 v4) := by
  intro mm
  induction mm with
  | zero =>
    intros
    exact pj_none
  | succ mm ih =>
    intro σ v3 v4  h
    unfold cs_Sharing_begin_B_n_18
    refine pj_kk (fun _ => ?_)
    refine pj_cd (cj_Border_paths_B h) (fun s_6 r_7 hs_6 => ?_)
    refine pj_if ?_ ?_
    · exact cj_Sharing_begin_B_n_74 _ _ _ hs_6
    · refine pj_ck ?_
      refine pj_ltS (js_su hs_6) (fun s_51 hs_51 => ?_)
      refine pj_if ?_ ?_
      · refine pj_ltE ?_
        exact ih _ _ _ hs_51
      · refine pj_ck ?_
        refine pj_ltS (js_su hs_51) (fun s_55 hs_55 => ?_)
        refine pj_ltS (js_su hs_55) (fun s_56 hs_56 => ?_)
        refine pj_ltE ?_
        exact ih _ _ _ hs_56
theorem cj_Sharing_begin_B_n {n : Nat} {σ : gb_S} {p1 : Nat} {p3 : Int32} (h : gb_JJ σ) : gb_pj (cs_Sharing_begin_B_n n σ p1 p3) := by
  unfold cs_Sharing_begin_B_n
  refine pj_kk (fun ck_p1 => ?_)
  refine pj_ltS (js_sq (by decide) h) (fun s_2 hs_2 => ?_)
  refine pj_ltS (js_sq (by decide) hs_2) (fun s_3 hs_3 => ?_)
  refine pj_ltS (js_su hs_3) (fun s_4 hs_4 => ?_)
  exact cj_Sharing_begin_B_n_18 _ _ _ _ hs_4
theorem cj_Sharing_spread_16 {n : Nat} : ∀ (mm : Nat) (σ : gb_S) (v1 : Int32) (v2 : Int32) (v3 : Int32), gb_JJ σ → gb_pj (cs_Sharing_spread_16 n mm σ v1 v2 v3) := by
  intro mm
  induction mm with
  | zero =>
    intros
    exact pj_none
  | succ mm ih =>
    intro σ v1 v2 v3  h
    unfold cs_Sharing_spread_16
    refine pj_if ?_ ?_
    · exact pj_some h
    · refine pj_ck ?_
      refine pj_ltV (fun x_6 => ?_)
      refine pj_ck ?_
      refine pj_ltV (fun x_8 => ?_)
      refine pj_ltV (fun x_9 => ?_)
      refine pj_ck ?_
      refine pj_ltV (fun x_11 => ?_)
      refine pj_ck ?_
      refine pj_ltV (fun x_13 => ?_)
      refine pj_ltV (fun x_14 => ?_)
      refine pj_ltE ?_
      exact ih _ _ _ _ h
theorem cj_Sharing_spread {n : Nat} {σ : gb_S} (h : gb_JJ σ) : gb_pj (cs_Sharing_spread n σ) := by
  unfold cs_Sharing_spread
  refine pj_ltV (fun x_1 => ?_)
  refine pj_ck ?_
  refine pj_ltV (fun x_3 => ?_)
  exact cj_Sharing_spread_16 _ _ _ _ _ h
theorem cj_Sharing_keepRow_2 {n : Nat} : ∀ (mm : Nat) (σ : gb_S) (v1 : Int32), gb_JJ σ → gb_pj (cs_Sharing_keepRow_2 n mm σ v1) := by
  intro mm
  induction mm with
  | zero =>
    intros
    exact pj_none
  | succ mm ih =>
    intro σ v1  h
    unfold cs_Sharing_keepRow_2
    refine pj_kk (fun _ => ?_)
    refine pj_cd (cj_Border_geese_B h) (fun s_2 r_3 hs_2 => ?_)
    refine pj_if ?_ ?_
    · refine pj_ac ?_
      refine pj_ltS (js_su hs_2) (fun s_8 hs_8 => ?_)
      exact pj_some hs_8
    · refine pj_ck ?_
      refine pj_ltV (fun x_10 => ?_)
      refine pj_ck ?_
      refine pj_ltV (fun x_12 => ?_)
      refine pj_ck ?_
      refine pj_ltS (js_su hs_2) (fun s_14 hs_14 => ?_)
      refine pj_ltE ?_
      exact ih _ _ hs_14
theorem cj_Sharing_keepRow {n : Nat} {σ : gb_S} (h : gb_JJ σ) : gb_pj (cs_Sharing_keepRow n σ) := by
  unfold cs_Sharing_keepRow
  exact cj_Sharing_keepRow_2 _ _ _ h
theorem cj_Sharing_advance_68 {n : Nat} {k10 : gb_S → Int32 → gb_CR Unit} {σ : gb_S} {v1 : Int32} {v2 : Int32} {v3 : Int32} {t0 : Int32} {t1 : Int32} (h_k10 : ∀ (s : gb_S) (x1 : Int32), gb_JJ s → gb_pj (k10 s x1)) (h : gb_JJ σ) : gb_pj (cs_Sharing_advance_68 n k10 σ v1 v2 v3 t0 t1) := by
  unfold cs_Sharing_advance_68
  refine pj_ck ?_
  refine pj_ltS (js_su h) (fun s_19 hs_19 => ?_)
  refine pj_ck ?_
  refine pj_ltV (fun x_21 => ?_)
  refine pj_ck ?_
  refine pj_ltV (fun x_23 => ?_)
  refine pj_ck ?_
  refine pj_ltV (fun x_25 => ?_)
  refine pj_ck ?_
  refine pj_ltV (fun x_27 => ?_)
  refine pj_ck ?_
  refine pj_ltS (js_su hs_19) (fun s_29 hs_29 => ?_)
  refine pj_ck ?_
  refine pj_ltV (fun x_31 => ?_)
  refine pj_ck ?_
  refine pj_ltV (fun x_33 => ?_)
  refine pj_ck ?_
  refine pj_ltS (js_su hs_29) (fun s_35 hs_35 => ?_)
  refine pj_cd (cj_Sharing_payAnew hs_35) (fun s_36 _ hs_36 => ?_)
  refine pj_cd (cj_Sharing_payAnew hs_36) (fun s_40 _ hs_40 => ?_)
  refine pj_if ?_ ?_
  · exact pj_some hs_40
  · refine pj_ltE ?_
    exact h_k10 _ _ hs_40
theorem cj_Sharing_advance_46 {n : Nat} {k10 : gb_S → Int32 → gb_CR Unit} {σ : gb_S} {v1 : Int32} {v2 : Int32} {t0 : Int32} (h_k10 : ∀ (s : gb_S) (x1 : Int32), gb_JJ s → gb_pj (k10 s x1)) (h : gb_JJ σ) : gb_pj (cs_Sharing_advance_46 n k10 σ v1 v2 t0) := by
  unfold cs_Sharing_advance_46
  refine pj_if ?_ ?_
  · refine pj_ck ?_
    refine pj_ltV (fun x_17 => ?_)
    exact cj_Sharing_advance_68 h_k10 h
  · exact cj_Sharing_advance_68 h_k10 h
theorem cj_Sharing_advance_10 {n : Nat} : ∀ (mm : Nat) (σ : gb_S) (v1 : Int32), gb_JJ σ → gb_pj (cs_Sharing_advance_10 n mm σ v1) := by
  intro mm
  induction mm with
  | zero =>
    intros
    exact pj_none
  | succ mm ih =>
    intro σ v1  h
    unfold cs_Sharing_advance_10
    refine pj_if ?_ ?_
    · exact pj_some h
    · refine pj_ck ?_
      refine pj_ltV (fun x_9 => ?_)
      refine pj_ck ?_
      refine pj_ltV (fun x_11 => ?_)
      refine pj_ck ?_
      refine pj_ltV (fun x_13 => ?_)
      refine pj_if ?_ ?_
      · refine cj_Sharing_advance_46 ?_ h
        · intro σ v1 hσ
          exact ih _ _ hσ
      · refine cj_Sharing_advance_46 ?_ h
        · intro σ v1 hσ
          exact ih _ _ hσ
theorem cj_Sharing_advance {n : Nat} {σ : gb_S} (h : gb_JJ σ) : gb_pj (cs_Sharing_advance n σ) := by
  unfold cs_Sharing_advance
  refine pj_kk (fun _ => ?_)
  refine pj_cd (cj_Border_geese_B h) (fun s_2 r_3 hs_2 => ?_)
  refine pj_ltE ?_
  exact cj_Sharing_advance_10 _ _ _ hs_2
theorem cj_Sharing_together_4 {n : Nat} : ∀ (mm : Nat) (σ : gb_S) (v1 : Int32) (v2 : Int32), gb_JJ σ → gb_pj (cs_Sharing_together_4 n mm σ v1 v2) := by
  intro mm
  induction mm with
  | zero =>
    intros
    exact pj_none
  | succ mm ih =>
    intro σ v1 v2  h
    unfold cs_Sharing_together_4
    refine pj_if ?_ ?_
    · exact pj_some h
    · refine pj_ck ?_
      refine pj_ltV (fun x_3 => ?_)
      refine pj_ck ?_
      refine pj_ltV (fun x_5 => ?_)
      refine pj_ltE ?_
      refine pj_ltE ?_
      exact ih _ _ _ h
theorem cj_Sharing_together {n : Nat} {σ : gb_S} (h : gb_JJ σ) : gb_pj (cs_Sharing_together n σ) := by
  unfold cs_Sharing_together
  exact cj_Sharing_together_4 _ _ _ _ h
theorem cj_Sharing_solve_B_n_74 {n : Nat} {k48 : gb_S → Int32 → Int32 → gb_CR Unit} {σ : gb_S} {v4 : Int32} {v5 : Int32} {t0 : Int32} (h_k48 : ∀ (s : gb_S) (x1 : Int32) (x2 : Int32), gb_JJ s → gb_pj (k48 s x1 x2)) (h : gb_JJ σ) : gb_pj (cs_Sharing_solve_B_n_74 n k48 σ v4 v5 t0) := by
  unfold cs_Sharing_solve_B_n_74
  refine pj_if ?_ ?_
  · refine pj_ltS (js_su h) (fun s_20 hs_20 => ?_)
    refine pj_cd (cj_Sharing_keepRow hs_20) (fun s_21 _ hs_21 => ?_)
    refine pj_cd (cj_Sharing_advance hs_21) (fun s_25 _ hs_25 => ?_)
    refine pj_ltE ?_
    exact h_k48 _ _ _ hs_25
  · refine pj_if ?_ ?_
    · refine pj_cd (cj_Sharing_advance h) (fun s_31 _ hs_31 => ?_)
      refine pj_ltE ?_
      exact h_k48 _ _ _ hs_31
    · refine pj_ltS (js_su h) (fun s_36 hs_36 => ?_)
      refine pj_cd (cj_Sharing_keepRow hs_36) (fun s_37 _ hs_37 => ?_)
      refine pj_cd (cj_Sharing_advance hs_37) (fun s_41 _ hs_41 => ?_)
      refine pj_ltE ?_
      exact h_k48 _ _ _ hs_41
theorem cj_Sharing_solve_B_n_48 {n : Nat} : ∀ (mm : Nat) (σ : gb_S) (v4 : Int32) (v5 : Int32), gb_JJ σ → gb_pj (cs_Sharing_solve_B_n_48 n mm σ v4 v5) := by
  intro mm
  induction mm with
  | zero =>
    intros
    exact pj_none
  | succ mm ih =>
    intro σ v4 v5  h
    unfold cs_Sharing_solve_B_n_48
    refine pj_if ?_ ?_
    · exact pj_some h
    · refine pj_if ?_ ?_
      · refine pj_cd (cj_Sharing_spread h) (fun s_15 r_16 hs_15 => ?_)
        refine cj_Sharing_solve_B_n_74 ?_ hs_15
        · intro σ v4 v5 hσ
          exact ih _ _ _ hσ
      · refine pj_kk (fun _ => ?_)
        refine pj_cd (cj_Sharing_together h) (fun s_47 r_48 hs_47 => ?_)
        refine cj_Sharing_solve_B_n_74 ?_ hs_47
        · intro σ v4 v5 hσ
          exact ih _ _ _ hσ
theorem cj_Sharing_solve_B_n_18 {n : Nat} : ∀ (mm : Nat) (σ : gb_S) (v4 : Int32) (v5 : Int32), gb_JJ σ → gb_pj (cs_Sharing_solve_B_n_18 n mm σ v4 v5) := by
  intro mm
  induction mm with
  | zero =>
    intros
    exact pj_none
  | succ mm ih =>
    intro σ v4 v5  h
    unfold cs_Sharing_solve_B_n_18
    refine pj_kk (fun _ => ?_)
    refine pj_cd (cj_Border_geese_B h) (fun s_8 r_9 hs_8 => ?_)
    refine pj_if ?_ ?_
    · exact cj_Sharing_solve_B_n_48 _ _ _ _ hs_8
    · refine pj_ltE ?_
      refine pj_ltE ?_
      exact ih _ _ _ hs_8
theorem cj_Sharing_solve_B_n {n : Nat} {σ : gb_S} {p1 : Nat} {p3 : Int32} (h : gb_JJ σ) : gb_pj (cs_Sharing_solve_B_n n σ p1 p3) := by
  unfold cs_Sharing_solve_B_n
  refine pj_kk (fun ck_p1 => ?_)
  refine pj_cd (cj_Sharing_begin_B_n h) (fun s_2 _ hs_2 => ?_)
  refine pj_ltS (js_su hs_2) (fun s_6 hs_6 => ?_)
  exact cj_Sharing_solve_B_n_18 _ _ _ _ hs_6
theorem cj_Sharing_difference {n : Nat} {σ : gb_S} (h : gb_JJ σ) : gb_pj (cs_Sharing_difference n σ) := by
  unfold cs_Sharing_difference
  exact pj_some h
theorem cj_Face_even_82 {n : Nat} {σ : gb_S} {v2 : Int32} {v3 : Nat} (h : gb_JJ σ) : gb_pj (cs_Face_even_82 n σ v2 v3) := by
  unfold cs_Face_even_82
  refine pj_kk (fun ck_v3 => ?_)
  refine pj_cd (cj_Sharing_solve_B_n h) (fun s_16 _ hs_16 => ?_)
  refine pj_if ?_ ?_
  · refine pj_cd (cj_Sharing_difference hs_16) (fun s_23 r_24 hs_23 => ?_)
    exact pj_some hs_23
  · refine pj_ck ?_
    refine pj_ltV (fun x_22 => ?_)
    exact pj_some hs_16
theorem cj_Face_even_59 {n : Nat} {σ : gb_S} {v2 : Int32} {v3 : Nat} (h : gb_JJ σ) : gb_pj (cs_Face_even_59 n σ v2 v3) := by
  unfold cs_Face_even_59
  refine pj_kk (fun ck_v3 => ?_)
  refine pj_if ?_ ?_
  · exact cj_Face_even_82 h
  · refine pj_if ?_ ?_
    · exact pj_some h
    · refine pj_cd (cj_Border_geese_B h) (fun s_28 r_29 hs_28 => ?_)
      refine pj_if ?_ ?_
      · exact cj_Face_even_82 hs_28
      · exact pj_some hs_28
theorem cj_Face_even {n : Nat} {σ : gb_S} {p1 : Int32} {p2 : Int32} (h : gb_JJ σ) : gb_pj (cs_Face_even n σ p1 p2) := by
  unfold cs_Face_even
  refine pj_cd (cj_Face_borderAt h) (fun s_1 r_2 hs_1 => ?_)
  refine pj_if ?_ ?_
  · exact pj_some hs_1
  · refine pj_kk (fun ck_r_2 => ?_)
    refine pj_cd (cj_Sharing_canShare_B hs_1) (fun s_7 r_8 hs_7 => ?_)
    refine pj_if ?_ ?_
    · exact pj_some hs_7
    · refine pj_if ?_ ?_
      · exact cj_Face_even_59 hs_7
      · refine pj_cd (cj_Border_paths_B hs_7) (fun s_33 r_34 hs_33 => ?_)
        refine pj_if ?_ ?_
        · exact cj_Face_even_59 hs_33
        · refine pj_cd (cj_Sharing_solve_B_n hs_33) (fun s_38 _ hs_38 => ?_)
          refine pj_ck ?_
          refine pj_ltV (fun x_43 => ?_)
          exact pj_some hs_38
theorem cj_Sharing_begin_B_L_177 {n : Nat} : ∀ (mm : Nat) (σ : gb_S) (v4 : Int32), gb_JJ σ → gb_pj (cs_Sharing_begin_B_L_177 n mm σ v4) := by
  intro mm
  induction mm with
  | zero =>
    intros
    exact pj_none
  | succ mm ih =>
    intro σ v4  h
    unfold cs_Sharing_begin_B_L_177
    refine pj_if ?_ ?_
    · exact pj_some h
    · refine pj_ck ?_
      refine pj_ltV (fun x_20 => ?_)
      refine pj_cd (cj_Sharing_payAnew h) (fun s_21 _ hs_21 => ?_)
      refine pj_ltE ?_
      exact ih _ _ hs_21
theorem cj_Sharing_begin_B_L_97 {n : Nat} {k74 : gb_S → Int32 → gb_CR Unit} (h_k74 : ∀ (s : gb_S) (x1 : Int32), gb_JJ s → gb_pj (k74 s x1)) : ∀ (mm : Nat) (σ : gb_S) (v4 : Int32) (v5 : Int32), gb_JJ σ → gb_pj (cs_Sharing_begin_B_L_97 n k74 mm σ v4 v5) := by
  intro mm
  induction mm with
  | zero =>
    intros
    exact pj_none
  | succ mm ih =>
    intro σ v4 v5  h
    unfold cs_Sharing_begin_B_L_97
    refine pj_kk (fun _ => ?_)
    refine pj_cd (cj_Border_paths_B h) (fun s_29 r_30 hs_29 => ?_)
    refine pj_if ?_ ?_
    · refine pj_ltV (fun x_34 => ?_)
      refine pj_ck ?_
      refine pj_ltV (fun x_36 => ?_)
      refine pj_ltV (fun x_37 => ?_)
      refine pj_ck ?_
      refine pj_ltV (fun x_39 => ?_)
      refine pj_ck ?_
      refine pj_ltS (js_su hs_29) (fun s_41 hs_41 => ?_)
      refine pj_ltE ?_
      exact h_k74 _ _ hs_41
    · refine pj_kk (fun _ => ?_)
      refine pj_cd (cj_Border_marksFirst_B hs_29) (fun s_44 r_45 hs_44 => ?_)
      refine pj_ck ?_
      refine pj_ltS (js_su hs_44) (fun s_49 hs_49 => ?_)
      refine pj_ltE ?_
      exact ih _ _ _ hs_49
theorem cj_Sharing_begin_B_L_74 {n : Nat} : ∀ (mm : Nat) (σ : gb_S) (v4 : Int32), gb_JJ σ → gb_pj (cs_Sharing_begin_B_L_74 n mm σ v4) := by
  intro mm
  induction mm with
  | zero =>
    intros
    exact pj_none
  | succ mm ih =>
    intro σ v4  h
    unfold cs_Sharing_begin_B_L_74
    refine pj_kk (fun _ => ?_)
    refine pj_cd (cj_Border_geese_B h) (fun s_13 r_14 hs_13 => ?_)
    refine pj_if ?_ ?_
    · exact cj_Sharing_begin_B_L_177 _ _ _ hs_13
    · refine pj_ck ?_
      refine pj_ltS (js_su hs_13) (fun s_27 hs_27 => ?_)
      refine cj_Sharing_begin_B_L_97 ?_ _ _ _ _ hs_27
      · intro σ v4 hσ
        exact ih _ _ hσ
theorem cj_Sharing_begin_B_L_18 {n : Nat} : ∀ (mm : Nat) (σ : gb_S) (v3 : Int32) (v4 : Int32), gb_JJ σ → gb_pj (cs_Sharing_begin_B_L_18 n mm σ v3 v4) := by
  intro mm
  induction mm with
  | zero =>
    intros
    exact pj_none
  | succ mm ih =>
    intro σ v3 v4  h
    unfold cs_Sharing_begin_B_L_18
    refine pj_kk (fun _ => ?_)
    refine pj_cd (cj_Border_paths_B h) (fun s_7 r_8 hs_7 => ?_)
    refine pj_if ?_ ?_
    · exact cj_Sharing_begin_B_L_74 _ _ _ hs_7
    · refine pj_ck ?_
      refine pj_ltS (js_su hs_7) (fun s_52 hs_52 => ?_)
      refine pj_if ?_ ?_
      · refine pj_ltE ?_
        exact ih _ _ _ hs_52
      · refine pj_ck ?_
        refine pj_ltS (js_su hs_52) (fun s_56 hs_56 => ?_)
        refine pj_ltS (js_su hs_56) (fun s_57 hs_57 => ?_)
        refine pj_ltE ?_
        exact ih _ _ _ hs_57
theorem cj_Sharing_begin_B_L {n : Nat} {σ : gb_S} {p1 : Nat} {p2 : Nat} {p3 : Int32} (h : gb_JJ σ) : gb_pj (cs_Sharing_begin_B_L n σ p1 p2 p3) := by
  unfold cs_Sharing_begin_B_L
  refine pj_kk (fun ck_p1 => ?_)
  refine pj_kk (fun ck_p2 => ?_)
  refine pj_ltS (js_sq (by decide) h) (fun s_3 hs_3 => ?_)
  refine pj_ltS (js_sq (by decide) hs_3) (fun s_4 hs_4 => ?_)
  refine pj_ltS (js_su hs_4) (fun s_5 hs_5 => ?_)
  exact cj_Sharing_begin_B_L_18 _ _ _ _ hs_5
theorem cj_Sharing_solve_B_L_74 {n : Nat} {k48 : gb_S → Int32 → Int32 → gb_CR Unit} {σ : gb_S} {v4 : Int32} {v5 : Int32} {t0 : Int32} (h_k48 : ∀ (s : gb_S) (x1 : Int32) (x2 : Int32), gb_JJ s → gb_pj (k48 s x1 x2)) (h : gb_JJ σ) : gb_pj (cs_Sharing_solve_B_L_74 n k48 σ v4 v5 t0) := by
  unfold cs_Sharing_solve_B_L_74
  refine pj_if ?_ ?_
  · refine pj_ltS (js_su h) (fun s_21 hs_21 => ?_)
    refine pj_cd (cj_Sharing_keepRow hs_21) (fun s_22 _ hs_22 => ?_)
    refine pj_cd (cj_Sharing_advance hs_22) (fun s_26 _ hs_26 => ?_)
    refine pj_ltE ?_
    exact h_k48 _ _ _ hs_26
  · refine pj_if ?_ ?_
    · refine pj_cd (cj_Sharing_advance h) (fun s_32 _ hs_32 => ?_)
      refine pj_ltE ?_
      exact h_k48 _ _ _ hs_32
    · refine pj_ltS (js_su h) (fun s_37 hs_37 => ?_)
      refine pj_cd (cj_Sharing_keepRow hs_37) (fun s_38 _ hs_38 => ?_)
      refine pj_cd (cj_Sharing_advance hs_38) (fun s_42 _ hs_42 => ?_)
      refine pj_ltE ?_
      exact h_k48 _ _ _ hs_42
theorem cj_Sharing_solve_B_L_48 {n : Nat} : ∀ (mm : Nat) (σ : gb_S) (v4 : Int32) (v5 : Int32), gb_JJ σ → gb_pj (cs_Sharing_solve_B_L_48 n mm σ v4 v5) := by
  intro mm
  induction mm with
  | zero =>
    intros
    exact pj_none
  | succ mm ih =>
    intro σ v4 v5  h
    unfold cs_Sharing_solve_B_L_48
    refine pj_if ?_ ?_
    · exact pj_some h
    · refine pj_if ?_ ?_
      · refine pj_cd (cj_Sharing_spread h) (fun s_16 r_17 hs_16 => ?_)
        refine cj_Sharing_solve_B_L_74 ?_ hs_16
        · intro σ v4 v5 hσ
          exact ih _ _ _ hσ
      · refine pj_kk (fun _ => ?_)
        refine pj_cd (cj_Sharing_together h) (fun s_48 r_49 hs_48 => ?_)
        refine cj_Sharing_solve_B_L_74 ?_ hs_48
        · intro σ v4 v5 hσ
          exact ih _ _ _ hσ
theorem cj_Sharing_solve_B_L_18 {n : Nat} : ∀ (mm : Nat) (σ : gb_S) (v4 : Int32) (v5 : Int32), gb_JJ σ → gb_pj (cs_Sharing_solve_B_L_18 n mm σ v4 v5) := by
  intro mm
  induction mm with
  | zero =>
    intros
    exact pj_none
  | succ mm ih =>
    intro σ v4 v5  h
    unfold cs_Sharing_solve_B_L_18
    refine pj_kk (fun _ => ?_)
    refine pj_cd (cj_Border_geese_B h) (fun s_9 r_10 hs_9 => ?_)
    refine pj_if ?_ ?_
    · exact cj_Sharing_solve_B_L_48 _ _ _ _ hs_9
    · refine pj_ltE ?_
      refine pj_ltE ?_
      exact ih _ _ _ hs_9
theorem cj_Sharing_solve_B_L {n : Nat} {σ : gb_S} {p1 : Nat} {p2 : Nat} {p3 : Int32} (h : gb_JJ σ) : gb_pj (cs_Sharing_solve_B_L n σ p1 p2 p3) := by
  unfold cs_Sharing_solve_B_L
  refine pj_kk (fun ck_p1 => ?_)
  refine pj_kk (fun ck_p2 => ?_)
  refine pj_cd (cj_Sharing_begin_B_L h) (fun s_3 _ hs_3 => ?_)
  refine pj_ltS (js_su hs_3) (fun s_7 hs_7 => ?_)
  exact cj_Sharing_solve_B_L_18 _ _ _ _ hs_7
theorem cj_Face_richest_58 {n : Nat} {σ : gb_S} {v3 : Int32} {v4 : Nat} {v5 : Nat} (h : gb_JJ σ) : gb_pj (cs_Face_richest_58 n σ v3 v4 v5) := by
  unfold cs_Face_richest_58
  refine pj_kk (fun ck_v4 => ?_)
  refine pj_kk (fun ck_v5 => ?_)
  refine pj_cd (cj_Sharing_solve_B_L h) (fun s_27 _ hs_27 => ?_)
  refine pj_if ?_ ?_
  · exact pj_some hs_27
  · refine pj_ck ?_
    refine pj_ltV (fun x_33 => ?_)
    exact pj_some hs_27
theorem cj_Face_richest {n : Nat} {σ : gb_S} {p1 : Int32} {p2 : Int32} {p3 : Int32} (h : gb_JJ σ) : gb_pj (cs_Face_richest n σ p1 p2 p3) := by
  unfold cs_Face_richest
  refine pj_cd (cj_Face_borderAt h) (fun s_1 r_2 hs_1 => ?_)
  refine pj_if ?_ ?_
  · refine pj_cd (cj_Face_lawAt hs_1) (fun s_6 r_7 hs_6 => ?_)
    refine pj_if ?_ ?_
    · exact pj_some hs_6
    · refine pj_kk (fun ck_r_7 => ?_)
      exact pj_some hs_6
  · refine pj_kk (fun ck_r_2 => ?_)
    refine pj_cd (cj_Face_lawAt hs_1) (fun s_13 r_14 hs_13 => ?_)
    refine pj_if ?_ ?_
    · exact pj_some hs_13
    · refine pj_kk (fun ck_r_14 => ?_)
      refine pj_cd (cj_Sharing_canShare_B hs_13) (fun s_19 r_20 hs_19 => ?_)
      refine pj_if ?_ ?_
      · exact pj_some hs_19
      · refine pj_if ?_ ?_
        · exact cj_Face_richest_58 hs_19
        · refine pj_if ?_ ?_
          · exact pj_some hs_19
          · refine pj_cd (cj_Border_geese_B hs_19) (fun s_35 r_36 hs_35 => ?_)
            refine pj_if ?_ ?_
            · exact cj_Face_richest_58 hs_35
            · exact pj_some hs_35
theorem cj_Face_close_36 {n : Nat} : ∀ (mm : Nat) (σ : gb_S) (v2 : Int32) (v3 : Nat) (v4 : Int32) (v5 : Int32) (v6 : Int32), gb_JJ σ → gb_pj (cs_Face_close_36 n mm σ v2 v3 v4 v5 v6) := by
  intro mm
  induction mm with
  | zero =>
    intros
    exact pj_none
  | succ mm ih =>
    intro σ v2 v3 v4 v5 v6  h
    unfold cs_Face_close_36
    refine pj_kk (fun ck_v3 => ?_)
    refine pj_cd (cj_Border_paths_B h) (fun s_18 r_19 hs_18 => ?_)
    refine pj_if ?_ ?_
    · refine pj_if ?_ ?_
      · exact pj_some hs_18
      · exact pj_some hs_18
    · refine pj_cd (cj_Sharing_solve_B_n hs_18) (fun s_24 _ hs_24 => ?_)
      refine pj_if ?_ ?_
      · refine pj_cd (cj_Sharing_difference hs_24) (fun s_29 r_30 hs_29 => ?_)
        refine pj_ltE ?_
        exact ih _ _ _ _ _ _ hs_29
      · refine pj_cd (cj_Sharing_difference hs_24) (fun s_34 r_35 hs_34 => ?_)
        refine pj_if ?_ ?_
        · refine pj_ltE ?_
          exact ih _ _ _ _ _ _ hs_34
        · refine pj_cd (cj_Sharing_difference hs_34) (fun s_40 r_41 hs_40 => ?_)
          refine pj_ltE ?_
          exact ih _ _ _ _ _ _ hs_40
theorem cj_Face_close {n : Nat} {σ : gb_S} {p1 : Int32} {p2 : Int32} (h : gb_JJ σ) : gb_pj (cs_Face_close n σ p1 p2) := by
  unfold cs_Face_close
  refine pj_cd (cj_Face_borderAt h) (fun s_1 r_2 hs_1 => ?_)
  refine pj_if ?_ ?_
  · exact pj_some hs_1
  · refine pj_kk (fun ck_r_2 => ?_)
    refine pj_cd (cj_Sharing_canShare_B hs_1) (fun s_7 r_8 hs_7 => ?_)
    refine pj_if ?_ ?_
    · exact pj_some hs_7
    · refine pj_cd (cj_Border_paths_B hs_7) (fun s_12 r_13 hs_12 => ?_)
      refine pj_if ?_ ?_
      · exact cj_Face_close_36 _ _ _ _ _ _ _ hs_12
      · exact pj_some hs_12
theorem cj_Face_tar_51 {n : Nat} : ∀ (mm : Nat) (σ : gb_S) (v2 : Int32) (v4 : Nat) (v5 : Int32) (v6 : Int32) (v7 : Int32), gb_JJ σ → gb_pj (cs_Face_tar_51 n mm σ v2 v4 v5 v6 v7) := by
  intro mm
  induction mm with
  | zero =>
    intros
    exact pj_none
  | succ mm ih =>
    intro σ v2 v4 v5 v6 v7  h
    unfold cs_Face_tar_51
    refine pj_kk (fun ck_v4 => ?_)
    refine pj_if ?_ ?_
    · refine pj_if ?_ ?_
      · exact pj_some h
      · exact pj_some h
    · refine pj_if ?_ ?_
      · refine pj_if ?_ ?_
        · exact pj_some h
        · exact pj_some h
      · refine pj_cd (cj_Border_milesThatSpare_B h) (fun s_24 r_25 hs_24 => ?_)
        refine pj_nz ?_
        refine pj_ltE ?_
        refine pj_ltV (fun x_30 => ?_)
        refine pj_ltE ?_
        refine pj_ltE ?_
        refine pj_ltE ?_
        exact ih _ _ _ _ _ _ hs_24
theorem cj_Face_tar {n : Nat} {σ : gb_S} {p1 : Int32} {p2 : Int32} {p3 : Int32} (h : gb_JJ σ) : gb_pj (cs_Face_tar n σ p1 p2 p3) := by
  unfold cs_Face_tar
  refine pj_cd (cj_Face_borderAt h) (fun s_1 r_2 hs_1 => ?_)
  refine pj_if ?_ ?_
  · exact pj_some hs_1
  · refine pj_kk (fun ck_r_2 => ?_)
    refine pj_cd (cj_Border_hasPath_B hs_1) (fun s_7 r_8 hs_7 => ?_)
    refine pj_if ?_ ?_
    · exact pj_some hs_7
    · refine pj_if ?_ ?_
      · exact pj_some hs_7
      · refine pj_if ?_ ?_
        · refine pj_cd (cj_Border_barefoot_B hs_7) (fun s_14 r_15 hs_14 => ?_)
          refine pj_ltE ?_
          exact cj_Face_tar_51 _ _ _ _ _ _ _ hs_14
        · exact pj_some hs_7
theorem cj_Face_bestPath_B_7 {n : Nat} : ∀ (mm : Nat) (σ : gb_S) (v0 : Nat) (v1 : Int32) (v2 : Int32) (v3 : Int32) (v4 : Int32), gb_JJ σ → gb_pj (cs_Face_bestPath_B_7 n mm σ v0 v1 v2 v3 v4) := by
  intro mm
  induction mm with
  | zero =>
    intros
    exact pj_none
  | succ mm ih =>
    intro σ v0 v1 v2 v3 v4  h
    unfold cs_Face_bestPath_B_7
    refine pj_kk (fun ck_v0 => ?_)
    refine pj_cd (cj_Border_paths_B h) (fun s_3 r_4 hs_3 => ?_)
    refine pj_if ?_ ?_
    · exact pj_some hs_3
    · refine pj_cd (cj_Border_marksFirst_B hs_3) (fun s_8 r_9 hs_8 => ?_)
      refine pj_cd (cj_Border_payOf_B hs_8) (fun s_12 r_13 hs_12 => ?_)
      refine pj_if ?_ ?_
      · refine pj_ltE ?_
        exact ih _ _ _ _ _ _ hs_12
      · refine pj_ltE ?_
        exact ih _ _ _ _ _ _ hs_12
theorem cj_Face_bestPath_B {n : Nat} {σ : gb_S} {p1 : Nat} {p2 : Int32} (h : gb_JJ σ) : gb_pj (cs_Face_bestPath_B n σ p1 p2) := by
  unfold cs_Face_bestPath_B
  refine pj_kk (fun ck_p1 => ?_)
  exact cj_Face_bestPath_B_7 _ _ _ _ _ _ _ h
theorem cj_Face_lame_64 {n : Nat} : ∀ (mm : Nat) (σ : gb_S) (v2 : Int32) (v4 : Nat) (v5 : Int32) (v6 : Int32) (v7 : Int32), gb_JJ σ → gb_pj (cs_Face_lame_64 n mm σ v2 v4 v5 v6 v7) := by
  intro mm
  induction mm with
  | zero =>
    intros
    exact pj_none
  | succ mm ih =>
    intro σ v2 v4 v5 v6 v7  h
    unfold cs_Face_lame_64
    refine pj_kk (fun ck_v4 => ?_)
    refine pj_cd (cj_Border_geese_B h) (fun s_14 r_15 hs_14 => ?_)
    refine pj_if ?_ ?_
    · refine pj_cd (cj_Border_payOf_B hs_14) (fun s_19 r_20 hs_19 => ?_)
      refine pj_cd (cj_Border_payOf_B hs_19) (fun s_23 r_24 hs_23 => ?_)
      exact pj_some hs_23
    · refine pj_cd (cj_Border_marksFirst_B hs_14) (fun s_27 r_28 hs_27 => ?_)
      refine pj_ltE ?_
      refine pj_cd (cj_Border_limps_B hs_27) (fun s_32 r_33 hs_32 => ?_)
      refine pj_if ?_ ?_
      · refine pj_ltE ?_
        refine pj_ltE ?_
        exact ih _ _ _ _ _ _ hs_32
      · refine pj_ltE ?_
        refine pj_ltE ?_
        refine pj_ltE ?_
        exact ih _ _ _ _ _ _ hs_32
theorem cj_Face_lame {n : Nat} {σ : gb_S} {p1 : Int32} {p2 : Int32} {p3 : Int32} (h : gb_JJ σ) : gb_pj (cs_Face_lame n σ p1 p2 p3) := by
  unfold cs_Face_lame
  refine pj_cd (cj_Face_borderAt h) (fun s_1 r_2 hs_1 => ?_)
  refine pj_if ?_ ?_
  · exact pj_some hs_1
  · refine pj_kk (fun ck_r_2 => ?_)
    refine pj_if ?_ ?_
    · refine pj_cd (cj_Border_hasPath_B hs_1) (fun s_8 r_9 hs_8 => ?_)
      refine pj_if ?_ ?_
      · exact pj_some hs_8
      · exact cj_Face_lame_64 _ _ _ _ _ _ _ hs_8
    · refine pj_if ?_ ?_
      · refine pj_cd (cj_Border_hasPath_B hs_1) (fun s_43 r_44 hs_43 => ?_)
        refine pj_if ?_ ?_
        · exact pj_some hs_43
        · exact cj_Face_lame_64 _ _ _ _ _ _ _ hs_43
      · refine pj_cd (cj_Border_hasGoose_B hs_1) (fun s_48 r_49 hs_48 => ?_)
        refine pj_if ?_ ?_
        · exact pj_some hs_48
        · refine pj_cd (cj_Face_bestPath_B hs_48) (fun s_53 r_54 hs_53 => ?_)
          exact pj_some hs_53
theorem cj_Face_two_108 {n : Nat} {k58 : gb_S → Int32 → Int32 → Nat → Nat → Int32 → Int32 → Int32 → Int32 → gb_CR Int32} (h_k58 : ∀ (s : gb_S) (x1 : Int32) (x2 : Int32) (x3 : Nat) (x4 : Nat) (x5 : Int32) (x6 : Int32) (x7 : Int32) (x8 : Int32), gb_JJ s → gb_pj (k58 s x1 x2 x3 x4 x5 x6 x7 x8)) : ∀ (mm : Nat) (σ : gb_S) (v2 : Int32) (v4 : Int32) (v5 : Nat) (v6 : Nat) (v7 : Int32) (v8 : Int32) (v9 : Int32) (v10 : Int32) (v11 : Int32) (v12 : Int32) (v13 : Int32), gb_JJ σ → gb_pj (cs_Face_two_108 n k58 mm σ v2 v4 v5 v6 v7 v8 v9 v10 v11 v12 v13) := by
  intro mm
  induction mm with
  | zero =>
    intros
    exact pj_none
  | succ mm ih =>
    intro σ v2 v4 v5 v6 v7 v8 v9 v10 v11 v12 v13  h
    unfold cs_Face_two_108
    refine pj_kk (fun ck_v5 => ?_)
    refine pj_kk (fun ck_v6 => ?_)
    refine pj_cd (cj_Border_paths_B h) (fun s_54 r_55 hs_54 => ?_)
    refine pj_if ?_ ?_
    · refine pj_ltE ?_
      exact h_k58 _ _ _ _ _ _ _ _ _ hs_54
    · refine pj_cd (cj_Border_miles_B hs_54) (fun s_60 r_61 hs_60 => ?_)
      refine pj_cd (cj_Border_marksOver_B hs_60) (fun s_64 r_65 hs_64 => ?_)
      refine pj_cd (cj_Border_payOf_B hs_64) (fun s_68 r_69 hs_68 => ?_)
      refine pj_ltE ?_
      refine pj_if ?_ ?_
      · refine pj_ltE ?_
        exact ih _ _ _ _ _ _ _ _ _ _ _ _ hs_68
      · refine pj_ltE ?_
        exact ih _ _ _ _ _ _ _ _ _ _ _ _ hs_68
theorem cj_Face_two_58 {n : Nat} : ∀ (mm : Nat) (σ : gb_S) (v2 : Int32) (v4 : Int32) (v5 : Nat) (v6 : Nat) (v7 : Int32) (v8 : Int32) (v9 : Int32) (v10 : Int32), gb_JJ σ → gb_pj (cs_Face_two_58 n mm σ v2 v4 v5 v6 v7 v8 v9 v10) := by
  intro mm
  induction mm with
  | zero =>
    intros
    exact pj_none
  | succ mm ih =>
    intro σ v2 v4 v5 v6 v7 v8 v9 v10  h
    unfold cs_Face_two_58
    refine pj_kk (fun ck_v5 => ?_)
    refine pj_kk (fun ck_v6 => ?_)
    refine pj_cd (cj_Border_paths_B h) (fun s_28 r_29 hs_28 => ?_)
    refine pj_if ?_ ?_
    · refine pj_if ?_ ?_
      · exact pj_some hs_28
      · refine pj_if ?_ ?_
        · exact pj_some hs_28
        · exact pj_some hs_28
    · refine pj_cd (cj_Border_boots_B hs_28) (fun s_35 r_36 hs_35 => ?_)
      refine pj_cd (cj_Border_miles_B hs_35) (fun s_39 r_40 hs_39 => ?_)
      refine pj_ltV (fun x_43 => ?_)
      refine pj_cd (cj_Border_marksFirst_B hs_39) (fun s_44 r_45 hs_44 => ?_)
      refine pj_cd (cj_Border_payOf_B hs_44) (fun s_48 r_49 hs_48 => ?_)
      refine cj_Face_two_108 ?_ _ _ _ _ _ _ _ _ _ _ _ _ _ hs_48
      · intro σ v2 v4 v5 v6 v7 v8 v9 v10 hσ
        exact ih _ _ _ _ _ _ _ _ _ hσ
theorem cj_Face_two {n : Nat} {σ : gb_S} {p1 : Int32} {p2 : Int32} {p3 : Int32} {p4 : Int32} (h : gb_JJ σ) : gb_pj (cs_Face_two n σ p1 p2 p3 p4) := by
  unfold cs_Face_two
  refine pj_cd (cj_Face_borderAt h) (fun s_1 r_2 hs_1 => ?_)
  refine pj_if ?_ ?_
  · refine pj_cd (cj_Face_borderAt hs_1) (fun s_6 r_7 hs_6 => ?_)
    refine pj_if ?_ ?_
    · exact pj_some hs_6
    · refine pj_kk (fun ck_r_7 => ?_)
      exact pj_some hs_6
  · refine pj_kk (fun ck_r_2 => ?_)
    refine pj_cd (cj_Face_borderAt hs_1) (fun s_13 r_14 hs_13 => ?_)
    refine pj_if ?_ ?_
    · exact pj_some hs_13
    · refine pj_kk (fun ck_r_14 => ?_)
      refine pj_cd (cj_Border_hasGoose_B hs_13) (fun s_19 r_20 hs_19 => ?_)
      refine pj_if ?_ ?_
      · exact pj_some hs_19
      · refine pj_if ?_ ?_
        · exact pj_some hs_19
        · refine pj_if ?_ ?_
          · exact cj_Face_two_58 _ _ _ _ _ _ _ _ _ _ hs_19
          · exact pj_some hs_19
theorem cj_Face_alike_43 {n : Nat} : ∀ (mm : Nat) (σ : gb_S) (v2 : Int32) (v3 : Int32) (v4 : Nat) (v5 : Int32) (v6 : Int32), gb_JJ σ → gb_pj (cs_Face_alike_43 n mm σ v2 v3 v4 v5 v6) := by
  intro mm
  induction mm with
  | zero =>
    intros
    exact pj_none
  | succ mm ih =>
    intro σ v2 v3 v4 v5 v6  h
    unfold cs_Face_alike_43
    refine pj_kk (fun ck_v4 => ?_)
    refine pj_cd (cj_Border_paths_B h) (fun s_19 r_20 hs_19 => ?_)
    refine pj_if ?_ ?_
    · exact pj_some hs_19
    · refine pj_cd (cj_Border_marksFirst_B hs_19) (fun s_24 r_25 hs_24 => ?_)
      refine pj_cd (cj_Border_marksFirst_B hs_24) (fun s_28 r_29 hs_28 => ?_)
      refine pj_if ?_ ?_
      · refine pj_ltE ?_
        refine pj_ltE ?_
        exact ih _ _ _ _ _ _ hs_28
      · refine pj_ltE ?_
        exact ih _ _ _ _ _ _ hs_28
theorem cj_Face_alike {n : Nat} {σ : gb_S} {p1 : Int32} {p2 : Int32} {p3 : Int32} (h : gb_JJ σ) : gb_pj (cs_Face_alike n σ p1 p2 p3) := by
  unfold cs_Face_alike
  refine pj_cd (cj_Face_borderAt h) (fun s_1 r_2 hs_1 => ?_)
  refine pj_if ?_ ?_
  · exact pj_some hs_1
  · refine pj_kk (fun ck_r_2 => ?_)
    refine pj_if ?_ ?_
    · exact pj_some hs_1
    · refine pj_cd (cj_Border_hasGoose_B hs_1) (fun s_8 r_9 hs_8 => ?_)
      refine pj_if ?_ ?_
      · exact pj_some hs_8
      · refine pj_cd (cj_Border_hasGoose_B hs_8) (fun s_13 r_14 hs_13 => ?_)
        refine pj_if ?_ ?_
        · exact pj_some hs_13
        · exact cj_Face_alike_43 _ _ _ _ _ _ _ hs_13
theorem cj_Flocks_sumUp_B_c131_44 {n : Nat} {k17 : gb_S → Nat → Int32 → Int32 → gb_CR Unit} (h_k17 : ∀ (s : gb_S) (x1 : Nat) (x2 : Int32) (x3 : Int32), gb_JJ s → gb_pj (k17 s x1 x2 x3)) : ∀ (mm : Nat) (σ : gb_S) (v1 : Nat) (v2 : Int32) (v4 : Int32) (v5 : Int32) (v6 : Int32) (v7 : Int32), gb_JJ σ → gb_pj (cs_Flocks_sumUp_B_c131_44 n k17 mm σ v1 v2 v4 v5 v6 v7) := by
  intro mm
  induction mm with
  | zero =>
    intros
    exact pj_none
  | succ mm ih =>
    intro σ v1 v2 v4 v5 v6 v7  h
    unfold cs_Flocks_sumUp_B_c131_44
    refine pj_kk (fun ck_v1 => ?_)
    refine pj_if ?_ ?_
    · refine pj_ltE ?_
      exact h_k17 _ _ _ _ h
    · refine pj_ck ?_
      refine pj_ltV (fun x_23 => ?_)
      refine pj_ck ?_
      refine pj_ltS (js_su h) (fun s_25 hs_25 => ?_)
      refine pj_ltE ?_
      exact ih _ _ _ _ _ _ _ hs_25
theorem cj_Flocks_sumUp_B_c131_17 {n : Nat} : ∀ (mm : Nat) (σ : gb_S) (v1 : Nat) (v2 : Int32) (v4 : Int32), gb_JJ σ → gb_pj (cs_Flocks_sumUp_B_c131_17 n mm σ v1 v2 v4) := by
  intro mm
  induction mm with
  | zero =>
    intros
    exact pj_none
  | succ mm ih =>
    intro σ v1 v2 v4  h
    unfold cs_Flocks_sumUp_B_c131_17
    refine pj_kk (fun ck_v1 => ?_)
    refine pj_cd (cj_Border_geese_B h) (fun s_9 r_10 hs_9 => ?_)
    refine pj_if ?_ ?_
    · exact pj_some hs_9
    · refine pj_cd (cj_Border_marksFirst_B hs_9) (fun s_14 r_15 hs_14 => ?_)
      refine pj_ltE ?_
      refine cj_Flocks_sumUp_B_c131_44 ?_ _ _ _ _ _ _ _ _ hs_14
      · intro σ v1 v2 v4 hσ
        exact ih _ _ _ _ hσ
theorem cj_Flocks_sumUp_B_c131 {n : Nat} {σ : gb_S} {p1 : Nat} {p2 : Int32} (h : gb_JJ σ) : gb_pj (cs_Flocks_sumUp_B_c131 n σ p1 p2) := by
  unfold cs_Flocks_sumUp_B_c131
  refine pj_kk (fun ck_p1 => ?_)
  refine pj_cd (cj_Border_geese_B h) (fun s_2 r_3 hs_2 => ?_)
  refine pj_ltS (js_su hs_2) (fun s_6 hs_6 => ?_)
  refine pj_ltS (js_su hs_6) (fun s_7 hs_7 => ?_)
  exact cj_Flocks_sumUp_B_c131_17 _ _ _ _ _ hs_7
theorem cj_java_lang_Integer_bitCount {n : Nat} {σ : gb_S} {p1 : Int32} (h : gb_JJ σ) : gb_pj (cs_java_lang_Integer_bitCount n σ p1) := by
  unfold cs_java_lang_Integer_bitCount
  refine pj_ltE ?_
  refine pj_ltE ?_
  refine pj_ltE ?_
  refine pj_ltE ?_
  refine pj_ltE ?_
  exact pj_some h
theorem cj_Flocks_marksOfAny_B_76 {n : Nat} {k16 : gb_S → Int32 → Int32 → Int32 → Int32 → gb_CR Int32} {σ : gb_S} {v3 : Int32} {v4 : Int32} {v5 : Int32} {v6 : Int32} {t0 : Int32} (h_k16 : ∀ (s : gb_S) (x1 : Int32) (x2 : Int32) (x3 : Int32) (x4 : Int32), gb_JJ s → gb_pj (k16 s x1 x2 x3 x4)) (h : gb_JJ σ) : gb_pj (cs_Flocks_marksOfAny_B_76 n k16 σ v3 v4 v5 v6 t0) := by
  unfold cs_Flocks_marksOfAny_B_76
  refine pj_if ?_ ?_
  · refine pj_ck ?_
    refine pj_ltV (fun x_19 => ?_)
    refine pj_ltE ?_
    exact h_k16 _ _ _ _ _ h
  · refine pj_if ?_ ?_
    · refine pj_ltE ?_
      exact h_k16 _ _ _ _ _ h
    · refine pj_ck ?_
      refine pj_ltV (fun x_24 => ?_)
      refine pj_ltE ?_
      exact h_k16 _ _ _ _ _ h
theorem cj_Flocks_marksOfAny_B_16 {n : Nat} : ∀ (mm : Nat) (σ : gb_S) (v3 : Int32) (v4 : Int32) (v5 : Int32) (v6 : Int32), gb_JJ σ → gb_pj (cs_Flocks_marksOfAny_B_16 n mm σ v3 v4 v5 v6) := by
  intro mm
  induction mm with
  | zero =>
    intros
    exact pj_none
  | succ mm ih =>
    intro σ v3 v4 v5 v6  h
    unfold cs_Flocks_marksOfAny_B_16
    refine pj_if ?_ ?_
    · exact pj_some h
    · refine pj_cd (cj_java_lang_Integer_bitCount h) (fun s_7 r_8 hs_7 => ?_)
      refine pj_if ?_ ?_
      · refine pj_if ?_ ?_
        · refine pj_ck ?_
          refine pj_ltV (fun x_15 => ?_)
          refine pj_if ?_ ?_
          · refine cj_Flocks_marksOfAny_B_76 ?_ hs_7
            · intro σ v3 v4 v5 v6 hσ
              exact ih _ _ _ _ _ hσ
          · refine cj_Flocks_marksOfAny_B_76 ?_ hs_7
            · intro σ v3 v4 v5 v6 hσ
              exact ih _ _ _ _ _ hσ
        · refine pj_ck ?_
          refine pj_ltV (fun x_27 => ?_)
          refine pj_if ?_ ?_
          · refine cj_Flocks_marksOfAny_B_76 ?_ hs_7
            · intro σ v3 v4 v5 v6 hσ
              exact ih _ _ _ _ _ hσ
          · refine cj_Flocks_marksOfAny_B_76 ?_ hs_7
            · intro σ v3 v4 v5 v6 hσ
              exact ih _ _ _ _ _ hσ
      · refine pj_ltE ?_
        exact ih _ _ _ _ _ hs_7
theorem cj_Flocks_marksOfAny_B {n : Nat} {σ : gb_S} {p1 : Nat} {p2 : Int32} {p3 : Int32} {p4 : Int32} (h : gb_JJ σ) : gb_pj (cs_Flocks_marksOfAny_B n σ p1 p2 p3 p4) := by
  unfold cs_Flocks_marksOfAny_B
  refine pj_kk (fun ck_p1 => ?_)
  refine pj_cd (cj_Flocks_sumUp_B_c131 h) (fun s_2 _ hs_2 => ?_)
  exact cj_Flocks_marksOfAny_B_16 _ _ _ _ _ _ hs_2
theorem cj_Face_span {n : Nat} {σ : gb_S} {p1 : Int32} {p2 : Int32} {p3 : Int32} {p4 : Int32} (h : gb_JJ σ) : gb_pj (cs_Face_span n σ p1 p2 p3 p4) := by
  unfold cs_Face_span
  refine pj_cd (cj_Face_borderAt h) (fun s_1 r_2 hs_1 => ?_)
  refine pj_if ?_ ?_
  · exact pj_some hs_1
  · refine pj_kk (fun ck_r_2 => ?_)
    refine pj_cd (cj_Border_hasPath_B hs_1) (fun s_7 r_8 hs_7 => ?_)
    refine pj_if ?_ ?_
    · exact pj_some hs_7
    · refine pj_if ?_ ?_
      · exact pj_some hs_7
      · refine pj_cd (cj_Border_geese_B hs_7) (fun s_13 r_14 hs_13 => ?_)
        refine pj_if ?_ ?_
        · refine pj_cd (cj_Flocks_marksOfAny_B hs_13) (fun s_18 r_19 hs_18 => ?_)
          exact pj_some hs_18
        · exact pj_some hs_13
theorem cj_Flocks_sumUp_B_c132_44 {n : Nat} {k17 : gb_S → Nat → Int32 → Int32 → gb_CR Unit} (h_k17 : ∀ (s : gb_S) (x1 : Nat) (x2 : Int32) (x3 : Int32), gb_JJ s → gb_pj (k17 s x1 x2 x3)) : ∀ (mm : Nat) (σ : gb_S) (v1 : Nat) (v2 : Int32) (v4 : Int32) (v5 : Int32) (v6 : Int32) (v7 : Int32), gb_JJ σ → gb_pj (cs_Flocks_sumUp_B_c132_44 n k17 mm σ v1 v2 v4 v5 v6 v7) := by
  intro mm
  induction mm with
  | zero =>
    intros
    exact pj_none
  | succ mm ih =>
    intro σ v1 v2 v4 v5 v6 v7  h
    unfold cs_Flocks_sumUp_B_c132_44
    refine pj_kk (fun ck_v1 => ?_)
    refine pj_if ?_ ?_
    · refine pj_ltE ?_
      exact h_k17 _ _ _ _ h
    · refine pj_ck ?_
      refine pj_ltV (fun x_23 => ?_)
      refine pj_ck ?_
      refine pj_ltS (js_su h) (fun s_25 hs_25 => ?_)
      refine pj_ltE ?_
      exact ih _ _ _ _ _ _ _ hs_25
theorem cj_Flocks_sumUp_B_c132_17 {n : Nat} : ∀ (mm : Nat) (σ : gb_S) (v1 : Nat) (v2 : Int32) (v4 : Int32), gb_JJ σ → gb_pj (cs_Flocks_sumUp_B_c132_17 n mm σ v1 v2 v4) := by
  intro mm
  induction mm with
  | zero =>
    intros
    exact pj_none
  | succ mm ih =>
    intro σ v1 v2 v4  h
    unfold cs_Flocks_sumUp_B_c132_17
    refine pj_kk (fun ck_v1 => ?_)
    refine pj_cd (cj_Border_geese_B h) (fun s_9 r_10 hs_9 => ?_)
    refine pj_if ?_ ?_
    · exact pj_some hs_9
    · refine pj_cd (cj_Border_marksFirst_B hs_9) (fun s_14 r_15 hs_14 => ?_)
      refine pj_ltE ?_
      refine cj_Flocks_sumUp_B_c132_44 ?_ _ _ _ _ _ _ _ _ hs_14
      · intro σ v1 v2 v4 hσ
        exact ih _ _ _ _ hσ
theorem cj_Flocks_sumUp_B_c132 {n : Nat} {σ : gb_S} {p1 : Nat} {p2 : Int32} (h : gb_JJ σ) : gb_pj (cs_Flocks_sumUp_B_c132 n σ p1 p2) := by
  unfold cs_Flocks_sumUp_B_c132
  refine pj_kk (fun ck_p1 => ?_)
  refine pj_cd (cj_Border_geese_B h) (fun s_2 r_3 hs_2 => ?_)
  refine pj_ltS (js_su hs_2) (fun s_6 hs_6 => ?_)
  refine pj_ltS (js_su hs_6) (fun s_7 hs_7 => ?_)
  exact cj_Flocks_sumUp_B_c132_17 _ _ _ _ _ hs_7
theorem cj_Flocks_evenest_B_41 {n : Nat} : ∀ (mm : Nat) (σ : gb_S) (v4 : Int32) (v5 : Int32), gb_JJ σ → gb_pj (cs_Flocks_evenest_B_41 n mm σ v4 v5) := by
  intro mm
  induction mm with
  | zero =>
    intros
    exact pj_none
  | succ mm ih =>
    intro σ v4 v5  h
    unfold cs_Flocks_evenest_B_41
    refine pj_if ?_ ?_
    · exact pj_some h
    · refine pj_ck ?_
      refine pj_ltV (fun x_15 => ?_)
      refine pj_ck ?_
      refine pj_ltV (fun x_17 => ?_)
      refine pj_ltV (fun x_18 => ?_)
      refine pj_if ?_ ?_
      · refine pj_ltE ?_
        exact ih _ _ _ h
      · refine pj_ltS (js_su h) (fun s_21 hs_21 => ?_)
        refine pj_ltE ?_
        exact ih _ _ _ hs_21
theorem cj_Flocks_evenest_B {n : Nat} {σ : gb_S} {p1 : Nat} {p2 : Int32} {p3 : Int32} (h : gb_JJ σ) : gb_pj (cs_Flocks_evenest_B n σ p1 p2 p3) := by
  unfold cs_Flocks_evenest_B
  refine pj_kk (fun ck_p1 => ?_)
  refine pj_cd (cj_Flocks_sumUp_B_c131 h) (fun s_2 _ hs_2 => ?_)
  refine pj_cd (cj_Flocks_sumUp_B_c132 hs_2) (fun s_6 _ hs_6 => ?_)
  refine pj_ck ?_
  refine pj_ltV (fun x_11 => ?_)
  refine pj_ltS (js_su hs_6) (fun s_12 hs_12 => ?_)
  exact cj_Flocks_evenest_B_41 _ _ _ _ hs_12
theorem cj_Face_split {n : Nat} {σ : gb_S} {p1 : Int32} {p2 : Int32} {p3 : Int32} {p4 : Int32} (h : gb_JJ σ) : gb_pj (cs_Face_split n σ p1 p2 p3 p4) := by
  unfold cs_Face_split
  refine pj_cd (cj_Face_borderAt h) (fun s_1 r_2 hs_1 => ?_)
  refine pj_if ?_ ?_
  · exact pj_some hs_1
  · refine pj_kk (fun ck_r_2 => ?_)
    refine pj_if ?_ ?_
    · exact pj_some hs_1
    · refine pj_cd (cj_Border_hasPath_B hs_1) (fun s_8 r_9 hs_8 => ?_)
      refine pj_if ?_ ?_
      · exact pj_some hs_8
      · refine pj_cd (cj_Border_hasPath_B hs_8) (fun s_13 r_14 hs_13 => ?_)
        refine pj_if ?_ ?_
        · exact pj_some hs_13
        · refine pj_cd (cj_Flocks_evenest_B hs_13) (fun s_18 r_19 hs_18 => ?_)
          refine pj_if ?_ ?_
          · exact pj_some hs_18
          · exact pj_some hs_18
theorem cj_Flocks_fewestBackwards_B_21 {n : Nat} : ∀ (mm : Nat) (σ : gb_S) (v3 : Int32) (v4 : Int32) (v5 : Int32), gb_JJ σ → gb_pj (cs_Flocks_fewestBackwards_B_21 n mm σ v3 v4 v5) := by
  intro mm
  induction mm with
  | zero =>
    intros
    exact pj_none
  | succ mm ih =>
    intro σ v3 v4 v5  h
    unfold cs_Flocks_fewestBackwards_B_21
    refine pj_if ?_ ?_
    · exact pj_some h
    · refine pj_ck ?_
      refine pj_ltV (fun x_9 => ?_)
      refine pj_ck ?_
      refine pj_ltV (fun x_11 => ?_)
      refine pj_if ?_ ?_
      · refine pj_if ?_ ?_
        · refine pj_ltE ?_
          exact ih _ _ _ _ h
        · refine pj_cd (cj_java_lang_Integer_bitCount h) (fun s_15 r_16 hs_15 => ?_)
          refine pj_cd (cj_java_lang_Integer_bitCount hs_15) (fun s_19 r_20 hs_19 => ?_)
          refine pj_if ?_ ?_
          · refine pj_ltE ?_
            exact ih _ _ _ _ hs_19
          · refine pj_ltE ?_
            exact ih _ _ _ _ hs_19
      · refine pj_if ?_ ?_
        · refine pj_ltE ?_
          exact ih _ _ _ _ h
        · refine pj_cd (cj_java_lang_Integer_bitCount h) (fun s_28 r_29 hs_28 => ?_)
          refine pj_cd (cj_java_lang_Integer_bitCount hs_28) (fun s_32 r_33 hs_32 => ?_)
          refine pj_if ?_ ?_
          · refine pj_ltE ?_
            exact ih _ _ _ _ hs_32
          · refine pj_ltE ?_
            exact ih _ _ _ _ hs_32
theorem cj_Flocks_fewestBackwards_B {n : Nat} {σ : gb_S} {p1 : Nat} {p2 : Int32} {p3 : Int32} (h : gb_JJ σ) : gb_pj (cs_Flocks_fewestBackwards_B n σ p1 p2 p3) := by
  unfold cs_Flocks_fewestBackwards_B
  refine pj_kk (fun ck_p1 => ?_)
  refine pj_cd (cj_Flocks_sumUp_B_c131 h) (fun s_2 _ hs_2 => ?_)
  refine pj_ltE ?_
  exact cj_Flocks_fewestBackwards_B_21 _ _ _ _ _ hs_2
theorem cj_Face_backs {n : Nat} {σ : gb_S} {p1 : Int32} {p2 : Int32} {p3 : Int32} {p4 : Int32} (h : gb_JJ σ) : gb_pj (cs_Face_backs n σ p1 p2 p3 p4) := by
  unfold cs_Face_backs
  refine pj_cd (cj_Face_borderAt h) (fun s_1 r_2 hs_1 => ?_)
  refine pj_if ?_ ?_
  · exact pj_some hs_1
  · refine pj_kk (fun ck_r_2 => ?_)
    refine pj_cd (cj_Border_hasPath_B hs_1) (fun s_7 r_8 hs_7 => ?_)
    refine pj_if ?_ ?_
    · exact pj_some hs_7
    · refine pj_if ?_ ?_
      · exact pj_some hs_7
      · refine pj_if ?_ ?_
        · refine pj_cd (cj_Flocks_fewestBackwards_B hs_7) (fun s_14 r_15 hs_14 => ?_)
          refine pj_if ?_ ?_
          · exact pj_some hs_14
          · refine pj_cd (cj_java_lang_Integer_bitCount hs_14) (fun s_19 r_20 hs_19 => ?_)
            exact pj_some hs_19
        · exact pj_some hs_7
theorem cj_Flocks_nearest_B_16 {n : Nat} : ∀ (mm : Nat) (σ : gb_S) (v3 : Int32) (v4 : Int32) (v5 : Int32), gb_JJ σ → gb_pj (cs_Flocks_nearest_B_16 n mm σ v3 v4 v5) := by
  intro mm
  induction mm with
  | zero =>
    intros
    exact pj_none
  | succ mm ih =>
    intro σ v3 v4 v5  h
    unfold cs_Flocks_nearest_B_16
    refine pj_if ?_ ?_
    · exact pj_some h
    · refine pj_ck ?_
      refine pj_ltV (fun x_8 => ?_)
      refine pj_ltV (fun x_9 => ?_)
      refine pj_ck ?_
      refine pj_ltV (fun x_11 => ?_)
      refine pj_ltV (fun x_12 => ?_)
      refine pj_if ?_ ?_
      · refine pj_ltE ?_
        exact ih _ _ _ _ h
      · refine pj_ltE ?_
        exact ih _ _ _ _ h
theorem cj_Flocks_nearest_B {n : Nat} {σ : gb_S} {p1 : Nat} {p2 : Int32} {p3 : Int32} (h : gb_JJ σ) : gb_pj (cs_Flocks_nearest_B n σ p1 p2 p3) := by
  unfold cs_Flocks_nearest_B
  refine pj_kk (fun ck_p1 => ?_)
  refine pj_cd (cj_Flocks_sumUp_B_c131 h) (fun s_2 _ hs_2 => ?_)
  exact cj_Flocks_nearest_B_16 _ _ _ _ _ hs_2
theorem cj_Face_near {n : Nat} {σ : gb_S} {p1 : Int32} {p2 : Int32} {p3 : Int32} (h : gb_JJ σ) : gb_pj (cs_Face_near n σ p1 p2 p3) := by
  unfold cs_Face_near
  refine pj_cd (cj_Face_borderAt h) (fun s_1 r_2 hs_1 => ?_)
  refine pj_if ?_ ?_
  · refine pj_cd (cj_Face_dawnAt hs_1) (fun s_6 r_7 hs_6 => ?_)
    refine pj_if ?_ ?_
    · exact pj_some hs_6
    · refine pj_kk (fun ck_r_7 => ?_)
      exact pj_some hs_6
  · refine pj_kk (fun ck_r_2 => ?_)
    refine pj_cd (cj_Face_dawnAt hs_1) (fun s_13 r_14 hs_13 => ?_)
    refine pj_if ?_ ?_
    · exact pj_some hs_13
    · refine pj_kk (fun ck_r_14 => ?_)
      refine pj_if ?_ ?_
      · exact pj_some hs_13
      · refine pj_cd (cj_Lines_size_D hs_13) (fun s_20 r_21 hs_20 => ?_)
        refine pj_if ?_ ?_
        · exact pj_some hs_20
        · refine pj_cd (cj_Dawn_pathSeen_D hs_20) (fun s_25 r_26 hs_25 => ?_)
          refine pj_cd (cj_Border_hasPath_B hs_25) (fun s_29 r_30 hs_29 => ?_)
          refine pj_if ?_ ?_
          · exact pj_some hs_29
          · refine pj_cd (cj_Dawn_pathSeen_D hs_29) (fun s_34 r_35 hs_34 => ?_)
            refine pj_cd (cj_Dawn_marksSeen_D hs_34) (fun s_38 r_39 hs_38 => ?_)
            refine pj_cd (cj_Flocks_nearest_B hs_38) (fun s_42 r_43 hs_42 => ?_)
            exact pj_some hs_42
theorem cj_Flocks_paysAll_B_3 {n : Nat} : ∀ (mm : Nat) (σ : gb_S) (v1 : Nat) (v2 : Int32) (v3 : Int32) (v4 : Int32), gb_JJ σ → gb_pj (cs_Flocks_paysAll_B_3 n mm σ v1 v2 v3 v4) := by
  intro mm
  induction mm with
  | zero =>
    intros
    exact pj_none
  | succ mm ih =>
    intro σ v1 v2 v3 v4  h
    unfold cs_Flocks_paysAll_B_3
    refine pj_kk (fun ck_v1 => ?_)
    refine pj_cd (cj_Border_geese_B h) (fun s_3 r_4 hs_3 => ?_)
    refine pj_if ?_ ?_
    · exact pj_some hs_3
    · refine pj_ltE ?_
      refine pj_if ?_ ?_
      · refine pj_ltE ?_
        exact ih _ _ _ _ _ hs_3
      · refine pj_kk (fun _ => ?_)
        refine pj_ck ?_
        refine pj_ltV (fun x_13 => ?_)
        refine pj_if ?_ ?_
        · refine pj_cd (cj_Border_marksFirst_B hs_3) (fun s_16 r_17 hs_16 => ?_)
          refine pj_cd (cj_Border_payOf_B hs_16) (fun s_20 r_21 hs_20 => ?_)
          refine pj_if ?_ ?_
          · refine pj_ltE ?_
            exact ih _ _ _ _ _ hs_20
          · exact pj_some hs_20
        · refine pj_ltE ?_
          exact ih _ _ _ _ _ hs_3
theorem cj_Flocks_paysAll_B {n : Nat} {σ : gb_S} {p1 : Nat} {p2 : Int32} {p3 : Int32} (h : gb_JJ σ) : gb_pj (cs_Flocks_paysAll_B n σ p1 p2 p3) := by
  unfold cs_Flocks_paysAll_B
  refine pj_kk (fun ck_p1 => ?_)
  exact cj_Flocks_paysAll_B_3 _ _ _ _ _ _ h
theorem cj_Flocks_thriftiest_B_71 {n : Nat} {k28 : gb_S → Nat → Int32 → gb_CR Int32} {σ : gb_S} {v1 : Nat} {v2 : Int32} {v3 : Int32} {t0 : Int64} {t1 : Int32} {t2 : Nat} (h_k28 : ∀ (s : gb_S) (x1 : Nat) (x2 : Int32), gb_JJ s → gb_pj (k28 s x1 x2)) (h : gb_JJ σ) : gb_pj (cs_Flocks_thriftiest_B_71 n k28 σ v1 v2 v3 t0 t1 t2) := by
  unfold cs_Flocks_thriftiest_B_71
  refine pj_kk (fun ck_v1 => ?_)
  refine pj_kk (fun ck_t2 => ?_)
  refine pj_ck ?_
  refine pj_ltS (js_sg h) (fun s_32 hs_32 => ?_)
  refine pj_kk (fun _ => ?_)
  refine pj_ck ?_
  refine pj_ltV (fun x_35 => ?_)
  refine pj_if ?_ ?_
  · refine pj_cd (cj_Border_paths_B hs_32) (fun s_38 r_39 hs_38 => ?_)
    refine pj_if ?_ ?_
    · exact pj_some hs_38
    · refine pj_ltE ?_
      exact h_k28 _ _ _ hs_38
  · refine pj_ltE ?_
    exact h_k28 _ _ _ hs_32
theorem cj_Flocks_thriftiest_B_70 {n : Nat} {k28 : gb_S → Nat → Int32 → gb_CR Int32} {σ : gb_S} {v1 : Nat} {v2 : Int32} {v3 : Int32} {t0 : Int32} {t1 : Nat} (h_k28 : ∀ (s : gb_S) (x1 : Nat) (x2 : Int32), gb_JJ s → gb_pj (k28 s x1 x2)) (h : gb_JJ σ) : gb_pj (cs_Flocks_thriftiest_B_70 n k28 σ v1 v2 v3 t0 t1) := by
  unfold cs_Flocks_thriftiest_B_70
  refine pj_kk (fun ck_v1 => ?_)
  refine pj_kk (fun ck_t1 => ?_)
  exact cj_Flocks_thriftiest_B_71 h_k28 h
theorem cj_Flocks_thriftiest_B_28 {n : Nat} : ∀ (mm : Nat) (σ : gb_S) (v1 : Nat) (v2 : Int32), gb_JJ σ → gb_pj (cs_Flocks_thriftiest_B_28 n mm σ v1 v2) := by
  intro mm
  induction mm with
  | zero =>
    intros
    exact pj_none
  | succ mm ih =>
    intro σ v1 v2  h
    unfold cs_Flocks_thriftiest_B_28
    refine pj_kk (fun ck_v1 => ?_)
    refine pj_if ?_ ?_
    · exact pj_some h
    · refine pj_cd (cj_java_lang_Integer_bitCount h) (fun s_16 r_17 hs_16 => ?_)
      refine pj_ltE ?_
      refine pj_kk (fun _ => ?_)
      refine pj_cd (cj_Border_paths_B hs_16) (fun s_22 r_23 hs_22 => ?_)
      refine pj_if ?_ ?_
      · refine cj_Flocks_thriftiest_B_70 ?_ hs_22
        · intro σ v1 v2 hσ
          exact ih _ _ _ hσ
      · refine pj_cd (cj_Flocks_paysAll_B hs_22) (fun s_44 r_45 hs_44 => ?_)
        refine pj_if ?_ ?_
        · refine cj_Flocks_thriftiest_B_70 ?_ hs_44
          · intro σ v1 v2 hσ
            exact ih _ _ _ hσ
        · refine cj_Flocks_thriftiest_B_71 ?_ hs_44
          · intro σ v1 v2 hσ
            exact ih _ _ _ hσ
theorem cj_Flocks_thriftiest_B {n : Nat} {σ : gb_S} {p1 : Nat} (h : gb_JJ σ) : gb_pj (cs_Flocks_thriftiest_B n σ p1) := by
  unfold cs_Flocks_thriftiest_B
  refine pj_kk (fun ck_p1 => ?_)
  refine pj_cd (cj_Border_geese_B h) (fun s_2 r_3 hs_2 => ?_)
  refine pj_ltS (js_su hs_2) (fun s_6 hs_6 => ?_)
  refine pj_kk (fun _ => ?_)
  refine pj_ltS (js_sg hs_6) (fun s_8 hs_8 => ?_)
  refine pj_cd (cj_Border_paths_B hs_8) (fun s_9 r_10 hs_9 => ?_)
  refine pj_if ?_ ?_
  · exact pj_some hs_9
  · exact cj_Flocks_thriftiest_B_28 _ _ _ _ hs_9
theorem cj_Face_thrift {n : Nat} {σ : gb_S} {p1 : Int32} (h : gb_JJ σ) : gb_pj (cs_Face_thrift n σ p1) := by
  unfold cs_Face_thrift
  refine pj_cd (cj_Face_borderAt h) (fun s_1 r_2 hs_1 => ?_)
  refine pj_if ?_ ?_
  · exact pj_some hs_1
  · refine pj_kk (fun ck_r_2 => ?_)
    refine pj_cd (cj_Flocks_thriftiest_B hs_1) (fun s_7 r_8 hs_7 => ?_)
    exact pj_some hs_7
theorem cj_java_util_Arrays_fillJ_J_6 {n : Nat} : ∀ (mm : Nat) (σ : gb_S) (v0 : Nat) (v1 : Int64) (v3 : Int32) (v4 : Int32), gb_JJ σ → gb_pj (cs_java_util_Arrays_fillJ_J_6 n mm σ v0 v1 v3 v4) := by
  intro mm
  induction mm with
  | zero =>
    intros
    exact pj_none
  | succ mm ih =>
    intro σ v0 v1 v3 v4  h
    unfold cs_java_util_Arrays_fillJ_J_6
    refine pj_kk (fun ck_v0 => ?_)
    refine pj_if ?_ ?_
    · exact pj_some h
    · refine pj_ck ?_
      refine pj_ltS (js_sg h) (fun s_5 hs_5 => ?_)
      refine pj_ltE ?_
      exact ih _ _ _ _ _ hs_5
theorem cj_java_util_Arrays_fillJ_J {n : Nat} {σ : gb_S} {p1 : Nat} {p2 : Int64} (h : gb_JJ σ) : gb_pj (cs_java_util_Arrays_fillJ_J n σ p1 p2) := by
  unfold cs_java_util_Arrays_fillJ_J
  refine pj_kk (fun ck_p1 => ?_)
  exact cj_java_util_Arrays_fillJ_J_6 _ _ _ _ _ _ h
theorem cj_Flocks_addGoing_13 {n : Nat} : ∀ (mm : Nat) (σ : gb_S) (v1 : Int32) (v2 : Int32) (v3 : Int32), gb_JJ σ → gb_pj (cs_Flocks_addGoing_13 n mm σ v1 v2 v3) := by
  intro mm
  induction mm with
  | zero =>
    intros
    exact pj_none
  | succ mm ih =>
    intro σ v1 v2 v3  h
    unfold cs_Flocks_addGoing_13
    refine pj_if ?_ ?_
    · refine pj_kk (fun _ => ?_)
      refine pj_ck ?_
      refine pj_ltV (fun x_5 => ?_)
      refine pj_kk (fun _ => ?_)
      refine pj_ltV (fun x_7 => ?_)
      refine pj_ck ?_
      refine pj_ltS (js_sg h) (fun s_9 hs_9 => ?_)
      exact pj_some hs_9
    · refine pj_kk (fun _ => ?_)
      refine pj_ck ?_
      refine pj_ltV (fun x_12 => ?_)
      refine pj_kk (fun _ => ?_)
      refine pj_ck ?_
      refine pj_ltV (fun x_15 => ?_)
      refine pj_ck ?_
      refine pj_ltS (js_sg h) (fun s_17 hs_17 => ?_)
      refine pj_ltE ?_
      exact ih _ _ _ _ hs_17
theorem cj_Flocks_addGoing {n : Nat} {σ : gb_S} {p1 : Int32} (h : gb_JJ σ) : gb_pj (cs_Flocks_addGoing n σ p1) := by
  unfold cs_Flocks_addGoing
  refine pj_ltE ?_
  exact cj_Flocks_addGoing_13 _ _ _ _ _ h
theorem cj_Flocks_goBy_10 {n : Nat} : ∀ (mm : Nat) (σ : gb_S) (v1 : Int32) (v2 : Int32) (v3 : Int32), gb_JJ σ → gb_pj (cs_Flocks_goBy_10 n mm σ v1 v2 v3) := by
  intro mm
  induction mm with
  | zero =>
    intros
    exact pj_none
  | succ mm ih =>
    intro σ v1 v2 v3 h
    unfold cs_Flocks_goBy_10
    refine pj_if ?_ ?_
    · exact pj_kk (fun _ => pj_kk (fun _ => pj_ltE (pj_ltE (pj_some (js_sw h)))))
    · refine pj_ck ?_
      refine pj_ltV (fun x_12 => ?_)
      refine pj_if ?_ ?_
      · refine pj_if ?_ ?_
        · refine pj_cd (cj_Flocks_addGoing h) (fun s_17 _ hs_17 => ?_)
          refine pj_ltV (fun x_21 => ?_)
          exact ih _ _ _ _ hs_17
        · refine pj_ltV (fun x_16 => ?_)
          exact ih _ _ _ _ h
      · refine pj_ltV (fun x_14 => ?_)
        exact ih _ _ _ _ h
theorem cj_Flocks_goBy {n : Nat} {σ : gb_S} {p1 : Int32} {p2 : Int32} (h : gb_JJ σ) : gb_pj (cs_Flocks_goBy n σ p1 p2) := by
  unfold cs_Flocks_goBy
  refine pj_kk (fun _ => ?_)
  refine pj_cd (cj_java_util_Arrays_fillJ_J h) (fun s_2 _ hs_2 => ?_)
  exact cj_Flocks_goBy_10 _ _ _ _ _ hs_2
theorem cj_Flocks_findWays_B_D_28 {n : Nat} : ∀ (mm : Nat) (σ : gb_S) (v1 : Nat) (v2 : Nat) (v3 : Int32) (v4 : Int32) (v5 : Int32), gb_JJ σ → gb_pj (cs_Flocks_findWays_B_D_28 n mm σ v1 v2 v3 v4 v5) := by
  intro mm
  induction mm with
  | zero =>
    intros
    exact pj_none
  | succ mm ih =>
    intro σ v1 v2 v3 v4 v5  h
    unfold cs_Flocks_findWays_B_D_28
    refine pj_kk (fun ck_v1 => ?_)
    refine pj_kk (fun ck_v2 => ?_)
    refine pj_cd (cj_Lines_size_D h) (fun s_17 r_18 hs_17 => ?_)
    refine pj_if ?_ ?_
    · exact pj_some hs_17
    · refine pj_cd (cj_Dawn_pathSeen_D hs_17) (fun s_22 r_23 hs_22 => ?_)
      refine pj_cd (cj_Border_hasPath_B hs_22) (fun s_26 r_27 hs_26 => ?_)
      refine pj_if ?_ ?_
      · refine pj_cd (cj_Dawn_marksSeen_D hs_26) (fun s_31 r_32 hs_31 => ?_)
        refine pj_if ?_ ?_
        · refine pj_if ?_ ?_
          · refine pj_kk (fun _ => ?_)
            refine pj_cd (cj_java_util_Arrays_fillJ_J hs_31) (fun s_45 _ hs_45 => ?_)
            refine pj_ltE ?_
            exact ih _ _ _ _ _ _ hs_45
          · refine pj_ltE ?_
            exact ih _ _ _ _ _ _ hs_31
        · refine pj_kk (fun _ => ?_)
          refine pj_cd (cj_java_util_Arrays_fillJ_J hs_31) (fun s_37 _ hs_37 => ?_)
          refine pj_ltE ?_
          exact ih _ _ _ _ _ _ hs_37
      · refine pj_cd (cj_Flocks_sumUp_B_c131 hs_26) (fun s_50 _ hs_50 => ?_)
        refine pj_cd (cj_Dawn_marksSeen_D hs_50) (fun s_54 r_55 hs_54 => ?_)
        refine pj_if ?_ ?_
        · refine pj_cd (cj_Flocks_goBy hs_54) (fun s_59 _ hs_59 => ?_)
          refine pj_ltE ?_
          exact ih _ _ _ _ _ _ hs_59
        · refine pj_if ?_ ?_
          · refine pj_cd (cj_Flocks_goBy hs_54) (fun s_70 _ hs_70 => ?_)
            refine pj_ltE ?_
            exact ih _ _ _ _ _ _ hs_70
          · refine pj_cd (cj_Flocks_goBy hs_54) (fun s_65 _ hs_65 => ?_)
            refine pj_ltE ?_
            exact ih _ _ _ _ _ _ hs_65
theorem cj_Flocks_findWays_B_D {n : Nat} {σ : gb_S} {p1 : Nat} {p2 : Nat} {p3 : Int32} {p4 : Int32} (h : gb_JJ σ) : gb_pj (cs_Flocks_findWays_B_D n σ p1 p2 p3 p4) := by
  unfold cs_Flocks_findWays_B_D
  refine pj_kk (fun ck_p1 => ?_)
  refine pj_kk (fun ck_p2 => ?_)
  refine pj_cd (cj_Border_geese_B h) (fun s_3 r_4 hs_3 => ?_)
  refine pj_ltS (js_su hs_3) (fun s_7 hs_7 => ?_)
  refine pj_kk (fun _ => ?_)
  refine pj_cd (cj_java_util_Arrays_fillJ_J hs_7) (fun s_9 _ hs_9 => ?_)
  refine pj_kk (fun _ => ?_)
  refine pj_ltS (js_sg hs_9) (fun s_14 hs_14 => ?_)
  exact cj_Flocks_findWays_B_D_28 _ _ _ _ _ _ _ hs_14
theorem cj_Flocks_allWays_4 {n : Nat} : ∀ (mm : Nat) (σ : gb_S) (v1 : Int64) (v3 : Int32), gb_JJ σ → gb_pj (cs_Flocks_allWays_4 n mm σ v1 v3) := by
  intro mm
  induction mm with
  | zero =>
    intros
    exact pj_none
  | succ mm ih =>
    intro σ v1 v3  h
    unfold cs_Flocks_allWays_4
    refine pj_if ?_ ?_
    · exact pj_some h
    · refine pj_kk (fun _ => ?_)
      refine pj_ck ?_
      refine pj_ltV (fun x_4 => ?_)
      refine pj_ltE ?_
      refine pj_ltE ?_
      exact ih _ _ _ h
theorem cj_Flocks_allWays {n : Nat} {σ : gb_S} (h : gb_JJ σ) : gb_pj (cs_Flocks_allWays n σ) := by
  unfold cs_Flocks_allWays
  exact cj_Flocks_allWays_4 _ _ _ _ h
theorem cj_Face_fits {n : Nat} {σ : gb_S} {p1 : Int32} {p2 : Int32} (h : gb_JJ σ) : gb_pj (cs_Face_fits n σ p1 p2) := by
  unfold cs_Face_fits
  refine pj_cd (cj_Face_borderAt h) (fun s_1 r_2 hs_1 => ?_)
  refine pj_if ?_ ?_
  · refine pj_cd (cj_Face_dawnAt hs_1) (fun s_6 r_7 hs_6 => ?_)
    refine pj_if ?_ ?_
    · exact pj_some hs_6
    · refine pj_kk (fun ck_r_7 => ?_)
      exact pj_some hs_6
  · refine pj_kk (fun ck_r_2 => ?_)
    refine pj_cd (cj_Face_dawnAt hs_1) (fun s_13 r_14 hs_13 => ?_)
    refine pj_if ?_ ?_
    · exact pj_some hs_13
    · refine pj_kk (fun ck_r_14 => ?_)
      refine pj_cd (cj_Flocks_findWays_B_D hs_13) (fun s_19 _ hs_19 => ?_)
      refine pj_cd (cj_Flocks_allWays hs_19) (fun s_23 r_24 hs_23 => ?_)
      exact pj_some hs_23
theorem cj_Flocks_fewestGone_5 {n : Nat} : ∀ (mm : Nat) (σ : gb_S) (v1 : Int32) (v2 : Int32), gb_JJ σ → gb_pj (cs_Flocks_fewestGone_5 n mm σ v1 v2) := by
  intro mm
  induction mm with
  | zero =>
    intros
    exact pj_none
  | succ mm ih =>
    intro σ v1 v2  h
    unfold cs_Flocks_fewestGone_5
    refine pj_if ?_ ?_
    · exact pj_some h
    · refine pj_kk (fun _ => ?_)
      refine pj_ck ?_
      refine pj_ltV (fun x_4 => ?_)
      refine pj_if ?_ ?_
      · refine pj_ltE ?_
        exact ih _ _ _ h
      · refine pj_cd (cj_java_lang_Integer_bitCount h) (fun s_7 r_8 hs_7 => ?_)
        refine pj_ltV (fun x_11 => ?_)
        refine pj_ltE ?_
        exact ih _ _ _ hs_7
theorem cj_Flocks_fewestGone {n : Nat} {σ : gb_S} (h : gb_JJ σ) : gb_pj (cs_Flocks_fewestGone n σ) := by
  unfold cs_Flocks_fewestGone
  exact cj_Flocks_fewestGone_5 _ _ _ _ h
theorem cj_Flocks_mostGone_4 {n : Nat} : ∀ (mm : Nat) (σ : gb_S) (v1 : Int32) (v2 : Int32), gb_JJ σ → gb_pj (cs_Flocks_mostGone_4 n mm σ v1 v2) := by
  intro mm
  induction mm with
  | zero =>
    intros
    exact pj_none
  | succ mm ih =>
    intro σ v1 v2  h
    unfold cs_Flocks_mostGone_4
    refine pj_if ?_ ?_
    · exact pj_some h
    · refine pj_kk (fun _ => ?_)
      refine pj_ck ?_
      refine pj_ltV (fun x_4 => ?_)
      refine pj_if ?_ ?_
      · refine pj_ltE ?_
        exact ih _ _ _ h
      · refine pj_cd (cj_java_lang_Integer_bitCount h) (fun s_7 r_8 hs_7 => ?_)
        refine pj_ltV (fun x_11 => ?_)
        refine pj_ltE ?_
        exact ih _ _ _ hs_7
theorem cj_Flocks_mostGone {n : Nat} {σ : gb_S} (h : gb_JJ σ) : gb_pj (cs_Flocks_mostGone n σ) := by
  unfold cs_Flocks_mostGone
  exact cj_Flocks_mostGone_4 _ _ _ _ h
theorem cj_Flocks_sureOnes_9 {n : Nat} : ∀ (mm : Nat) (σ : gb_S) (v1 : Int32) (v2 : Int32), gb_JJ σ → gb_pj (cs_Flocks_sureOnes_9 n mm σ v1 v2) := by
  intro mm
  induction mm with
  | zero =>
    intros
    exact pj_none
  | succ mm ih =>
    intro σ v1 v2  h
    unfold cs_Flocks_sureOnes_9
    refine pj_if ?_ ?_
    · exact pj_some h
    · refine pj_kk (fun _ => ?_)
      refine pj_ck ?_
      refine pj_ltV (fun x_5 => ?_)
      refine pj_if ?_ ?_
      · refine pj_ltE ?_
        exact ih _ _ _ h
      · refine pj_ltE ?_
        refine pj_ltE ?_
        exact ih _ _ _ h
theorem cj_Flocks_sureOnes {n : Nat} {σ : gb_S} (h : gb_JJ σ) : gb_pj (cs_Flocks_sureOnes n σ) := by
  unfold cs_Flocks_sureOnes
  refine pj_ltE ?_
  exact cj_Flocks_sureOnes_9 _ _ _ _ h
theorem cj_Flocks_pathsInAnyWay_B_D_6 {n : Nat} : ∀ (mm : Nat) (σ : gb_S) (v1 : Nat) (v2 : Nat) (v3 : Int32) (v4 : Int32) (v5 : Int32), gb_JJ σ → gb_pj (cs_Flocks_pathsInAnyWay_B_D_6 n mm σ v1 v2 v3 v4 v5) := by
  intro mm
  induction mm with
  | zero =>
    intros
    exact pj_none
  | succ mm ih =>
    intro σ v1 v2 v3 v4 v5  h
    unfold cs_Flocks_pathsInAnyWay_B_D_6
    refine pj_kk (fun ck_v1 => ?_)
    refine pj_kk (fun ck_v2 => ?_)
    refine pj_cd (cj_Lines_size_D h) (fun s_5 r_6 hs_5 => ?_)
    refine pj_if ?_ ?_
    · exact pj_some hs_5
    · refine pj_cd (cj_Flocks_findWays_B_D hs_5) (fun s_10 _ hs_10 => ?_)
      refine pj_cd (cj_Flocks_allWays hs_10) (fun s_14 r_15 hs_14 => ?_)
      refine pj_if ?_ ?_
      · refine pj_ltE ?_
        exact ih _ _ _ _ _ _ hs_14
      · refine pj_cd (cj_Dawn_pathSeen_D hs_14) (fun s_20 r_21 hs_20 => ?_)
        refine pj_ltE ?_
        refine pj_ltE ?_
        exact ih _ _ _ _ _ _ hs_20
theorem cj_Flocks_pathsInAnyWay_B_D {n : Nat} {σ : gb_S} {p1 : Nat} {p2 : Nat} {p3 : Int32} (h : gb_JJ σ) : gb_pj (cs_Flocks_pathsInAnyWay_B_D n σ p1 p2 p3) := by
  unfold cs_Flocks_pathsInAnyWay_B_D
  refine pj_kk (fun ck_p1 => ?_)
  refine pj_kk (fun ck_p2 => ?_)
  exact cj_Flocks_pathsInAnyWay_B_D_6 _ _ _ _ _ _ _ h
theorem cj_Face_toeOf_B_D_12 {n : Nat} {k2 : gb_S → Nat → Nat → Int32 → gb_CR Int32} (h_k2 : ∀ (s : gb_S) (x1 : Nat) (x2 : Nat) (x3 : Int32), gb_JJ s → gb_pj (k2 s x1 x2 x3)) : ∀ (mm : Nat) (σ : gb_S) (v0 : Nat) (v1 : Nat) (v2 : Int32) (v3 : Int32), gb_JJ σ → gb_pj (cs_Face_toeOf_B_D_12 n k2 mm σ v0 v1 v2 v3) := by
  intro mm
  induction mm with
  | zero =>
    intros
    exact pj_none
  | succ mm ih =>
    intro σ v0 v1 v2 v3  h
    unfold cs_Face_toeOf_B_D_12
    refine pj_kk (fun ck_v0 => ?_)
    refine pj_kk (fun ck_v1 => ?_)
    refine pj_cd (cj_Lines_size_D h) (fun s_12 r_13 hs_12 => ?_)
    refine pj_if ?_ ?_
    · refine pj_ltE ?_
      exact h_k2 _ _ _ _ hs_12
    · refine pj_cd (cj_Dawn_pathSeen_D hs_12) (fun s_18 r_19 hs_18 => ?_)
      refine pj_cd (cj_Border_hasPath_B hs_18) (fun s_22 r_23 hs_22 => ?_)
      refine pj_if ?_ ?_
      · refine pj_ltE ?_
        exact ih _ _ _ _ _ hs_22
      · refine pj_cd (cj_Border_marksFirst_B hs_22) (fun s_28 r_29 hs_28 => ?_)
        refine pj_cd (cj_Dawn_marksSeen_D hs_28) (fun s_32 r_33 hs_32 => ?_)
        refine pj_if ?_ ?_
        · exact pj_some hs_32
        · refine pj_ltE ?_
          exact ih _ _ _ _ _ hs_32
theorem cj_Face_toeOf_B_D_2 {n : Nat} : ∀ (mm : Nat) (σ : gb_S) (v0 : Nat) (v1 : Nat) (v2 : Int32), gb_JJ σ → gb_pj (cs_Face_toeOf_B_D_2 n mm σ v0 v1 v2) := by
  intro mm
  induction mm with
  | zero =>
    intros
    exact pj_none
  | succ mm ih =>
    intro σ v0 v1 v2  h
    unfold cs_Face_toeOf_B_D_2
    refine pj_kk (fun ck_v0 => ?_)
    refine pj_kk (fun ck_v1 => ?_)
    refine pj_cd (cj_Border_geese_B h) (fun s_5 r_6 hs_5 => ?_)
    refine pj_if ?_ ?_
    · exact pj_some hs_5
    · refine cj_Face_toeOf_B_D_12 ?_ _ _ _ _ _ _ hs_5
      · intro σ v0 v1 v2 hσ
        exact ih _ _ _ _ hσ
theorem cj_Face_toeOf_B_D {n : Nat} {σ : gb_S} {p1 : Nat} {p2 : Nat} (h : gb_JJ σ) : gb_pj (cs_Face_toeOf_B_D n σ p1 p2) := by
  unfold cs_Face_toeOf_B_D
  refine pj_kk (fun ck_p1 => ?_)
  refine pj_kk (fun ck_p2 => ?_)
  exact cj_Face_toeOf_B_D_2 _ _ _ _ _ h
theorem cj_Face_told_82 {n : Nat} {σ : gb_S} {v3 : Int32} {v4 : Nat} {v5 : Nat} (h : gb_JJ σ) : gb_pj (cs_Face_told_82 n σ v3 v4 v5) := by
  unfold cs_Face_told_82
  refine pj_kk (fun ck_v4 => ?_)
  refine pj_kk (fun ck_v5 => ?_)
  refine pj_cd (cj_Flocks_findWays_B_D h) (fun s_28 _ hs_28 => ?_)
  refine pj_cd (cj_Flocks_allWays hs_28) (fun s_32 r_33 hs_32 => ?_)
  refine pj_if ?_ ?_
  · exact pj_some hs_32
  · refine pj_if ?_ ?_
    · refine pj_cd (cj_Flocks_fewestGone hs_32) (fun s_38 r_39 hs_38 => ?_)
      exact pj_some hs_38
    · refine pj_if ?_ ?_
      · refine pj_cd (cj_Flocks_mostGone hs_32) (fun s_43 r_44 hs_43 => ?_)
        exact pj_some hs_43
      · refine pj_if ?_ ?_
        · refine pj_cd (cj_Flocks_sureOnes hs_32) (fun s_48 r_49 hs_48 => ?_)
          exact pj_some hs_48
        · refine pj_cd (cj_Flocks_pathsInAnyWay_B_D hs_32) (fun s_52 r_53 hs_52 => ?_)
          exact pj_some hs_52
theorem cj_Face_told_63 {n : Nat} {σ : gb_S} {v3 : Int32} {v4 : Nat} {v5 : Nat} {t0 : Int32} (h : gb_JJ σ) : gb_pj (cs_Face_told_63 n σ v3 v4 v5 t0) := by
  unfold cs_Face_told_63
  refine pj_kk (fun ck_v4 => ?_)
  refine pj_kk (fun ck_v5 => ?_)
  refine pj_if ?_ ?_
  · refine pj_if ?_ ?_
    · exact pj_some h
    · refine pj_if ?_ ?_
      · exact cj_Face_told_82 h
      · exact pj_some h
  · exact cj_Face_told_82 h
theorem cj_Face_told_62 {n : Nat} {σ : gb_S} {v3 : Int32} {v4 : Nat} {v5 : Nat} (h : gb_JJ σ) : gb_pj (cs_Face_told_62 n σ v3 v4 v5) := by
  unfold cs_Face_told_62
  refine pj_kk (fun ck_v4 => ?_)
  refine pj_kk (fun ck_v5 => ?_)
  exact cj_Face_told_63 h
theorem cj_Face_told {n : Nat} {σ : gb_S} {p1 : Int32} {p2 : Int32} {p3 : Int32} (h : gb_JJ σ) : gb_pj (cs_Face_told n σ p1 p2 p3) := by
  unfold cs_Face_told
  refine pj_cd (cj_Face_borderAt h) (fun s_1 r_2 hs_1 => ?_)
  refine pj_if ?_ ?_
  · refine pj_cd (cj_Face_dawnAt hs_1) (fun s_6 r_7 hs_6 => ?_)
    refine pj_if ?_ ?_
    · exact pj_some hs_6
    · refine pj_kk (fun ck_r_7 => ?_)
      exact pj_some hs_6
  · refine pj_kk (fun ck_r_2 => ?_)
    refine pj_cd (cj_Face_dawnAt hs_1) (fun s_13 r_14 hs_13 => ?_)
    refine pj_if ?_ ?_
    · exact pj_some hs_13
    · refine pj_kk (fun ck_r_14 => ?_)
      refine pj_if ?_ ?_
      · refine pj_cd (cj_Face_toeOf_B_D hs_13) (fun s_63 r_64 hs_63 => ?_)
        exact pj_some hs_63
      · refine pj_if ?_ ?_
        · exact cj_Face_told_62 hs_13
        · refine pj_cd (cj_Border_hasGoose_B hs_13) (fun s_58 r_59 hs_58 => ?_)
          refine pj_if ?_ ?_
          · exact cj_Face_told_62 hs_58
          · exact cj_Face_told_63 hs_58
theorem cj_Face_isDrawnOf_B_9 {n : Nat} {σ : gb_S} {v0 : Nat} {v1 : Int32} (h : gb_JJ σ) : gb_pj (cs_Face_isDrawnOf_B_9 n σ v0 v1) := by
  unfold cs_Face_isDrawnOf_B_9
  refine pj_kk (fun ck_v0 => ?_)
  refine pj_if ?_ ?_
  · refine pj_if ?_ ?_
    · exact pj_some h
    · refine pj_cd (cj_Border_hasGoose_B h) (fun s_6 r_7 hs_6 => ?_)
      refine pj_if ?_ ?_
      · exact pj_some hs_6
      · exact pj_some hs_6
  · refine pj_if ?_ ?_
    · refine pj_if ?_ ?_
      · exact pj_some h
      · refine pj_cd (cj_Border_hasGoose_B h) (fun s_13 r_14 hs_13 => ?_)
        refine pj_if ?_ ?_
        · exact pj_some hs_13
        · exact pj_some hs_13
    · refine pj_cd (cj_Border_hasPath_B h) (fun s_18 r_19 hs_18 => ?_)
      refine pj_if ?_ ?_
      · refine pj_if ?_ ?_
        · exact pj_some hs_18
        · refine pj_cd (cj_Border_hasGoose_B hs_18) (fun s_24 r_25 hs_24 => ?_)
          refine pj_if ?_ ?_
          · exact pj_some hs_24
          · exact pj_some hs_24
      · exact pj_some hs_18
theorem cj_Face_isDrawnOf_B {n : Nat} {σ : gb_S} {p1 : Nat} {p2 : Int32} (h : gb_JJ σ) : gb_pj (cs_Face_isDrawnOf_B n σ p1 p2) := by
  unfold cs_Face_isDrawnOf_B
  refine pj_kk (fun ck_p1 => ?_)
  refine pj_if ?_ ?_
  · exact cj_Face_isDrawnOf_B_9 h
  · refine pj_if ?_ ?_
    · exact pj_some h
    · exact cj_Face_isDrawnOf_B_9 h
theorem cj_Face_numberBelow {n : Nat} {σ : gb_S} {p1 : Int32} (h : gb_JJ σ) : gb_pj (cs_Face_numberBelow n σ p1) := by
  unfold cs_Face_numberBelow
  refine pj_ltS (js_su h) (fun s_1 hs_1 => ?_)
  refine pj_if ?_ ?_
  · exact pj_some hs_1
  · refine pj_nz ?_
    refine pj_ltE ?_
    exact pj_some hs_1
theorem cj_Play_allTallies_4 {n : Nat} : ∀ (mm : Nat) (σ : gb_S) (v1 : Int32) (v2 : Int32), gb_JJ σ → gb_pj (cs_Play_allTallies_4 n mm σ v1 v2) := by
  intro mm
  induction mm with
  | zero =>
    intros
    exact pj_none
  | succ mm ih =>
    intro σ v1 v2  h
    unfold cs_Play_allTallies_4
    refine pj_kk (fun _ => ?_)
    refine pj_cd (cj_Border_paths_B h) (fun s_2 r_3 hs_2 => ?_)
    refine pj_if ?_ ?_
    · exact pj_some hs_2
    · refine pj_cd (cj_Play_tally hs_2) (fun s_7 r_8 hs_7 => ?_)
      refine pj_ltE ?_
      refine pj_ltE ?_
      exact ih _ _ _ hs_7
theorem cj_Play_allTallies {n : Nat} {σ : gb_S} (h : gb_JJ σ) : gb_pj (cs_Play_allTallies n σ) := by
  unfold cs_Play_allTallies
  exact cj_Play_allTallies_4 _ _ _ _ h
theorem cj_Face_drawnNight_B_70 {n : Nat} : ∀ (mm : Nat) (σ : gb_S) (v1 : Nat) (v2 : Int32) (v3 : Int32) (v4 : Int32), gb_JJ σ → gb_pj (cs_Face_drawnNight_B_70 n mm σ v1 v2 v3 v4) := by
  intro mm
  induction mm with
  | zero =>
    intros
    exact pj_none
  | succ mm ih =>
    intro σ v1 v2 v3 v4  h
    unfold cs_Face_drawnNight_B_70
    refine pj_kk (fun ck_v1 => ?_)
    refine pj_cd (cj_Border_paths_B h) (fun s_21 r_22 hs_21 => ?_)
    refine pj_if ?_ ?_
    · refine pj_if ?_ ?_
      · refine pj_cd (cj_Play_allTallies hs_21) (fun s_27 r_28 hs_27 => ?_)
        exact pj_some hs_27
      · refine pj_if ?_ ?_
        · refine pj_cd (cj_Play_allPay hs_21) (fun s_32 r_33 hs_32 => ?_)
          exact pj_some hs_32
        · refine pj_if ?_ ?_
          · exact pj_some hs_21
          · refine pj_if ?_ ?_
            · refine pj_ck ?_
              refine pj_ltV (fun x_39 => ?_)
              exact pj_some hs_21
            · refine pj_cd (cj_Play_tally hs_21) (fun s_40 r_41 hs_40 => ?_)
              exact pj_some hs_40
    · refine pj_cd (cj_Face_numberBelow hs_21) (fun s_44 r_45 hs_44 => ?_)
      refine pj_cd (cj_Border_pad_B hs_44) (fun s_48 r_49 hs_48 => ?_)
      refine pj_if ?_ ?_
      · refine pj_ltE ?_
        exact ih _ _ _ _ _ hs_48
      · refine pj_ltE ?_
        refine pj_ltE ?_
        exact ih _ _ _ _ _ hs_48
theorem cj_Face_drawnNight_B_10 {n : Nat} : ∀ (mm : Nat) (σ : gb_S) (v1 : Nat) (v2 : Int32) (v3 : Int32), gb_JJ σ → gb_pj (cs_Face_drawnNight_B_10 n mm σ v1 v2 v3) := by
  intro mm
  induction mm with
  | zero =>
    intros
    exact pj_none
  | succ mm ih =>
    intro σ v1 v2 v3  h
    unfold cs_Face_drawnNight_B_10
    refine pj_kk (fun ck_v1 => ?_)
    refine pj_cd (cj_Border_geese_B h) (fun s_7 r_8 hs_7 => ?_)
    refine pj_if ?_ ?_
    · refine pj_cd (cj_Face_numberBelow hs_7) (fun s_12 r_13 hs_12 => ?_)
      refine pj_cd (cj_Play_rainDown hs_12) (fun s_16 _ hs_16 => ?_)
      exact cj_Face_drawnNight_B_70 _ _ _ _ _ _ hs_16
    · refine pj_cd (cj_Border_paths_B hs_7) (fun s_56 r_57 hs_56 => ?_)
      refine pj_cd (cj_Face_numberBelow hs_56) (fun s_60 r_61 hs_60 => ?_)
      refine pj_cd (cj_Play_go_c116 hs_60) (fun s_64 _ hs_64 => ?_)
      refine pj_ltE ?_
      exact ih _ _ _ _ hs_64
theorem cj_Face_drawnNight_B {n : Nat} {σ : gb_S} {p1 : Nat} {p2 : Int32} (h : gb_JJ σ) : gb_pj (cs_Face_drawnNight_B n σ p1 p2) := by
  unfold cs_Face_drawnNight_B
  refine pj_kk (fun ck_p1 => ?_)
  refine pj_cd (cj_Play_begin_B h) (fun s_2 _ hs_2 => ?_)
  exact cj_Face_drawnNight_B_10 _ _ _ _ _ hs_2
theorem cj_Face_drawn_54 {n : Nat} : ∀ (mm : Nat) (σ : gb_S) (v3 : Int32) (v4 : Int32) (v5 : Nat) (v6 : Int32) (v7 : Int32), gb_JJ σ → gb_pj (cs_Face_drawn_54 n mm σ v3 v4 v5 v6 v7) := by
  intro mm
  induction mm with
  | zero =>
    intros
    exact pj_none
  | succ mm ih =>
    intro σ v3 v4 v5 v6 v7  h
    unfold cs_Face_drawn_54
    refine pj_kk (fun ck_v5 => ?_)
    refine pj_if ?_ ?_
    · exact pj_some h
    · refine pj_cd (cj_Face_drawnNight_B h) (fun s_22 r_23 hs_22 => ?_)
      refine pj_ltE ?_
      refine pj_ltE ?_
      exact ih _ _ _ _ _ _ hs_22
theorem cj_Face_drawn {n : Nat} {σ : gb_S} {p1 : Int32} {p2 : Int32} {p3 : Int32} {p4 : Int32} (h : gb_JJ σ) : gb_pj (cs_Face_drawn n σ p1 p2 p3 p4) := by
  unfold cs_Face_drawn
  refine pj_cd (cj_Face_borderAt h) (fun s_1 r_2 hs_1 => ?_)
  refine pj_if ?_ ?_
  · exact pj_some hs_1
  · refine pj_kk (fun ck_r_2 => ?_)
    refine pj_cd (cj_Border_paths_B hs_1) (fun s_7 r_8 hs_7 => ?_)
    refine pj_if ?_ ?_
    · exact pj_some hs_7
    · refine pj_if ?_ ?_
      · exact pj_some hs_7
      · refine pj_if ?_ ?_
        · exact pj_some hs_7
        · refine pj_cd (cj_Face_isDrawnOf_B hs_7) (fun s_14 r_15 hs_14 => ?_)
          refine pj_if ?_ ?_
          · exact pj_some hs_14
          · refine pj_ltS (js_su hs_14) (fun s_19 hs_19 => ?_)
            exact cj_Face_drawn_54 _ _ _ _ _ _ _ hs_19
theorem cj_Reader_wordOf {n : Nat} {σ : gb_S} {p1 : Int32} (h : gb_JJ σ) : gb_pj (cs_Reader_wordOf n σ p1) := by
  unfold cs_Reader_wordOf
  refine pj_if ?_ ?_
  · exact pj_some h
  · refine pj_if ?_ ?_
    · exact pj_some h
    · refine pj_if ?_ ?_
      · exact pj_some h
      · refine pj_if ?_ ?_
        · exact pj_some h
        · refine pj_if ?_ ?_
          · exact pj_some h
          · refine pj_if ?_ ?_
            · exact pj_some h
            · refine pj_if ?_ ?_
              · exact pj_some h
              · refine pj_if ?_ ?_
                · exact pj_some h
                · refine pj_if ?_ ?_
                  · exact pj_some h
                  · refine pj_if ?_ ?_
                    · exact pj_some h
                    · refine pj_if ?_ ?_
                      · exact pj_some h
                      · refine pj_if ?_ ?_
                        · exact pj_some h
                        · refine pj_if ?_ ?_
                          · exact pj_some h
                          · refine pj_if ?_ ?_
                            · exact pj_some h
                            · refine pj_if ?_ ?_
                              · exact pj_some h
                              · refine pj_if ?_ ?_
                                · exact pj_some h
                                · refine pj_if ?_ ?_
                                  · exact pj_some h
                                  · exact pj_some h
theorem cj_java_lang_String_coder_W {n : Nat} {σ : gb_S} {k0 : Nat} (h : gb_JJ σ) : gb_pj (cs_java_lang_String_coder_W n σ k0) := by
  unfold cs_java_lang_String_coder_W
  refine pj_kk (fun ck_k0 => ?_)
  refine pj_if ?_ ?_
  · exact pj_some h
  · exact pj_some h
theorem cj_java_lang_String_length_W {n : Nat} {σ : gb_S} {k0 : Nat} (h : gb_JJ σ) : gb_pj (cs_java_lang_String_length_W n σ k0) := by
  unfold cs_java_lang_String_length_W
  refine pj_kk (fun ck_k0 => ?_)
  refine pj_cd (cj_java_lang_String_coder_W h) (fun s_2 r_3 hs_2 => ?_)
  exact pj_some hs_2
theorem cj_java_lang_String_isLatin1_W {n : Nat} {σ : gb_S} {k0 : Nat} (h : gb_JJ σ) : gb_pj (cs_java_lang_String_isLatin1_W n σ k0) := by
  unfold cs_java_lang_String_isLatin1_W
  refine pj_kk (fun ck_k0 => ?_)
  refine pj_if ?_ ?_
  · exact pj_some h
  · refine pj_if ?_ ?_
    · exact pj_some h
    · exact pj_some h
theorem cj_jdk_internal_util_Preconditions_checkIndex_n {n : Nat} {σ : gb_S} {p1 : Int32} {p2 : Int32} (h : gb_JJ σ) : gb_pj (cs_jdk_internal_util_Preconditions_checkIndex_n n σ p1 p2) := by
  unfold cs_jdk_internal_util_Preconditions_checkIndex_n
  refine pj_if ?_ ?_
  · exact pj_none
  · refine pj_if ?_ ?_
    · exact pj_some h
    · exact pj_none
theorem cj_java_lang_String_checkIndex {n : Nat} {σ : gb_S} {p1 : Int32} {p2 : Int32} (h : gb_JJ σ) : gb_pj (cs_java_lang_String_checkIndex n σ p1 p2) := by
  unfold cs_java_lang_String_checkIndex
  refine pj_cd (cj_jdk_internal_util_Preconditions_checkIndex_n h) (fun s_1 r_2 hs_1 => ?_)
  exact pj_some hs_1
theorem cj_java_lang_StringLatin1_charAt_V {n : Nat} {σ : gb_S} {p1 : Nat} {p2 : Int32} (h : gb_JJ σ) : gb_pj (cs_java_lang_StringLatin1_charAt_V n σ p1 p2) := by
  unfold cs_java_lang_StringLatin1_charAt_V
  refine pj_kk (fun ck_p1 => ?_)
  refine pj_cd (cj_java_lang_String_checkIndex h) (fun s_2 _ hs_2 => ?_)
  refine pj_ck ?_
  exact pj_some hs_2
theorem cj_java_lang_String_charAt_W {n : Nat} {σ : gb_S} {k0 : Nat} {p1 : Int32} (h : gb_JJ σ) : gb_pj (cs_java_lang_String_charAt_W n σ k0 p1) := by
  unfold cs_java_lang_String_charAt_W
  refine pj_kk (fun ck_k0 => ?_)
  refine pj_cd (cj_java_lang_String_isLatin1_W h) (fun s_2 r_3 hs_2 => ?_)
  refine pj_if ?_ ?_
  · exact pj_none
  · refine pj_cd (cj_java_lang_StringLatin1_charAt_V hs_2) (fun s_7 r_8 hs_7 => ?_)
    refine pj_cc ?_
    exact pj_some hs_7
theorem cj_Reader_isWord_W_17 {n : Nat} : ∀ (mm : Nat) (σ : gb_S) (v1 : Nat) (v3 : Int32), gb_JJ σ → gb_pj (cs_Reader_isWord_W_17 n mm σ v1 v3) := by
  intro mm
  induction mm with
  | zero =>
    intros
    exact pj_none
  | succ mm ih =>
    intro σ v1 v3  h
    unfold cs_Reader_isWord_W_17
    refine pj_kk (fun ck_v1 => ?_)
    refine pj_cd (cj_java_lang_String_length_W h) (fun s_8 r_9 hs_8 => ?_)
    refine pj_if ?_ ?_
    · exact pj_some hs_8
    · refine pj_kk (fun _ => ?_)
      refine pj_ck ?_
      refine pj_ltV (fun x_15 => ?_)
      refine pj_cd (cj_java_lang_String_charAt_W hs_8) (fun s_16 r_17 hs_16 => ?_)
      refine pj_if ?_ ?_
      · refine pj_ltE ?_
        exact ih _ _ _ hs_16
      · exact pj_some hs_16
theorem cj_Reader_isWord_W {n : Nat} {σ : gb_S} {p1 : Nat} {p2 : Int32} (h : gb_JJ σ) : gb_pj (cs_Reader_isWord_W n σ p1 p2) := by
  unfold cs_Reader_isWord_W
  refine pj_kk (fun ck_p1 => ?_)
  refine pj_cd (cj_java_lang_String_length_W h) (fun s_2 r_3 hs_2 => ?_)
  refine pj_if ?_ ?_
  · exact cj_Reader_isWord_W_17 _ _ _ _ hs_2
  · exact pj_some hs_2
theorem cj_Reader_takeWord_47 {n : Nat} : ∀ (mm : Nat) (σ : gb_S) (v1 : Int32) (v2 : Int32) (v3 : Int32), gb_JJ σ → gb_pj (cs_Reader_takeWord_47 n mm σ v1 v2 v3) := by
  intro mm
  induction mm with
  | zero =>
    intros
    exact pj_none
  | succ mm ih =>
    intro σ v1 v2 v3  h
    unfold cs_Reader_takeWord_47
    refine pj_ck ?_
    refine pj_ltV (fun x_6 => ?_)
    refine pj_if ?_ ?_
    · exact pj_some h
    · refine pj_cd (cj_Reader_wordOf h) (fun s_8 r_9 hs_8 => ?_)
      refine pj_kk (fun ck_r_9 => ?_)
      refine pj_cd (cj_Reader_isWord_W hs_8) (fun s_13 r_14 hs_13 => ?_)
      refine pj_if ?_ ?_
      · refine pj_ltE ?_
        exact ih _ _ _ _ hs_13
      · refine pj_ltS (js_su hs_13) (fun s_19 hs_19 => ?_)
        exact pj_some hs_19
theorem cj_Reader_takeWord_5 {n : Nat} : ∀ (mm : Nat) (σ : gb_S) (v1 : Int32) (v2 : Int32), gb_JJ σ → gb_pj (cs_Reader_takeWord_5 n mm σ v1 v2) := by
  intro mm
  induction mm with
  | zero =>
    intros
    exact pj_none
  | succ mm ih =>
    intro σ v1 v2  h
    unfold cs_Reader_takeWord_5
    refine pj_if ?_ ?_
    · refine pj_ck ?_
      refine pj_ltV (fun x_4 => ?_)
      exact cj_Reader_takeWord_47 _ _ _ _ _ h
    · refine pj_kk (fun _ => ?_)
      refine pj_ck ?_
      refine pj_ltV (fun x_22 => ?_)
      refine pj_if ?_ ?_
      · refine pj_ck ?_
        refine pj_ltV (fun x_25 => ?_)
        exact cj_Reader_takeWord_47 _ _ _ _ _ h
      · refine pj_kk (fun _ => ?_)
        refine pj_ck ?_
        refine pj_ltV (fun x_28 => ?_)
        refine pj_if ?_ ?_
        · refine pj_ck ?_
          refine pj_ltV (fun x_31 => ?_)
          exact cj_Reader_takeWord_47 _ _ _ _ _ h
        · refine pj_ltE ?_
          exact ih _ _ _ h
theorem cj_Reader_takeWord {n : Nat} {σ : gb_S} {p1 : Int32} (h : gb_JJ σ) : gb_pj (cs_Reader_takeWord n σ p1) := by
  unfold cs_Reader_takeWord
  refine pj_ltV (fun x_1 => ?_)
  exact cj_Reader_takeWord_5 _ _ _ _ h
theorem cj_Border_addLine_B_c107 {n : Nat} {σ : gb_S} {k0 : Nat} {p1 : Int32} (h : gb_JJ σ) : gb_pj (cs_Border_addLine_B_c107 n σ k0 p1) := by
  unfold cs_Border_addLine_B_c107
  refine pj_kk (fun ck_k0 => ?_)
  refine pj_cd (cj_Border_hasRoomFor_B h) (fun s_2 r_3 hs_2 => ?_)
  refine pj_if ?_ ?_
  · exact pj_some hs_2
  · refine pj_if ?_ ?_
    · refine pj_ltV (fun x_26 => ?_)
      refine pj_ltS (js_su hs_2) (fun s_27 hs_27 => ?_)
      exact pj_some hs_27
    · refine pj_if ?_ ?_
      · refine pj_cd (cj_Border_paths_B hs_2) (fun s_18 r_19 hs_18 => ?_)
        refine pj_ac ?_
        refine pj_ltS (js_su hs_18) (fun s_23 hs_23 => ?_)
        refine pj_ltV (fun x_24 => ?_)
        refine pj_ltS (js_su hs_23) (fun s_25 hs_25 => ?_)
        exact pj_some hs_25
      · refine pj_if ?_ ?_
        · refine pj_cd (cj_Border_geese_B hs_2) (fun s_10 r_11 hs_10 => ?_)
          refine pj_ac ?_
          refine pj_ltS (js_su hs_10) (fun s_15 hs_15 => ?_)
          refine pj_ltV (fun x_16 => ?_)
          refine pj_ltS (js_su hs_15) (fun s_17 hs_17 => ?_)
          exact pj_some hs_17
        · exact pj_some hs_2
theorem cj_Lines_hasRoomFor_N {n : Nat} {σ : gb_S} {k0 : Nat} {p1 : Int32} (h : gb_JJ σ) : gb_pj (cs_Lines_hasRoomFor_N n σ k0 p1) := by
  unfold cs_Lines_hasRoomFor_N
  refine pj_kk (fun ck_k0 => ?_)
  refine pj_cd (cj_Lines_size_N h) (fun s_2 r_3 hs_2 => ?_)
  refine pj_if ?_ ?_
  · exact pj_some hs_2
  · exact pj_some hs_2
theorem cj_Lines_addLine_N_c107_48 {n : Nat} : ∀ (mm : Nat) (σ : gb_S) (v0 : Nat) (v1 : Int32) (v3 : Int32) (v4 : Int32), gb_JJ σ → gb_pj (cs_Lines_addLine_N_c107_48 n mm σ v0 v1 v3 v4) := by
  intro mm
  induction mm with
  | zero =>
    intros
    exact pj_none
  | succ mm ih =>
    intro σ v0 v1 v3 v4  h
    unfold cs_Lines_addLine_N_c107_48
    refine pj_kk (fun ck_v0 => ?_)
    refine pj_if ?_ ?_
    · refine pj_ltV (fun x_18 => ?_)
      refine pj_ltS (js_su h) (fun s_19 hs_19 => ?_)
      exact pj_some hs_19
    · refine pj_ck ?_
      refine pj_ltV (fun x_21 => ?_)
      refine pj_if ?_ ?_
      · refine pj_ck ?_
        refine pj_ltS (js_su h) (fun s_24 hs_24 => ?_)
        refine pj_ltE ?_
        exact ih _ _ _ _ _ hs_24
      · refine pj_ck ?_
        refine pj_ltV (fun x_27 => ?_)
        refine pj_ck ?_
        refine pj_ltS (js_su h) (fun s_29 hs_29 => ?_)
        refine pj_ltE ?_
        exact ih _ _ _ _ _ hs_29
theorem cj_Lines_addLine_N_c107 {n : Nat} {σ : gb_S} {k0 : Nat} {p1 : Int32} (h : gb_JJ σ) : gb_pj (cs_Lines_addLine_N_c107 n σ k0 p1) := by
  unfold cs_Lines_addLine_N_c107
  refine pj_kk (fun ck_k0 => ?_)
  refine pj_cd (cj_Lines_hasRoomFor_N h) (fun s_2 r_3 hs_2 => ?_)
  refine pj_if ?_ ?_
  · exact pj_some hs_2
  · refine pj_if ?_ ?_
    · exact pj_some hs_2
    · refine pj_if ?_ ?_
      · refine pj_cd (cj_Lines_size_N hs_2) (fun s_9 r_10 hs_9 => ?_)
        refine pj_ltE ?_
        refine pj_ck ?_
        refine pj_ltS (js_su hs_9) (fun s_15 hs_15 => ?_)
        exact cj_Lines_addLine_N_c107_48 _ _ _ _ _ _ hs_15
      · exact pj_some hs_2
theorem cj_Lines_hasRoomFor_L {n : Nat} {σ : gb_S} {k0 : Nat} {p1 : Int32} (h : gb_JJ σ) : gb_pj (cs_Lines_hasRoomFor_L n σ k0 p1) := by
  unfold cs_Lines_hasRoomFor_L
  refine pj_kk (fun ck_k0 => ?_)
  refine pj_cd (cj_Lines_size_L h) (fun s_2 r_3 hs_2 => ?_)
  refine pj_if ?_ ?_
  · exact pj_some hs_2
  · exact pj_some hs_2
theorem cj_Lines_addLine_L_c107_48 {n : Nat} : ∀ (mm : Nat) (σ : gb_S) (v0 : Nat) (v1 : Int32) (v3 : Int32) (v4 : Int32), gb_JJ σ → gb_pj (cs_Lines_addLine_L_c107_48 n mm σ v0 v1 v3 v4) := by
  intro mm
  induction mm with
  | zero =>
    intros
    exact pj_none
  | succ mm ih =>
    intro σ v0 v1 v3 v4  h
    unfold cs_Lines_addLine_L_c107_48
    refine pj_kk (fun ck_v0 => ?_)
    refine pj_if ?_ ?_
    · refine pj_ltV (fun x_18 => ?_)
      refine pj_ltS (js_su h) (fun s_19 hs_19 => ?_)
      exact pj_some hs_19
    · refine pj_ck ?_
      refine pj_ltV (fun x_21 => ?_)
      refine pj_if ?_ ?_
      · refine pj_ck ?_
        refine pj_ltS (js_su h) (fun s_24 hs_24 => ?_)
        refine pj_ltE ?_
        exact ih _ _ _ _ _ hs_24
      · refine pj_ck ?_
        refine pj_ltV (fun x_27 => ?_)
        refine pj_ck ?_
        refine pj_ltS (js_su h) (fun s_29 hs_29 => ?_)
        refine pj_ltE ?_
        exact ih _ _ _ _ _ hs_29
theorem cj_Lines_addLine_L_c107 {n : Nat} {σ : gb_S} {k0 : Nat} {p1 : Int32} (h : gb_JJ σ) : gb_pj (cs_Lines_addLine_L_c107 n σ k0 p1) := by
  unfold cs_Lines_addLine_L_c107
  refine pj_kk (fun ck_k0 => ?_)
  refine pj_cd (cj_Lines_hasRoomFor_L h) (fun s_2 r_3 hs_2 => ?_)
  refine pj_if ?_ ?_
  · exact pj_some hs_2
  · refine pj_if ?_ ?_
    · exact pj_some hs_2
    · refine pj_if ?_ ?_
      · refine pj_cd (cj_Lines_size_L hs_2) (fun s_9 r_10 hs_9 => ?_)
        refine pj_ltE ?_
        refine pj_ck ?_
        refine pj_ltS (js_su hs_9) (fun s_15 hs_15 => ?_)
        exact cj_Lines_addLine_L_c107_48 _ _ _ _ _ _ hs_15
      · exact pj_some hs_2
theorem cj_Lines_hasRoomFor_D {n : Nat} {σ : gb_S} {k0 : Nat} {p1 : Int32} (h : gb_JJ σ) : gb_pj (cs_Lines_hasRoomFor_D n σ k0 p1) := by
  unfold cs_Lines_hasRoomFor_D
  refine pj_kk (fun ck_k0 => ?_)
  refine pj_cd (cj_Lines_size_D h) (fun s_2 r_3 hs_2 => ?_)
  refine pj_if ?_ ?_
  · exact pj_some hs_2
  · exact pj_some hs_2
theorem cj_Lines_addLine_D_c107_48 {n : Nat} : ∀ (mm : Nat) (σ : gb_S) (v0 : Nat) (v1 : Int32) (v3 : Int32) (v4 : Int32), gb_JJ σ → gb_pj (cs_Lines_addLine_D_c107_48 n mm σ v0 v1 v3 v4) := by
  intro mm
  induction mm with
  | zero =>
    intros
    exact pj_none
  | succ mm ih =>
    intro σ v0 v1 v3 v4  h
    unfold cs_Lines_addLine_D_c107_48
    refine pj_kk (fun ck_v0 => ?_)
    refine pj_if ?_ ?_
    · refine pj_ltV (fun x_18 => ?_)
      refine pj_ltS (js_su h) (fun s_19 hs_19 => ?_)
      exact pj_some hs_19
    · refine pj_ck ?_
      refine pj_ltV (fun x_21 => ?_)
      refine pj_if ?_ ?_
      · refine pj_ck ?_
        refine pj_ltS (js_su h) (fun s_24 hs_24 => ?_)
        refine pj_ltE ?_
        exact ih _ _ _ _ _ hs_24
      · refine pj_ck ?_
        refine pj_ltV (fun x_27 => ?_)
        refine pj_ck ?_
        refine pj_ltS (js_su h) (fun s_29 hs_29 => ?_)
        refine pj_ltE ?_
        exact ih _ _ _ _ _ hs_29
theorem cj_Lines_addLine_D_c107 {n : Nat} {σ : gb_S} {k0 : Nat} {p1 : Int32} (h : gb_JJ σ) : gb_pj (cs_Lines_addLine_D_c107 n σ k0 p1) := by
  unfold cs_Lines_addLine_D_c107
  refine pj_kk (fun ck_k0 => ?_)
  refine pj_cd (cj_Lines_hasRoomFor_D h) (fun s_2 r_3 hs_2 => ?_)
  refine pj_if ?_ ?_
  · exact pj_some hs_2
  · refine pj_if ?_ ?_
    · exact pj_some hs_2
    · refine pj_if ?_ ?_
      · refine pj_cd (cj_Lines_size_D hs_2) (fun s_9 r_10 hs_9 => ?_)
        refine pj_ltE ?_
        refine pj_ck ?_
        refine pj_ltS (js_su hs_9) (fun s_15 hs_15 => ?_)
        exact cj_Lines_addLine_D_c107_48 _ _ _ _ _ _ hs_15
      · exact pj_some hs_2
theorem cj_Reader_canBe_36 {n : Nat} {σ : gb_S} {v1 : Int32} {v2 : Int32} {v3 : Int32} {t0 : Int32} (h : gb_JJ σ) : gb_pj (cs_Reader_canBe_36 n σ v1 v2 v3 t0) := by
  unfold cs_Reader_canBe_36
  refine pj_if ?_ ?_
  · exact pj_some h
  · refine pj_ck ?_
    refine pj_ltV (fun x_5 => ?_)
    refine pj_if ?_ ?_
    · exact pj_some h
    · exact pj_some h
theorem cj_Reader_canBe_35 {n : Nat} {σ : gb_S} {v1 : Int32} {v2 : Int32} {v3 : Int32} (h : gb_JJ σ) : gb_pj (cs_Reader_canBe_35 n σ v1 v2 v3) := by
  unfold cs_Reader_canBe_35
  exact cj_Reader_canBe_36 h
theorem cj_Reader_canBe_23 {n : Nat} {σ : gb_S} {v1 : Int32} {v2 : Int32} {v3 : Int32} (h : gb_JJ σ) : gb_pj (cs_Reader_canBe_23 n σ v1 v2 v3) := by
  unfold cs_Reader_canBe_23
  refine pj_if ?_ ?_
  · refine pj_if ?_ ?_
    · exact cj_Reader_canBe_36 h
    · exact cj_Reader_canBe_35 h
  · exact cj_Reader_canBe_35 h
theorem cj_Reader_canBe {n : Nat} {σ : gb_S} {p1 : Int32} {p2 : Int32} {p3 : Int32} (h : gb_JJ σ) : gb_pj (cs_Reader_canBe n σ p1 p2 p3) := by
  unfold cs_Reader_canBe
  refine pj_if ?_ ?_
  · refine pj_if ?_ ?_
    · refine pj_ltV (fun x_9 => ?_)
      refine pj_if ?_ ?_
      · exact pj_some h
      · exact cj_Reader_canBe_23 h
    · exact cj_Reader_canBe_23 h
  · exact cj_Reader_canBe_23 h
theorem cj_Reader_takeNumber_61 {n : Nat} {σ : gb_S} {v1 : Int32} {v2 : Int32} {v3 : Int32} {v4 : Int32} (h : gb_JJ σ) : gb_pj (cs_Reader_takeNumber_61 n σ v1 v2 v3 v4) := by
  unfold cs_Reader_takeNumber_61
  refine pj_if ?_ ?_
  · exact pj_some h
  · refine pj_if ?_ ?_
    · refine pj_ck ?_
      refine pj_ltS (js_su h) (fun s_6 hs_6 => ?_)
      refine pj_cd (cj_Reader_canBe hs_6) (fun s_7 r_8 hs_7 => ?_)
      refine pj_if ?_ ?_
      · refine pj_cd (cj_Reader_note hs_7) (fun s_13 _ hs_13 => ?_)
        refine pj_ltS (js_su hs_13) (fun s_17 hs_17 => ?_)
        exact pj_some hs_17
      · refine pj_ltS (js_su hs_7) (fun s_12 hs_12 => ?_)
        exact pj_some hs_12
    · exact pj_some h
theorem cj_Reader_takeNumber_8 {n : Nat} : ∀ (mm : Nat) (σ : gb_S) (v1 : Int32) (v2 : Int32) (v3 : Int32) (v4 : Int32), gb_JJ σ → gb_pj (cs_Reader_takeNumber_8 n mm σ v1 v2 v3 v4) := by
  intro mm
  induction mm with
  | zero =>
    intros
    exact pj_none
  | succ mm ih =>
    intro σ v1 v2 v3 v4  h
    unfold cs_Reader_takeNumber_8
    refine pj_if ?_ ?_
    · exact cj_Reader_takeNumber_61 h
    · refine pj_kk (fun _ => ?_)
      refine pj_ck ?_
      refine pj_ltV (fun x_20 => ?_)
      refine pj_if ?_ ?_
      · exact cj_Reader_takeNumber_61 h
      · refine pj_kk (fun _ => ?_)
        refine pj_ck ?_
        refine pj_ltV (fun x_24 => ?_)
        refine pj_if ?_ ?_
        · exact cj_Reader_takeNumber_61 h
        · refine pj_kk (fun _ => ?_)
          refine pj_ck ?_
          refine pj_ltV (fun x_28 => ?_)
          refine pj_ltE ?_
          refine pj_ltE ?_
          exact ih _ _ _ _ _ h
theorem cj_Reader_takeNumber {n : Nat} {σ : gb_S} {p1 : Int32} {p2 : Int32} (h : gb_JJ σ) : gb_pj (cs_Reader_takeNumber n σ p1 p2) := by
  unfold cs_Reader_takeNumber
  refine pj_ltV (fun x_1 => ?_)
  exact cj_Reader_takeNumber_8 _ _ _ _ _ _ h
theorem cj_Reader_readLine_S_38 {n : Nat} : ∀ (mm : Nat) (σ : gb_S) (v2 : Nat) (v4 : Int32) (v5 : Int32), gb_JJ σ → gb_pj (cs_Reader_readLine_S_38 n mm σ v2 v4 v5) := by
  intro mm
  induction mm with
  | zero =>
    intros
    exact pj_none
  | succ mm ih =>
    intro σ v2 v4 v5  h
    unfold cs_Reader_readLine_S_38
    refine pj_ck ?_
    refine pj_ltV (fun x_14 => ?_)
    refine pj_if ?_ ?_
    · refine pj_cd (cj_Reader_skipBlanks h) (fun s_16 _ hs_16 => ?_)
      refine pj_if ?_ ?_
      · exact pj_some hs_16
      · refine pj_kk (fun _ => ?_)
        refine pj_ck ?_
        refine pj_ltV (fun x_23 => ?_)
        refine pj_if ?_ ?_
        · refine pj_ltS (js_su hs_16) (fun s_25 hs_25 => ?_)
          refine pj_if ?_ ?_
          · refine pj_cd (cj_Border_addLine_B_c107 hs_25) (fun s_27 _ hs_27 => ?_)
            exact pj_some hs_27
          · refine pj_if ?_ ?_
            · refine pj_cd (cj_Lines_addLine_N_c107 hs_25) (fun s_32 _ hs_32 => ?_)
              exact pj_some hs_32
            · refine pj_if ?_ ?_
              · refine pj_cd (cj_Lines_addLine_L_c107 hs_25) (fun s_37 _ hs_37 => ?_)
                exact pj_some hs_37
              · refine pj_if ?_ ?_
                · refine pj_cd (cj_Lines_addLine_D_c107 hs_25) (fun s_42 _ hs_42 => ?_)
                  exact pj_some hs_42
                · exact pj_none
        · exact pj_some hs_16
    · refine pj_cd (cj_Reader_skipBlanks h) (fun s_46 _ hs_46 => ?_)
      refine pj_cd (cj_Reader_takeNumber hs_46) (fun s_50 r_51 hs_50 => ?_)
      refine pj_if ?_ ?_
      · exact pj_some hs_50
      · refine pj_ltE ?_
        exact ih _ _ _ _ hs_50
theorem cj_Reader_readLine_S {n : Nat} {σ : gb_S} {p1 : Int32} {p2 : Nat} (h : gb_JJ σ) : gb_pj (cs_Reader_readLine_S n σ p1 p2) := by
  unfold cs_Reader_readLine_S
  refine pj_ltV (fun x_1 => ?_)
  refine pj_cd (cj_Reader_takeWord h) (fun s_2 r_3 hs_2 => ?_)
  refine pj_if ?_ ?_
  · exact pj_some hs_2
  · refine pj_if ?_ ?_
    · refine pj_cd (cj_Border_hasRoomFor_B hs_2) (fun s_8 r_9 hs_8 => ?_)
      refine pj_if ?_ ?_
      · refine pj_cd (cj_Reader_note hs_8) (fun s_56 _ hs_56 => ?_)
        exact cj_Reader_readLine_S_38 _ _ _ _ _ hs_56
      · exact cj_Reader_readLine_S_38 _ _ _ _ _ hs_8
    · refine pj_if ?_ ?_
      · refine pj_cd (cj_Lines_hasRoomFor_N hs_2) (fun s_61 r_62 hs_61 => ?_)
        refine pj_if ?_ ?_
        · refine pj_cd (cj_Reader_note hs_61) (fun s_66 _ hs_66 => ?_)
          exact cj_Reader_readLine_S_38 _ _ _ _ _ hs_66
        · exact cj_Reader_readLine_S_38 _ _ _ _ _ hs_61
      · refine pj_if ?_ ?_
        · refine pj_cd (cj_Lines_hasRoomFor_L hs_2) (fun s_71 r_72 hs_71 => ?_)
          refine pj_if ?_ ?_
          · refine pj_cd (cj_Reader_note hs_71) (fun s_76 _ hs_76 => ?_)
            exact cj_Reader_readLine_S_38 _ _ _ _ _ hs_76
          · exact cj_Reader_readLine_S_38 _ _ _ _ _ hs_71
        · refine pj_if ?_ ?_
          · refine pj_cd (cj_Lines_hasRoomFor_D hs_2) (fun s_81 r_82 hs_81 => ?_)
            refine pj_if ?_ ?_
            · refine pj_cd (cj_Reader_note hs_81) (fun s_86 _ hs_86 => ?_)
              exact cj_Reader_readLine_S_38 _ _ _ _ _ hs_86
            · exact cj_Reader_readLine_S_38 _ _ _ _ _ hs_81
          · exact pj_none
theorem cj_Lines_clear_N {n : Nat} {σ : gb_S} {k0 : Nat} (h : gb_JJ σ) : gb_pj (cs_Lines_clear_N n σ k0) := by
  unfold cs_Lines_clear_N
  refine pj_kk (fun ck_k0 => ?_)
  refine pj_ltS (js_su h) (fun s_2 hs_2 => ?_)
  exact pj_some hs_2
theorem cj_Lines_clear_L {n : Nat} {σ : gb_S} {k0 : Nat} (h : gb_JJ σ) : gb_pj (cs_Lines_clear_L n σ k0) := by
  unfold cs_Lines_clear_L
  refine pj_kk (fun ck_k0 => ?_)
  refine pj_ltS (js_su h) (fun s_2 hs_2 => ?_)
  exact pj_some hs_2
theorem cj_Lines_clear_D {n : Nat} {σ : gb_S} {k0 : Nat} (h : gb_JJ σ) : gb_pj (cs_Lines_clear_D n σ k0) := by
  unfold cs_Lines_clear_D
  refine pj_kk (fun ck_k0 => ?_)
  refine pj_ltS (js_su h) (fun s_2 hs_2 => ?_)
  exact pj_some hs_2
theorem cj_Reader_read_c23_S_42 {n : Nat} : ∀ (mm : Nat) (σ : gb_S) (v3 : Int32) (v4 : Nat) (v5 : Int32), gb_JJ σ → gb_pj (cs_Reader_read_c23_S_42 n mm σ v3 v4 v5) := by
  intro mm
  induction mm with
  | zero =>
    intros
    exact pj_none
  | succ mm ih =>
    intro σ v3 v4 v5  h
    unfold cs_Reader_read_c23_S_42
    refine pj_if ?_ ?_
    · refine pj_if ?_ ?_
      · refine pj_if ?_ ?_
        · refine pj_cd (cj_Border_clashes_B h) (fun s_19 r_20 hs_19 => ?_)
          refine pj_if ?_ ?_
          · exact pj_some hs_19
          · refine pj_cd (cj_Reader_note hs_19) (fun s_24 _ hs_24 => ?_)
            exact pj_some hs_24
        · refine pj_if ?_ ?_
          · refine pj_cd (cj_Lines_clashes_N h) (fun s_29 r_30 hs_29 => ?_)
            refine pj_if ?_ ?_
            · exact pj_some hs_29
            · refine pj_cd (cj_Reader_note hs_29) (fun s_34 _ hs_34 => ?_)
              exact pj_some hs_34
          · refine pj_if ?_ ?_
            · refine pj_cd (cj_Lines_clashes_L h) (fun s_39 r_40 hs_39 => ?_)
              refine pj_if ?_ ?_
              · exact pj_some hs_39
              · refine pj_cd (cj_Reader_note hs_39) (fun s_44 _ hs_44 => ?_)
                exact pj_some hs_44
            · refine pj_if ?_ ?_
              · refine pj_cd (cj_Dawn_clashes_D h) (fun s_49 r_50 hs_49 => ?_)
                refine pj_if ?_ ?_
                · exact pj_some hs_49
                · refine pj_cd (cj_Reader_note hs_49) (fun s_54 _ hs_54 => ?_)
                  exact pj_some hs_54
              · exact pj_none
      · exact pj_some h
    · refine pj_if ?_ ?_
      · refine pj_if ?_ ?_
        · refine pj_if ?_ ?_
          · refine pj_cd (cj_Border_clashes_B h) (fun s_61 r_62 hs_61 => ?_)
            refine pj_if ?_ ?_
            · exact pj_some hs_61
            · refine pj_cd (cj_Reader_note hs_61) (fun s_66 _ hs_66 => ?_)
              exact pj_some hs_66
          · refine pj_if ?_ ?_
            · refine pj_cd (cj_Lines_clashes_N h) (fun s_71 r_72 hs_71 => ?_)
              refine pj_if ?_ ?_
              · exact pj_some hs_71
              · refine pj_cd (cj_Reader_note hs_71) (fun s_76 _ hs_76 => ?_)
                exact pj_some hs_76
            · refine pj_if ?_ ?_
              · refine pj_cd (cj_Lines_clashes_L h) (fun s_81 r_82 hs_81 => ?_)
                refine pj_if ?_ ?_
                · exact pj_some hs_81
                · refine pj_cd (cj_Reader_note hs_81) (fun s_86 _ hs_86 => ?_)
                  exact pj_some hs_86
              · refine pj_if ?_ ?_
                · refine pj_cd (cj_Dawn_clashes_D h) (fun s_91 r_92 hs_91 => ?_)
                  refine pj_if ?_ ?_
                  · exact pj_some hs_91
                  · refine pj_cd (cj_Reader_note hs_91) (fun s_96 _ hs_96 => ?_)
                    exact pj_some hs_96
                · exact pj_none
        · exact pj_some h
      · refine pj_cd (cj_Reader_readLine_S h) (fun s_100 r_101 hs_100 => ?_)
        refine pj_if ?_ ?_
        · refine pj_ltS (js_su hs_100) (fun s_110 hs_110 => ?_)
          refine pj_ltS (js_su hs_110) (fun s_111 hs_111 => ?_)
          exact pj_some hs_111
        · refine pj_cd (cj_Reader_skipBlanks hs_100) (fun s_105 _ hs_105 => ?_)
          refine pj_ltE ?_
          exact ih _ _ _ _ hs_105
theorem cj_Reader_read_c23_S {n : Nat} {σ : gb_S} {p2 : Int32} {p3 : Int32} {p4 : Nat} (h : gb_JJ σ) : gb_pj (cs_Reader_read_c23_S n σ p2 p3 p4) := by
  unfold cs_Reader_read_c23_S
  refine pj_ltS (js_sq (by decide) h) (fun s_1 hs_1 => ?_)
  refine pj_ltV (fun x_2 => ?_)
  refine pj_ltS (js_su hs_1) (fun s_3 hs_3 => ?_)
  refine pj_ltS (js_su hs_3) (fun s_4 hs_4 => ?_)
  refine pj_ltS (js_su hs_4) (fun s_5 hs_5 => ?_)
  refine pj_ltS (js_su hs_5) (fun s_6 hs_6 => ?_)
  refine pj_if ?_ ?_
  · refine pj_cd (cj_Border_clear_B hs_6) (fun s_8 _ hs_8 => ?_)
    refine pj_cd (cj_Reader_skipBlanks hs_8) (fun s_12 _ hs_12 => ?_)
    exact cj_Reader_read_c23_S_42 _ _ _ _ _ hs_12
  · refine pj_if ?_ ?_
    · refine pj_cd (cj_Lines_clear_N hs_6) (fun s_113 _ hs_113 => ?_)
      refine pj_cd (cj_Reader_skipBlanks hs_113) (fun s_117 _ hs_117 => ?_)
      exact cj_Reader_read_c23_S_42 _ _ _ _ _ hs_117
    · refine pj_if ?_ ?_
      · refine pj_cd (cj_Lines_clear_L hs_6) (fun s_122 _ hs_122 => ?_)
        refine pj_cd (cj_Reader_skipBlanks hs_122) (fun s_126 _ hs_126 => ?_)
        exact cj_Reader_read_c23_S_42 _ _ _ _ _ hs_126
      · refine pj_if ?_ ?_
        · refine pj_cd (cj_Lines_clear_D hs_6) (fun s_131 _ hs_131 => ?_)
          refine pj_cd (cj_Reader_skipBlanks hs_131) (fun s_135 _ hs_135 => ?_)
          exact cj_Reader_read_c23_S_42 _ _ _ _ _ hs_135
        · exact pj_none
theorem cj_Face_text_171 {n : Nat} {σ : gb_S} {v1 : Int32} {v4 : Int32} {v5 : Int32} {v6 : Nat} {t0 : Int32} (h : gb_JJ σ) : gb_pj (cs_Face_text_171 n σ v1 v4 v5 v6 t0) := by
  unfold cs_Face_text_171
  refine pj_cd (cj_Told_sheetOf_T h) (fun s_23 r_24 hs_23 => ?_)
  refine pj_if ?_ ?_
  · exact pj_none
  · refine pj_if ?_ ?_
    · refine pj_kk (fun ck_v6 => ?_)
      refine pj_cd (cj_Sheet_copyFrom_B_B hs_23) (fun s_30 _ hs_30 => ?_)
      refine pj_if ?_ ?_
      · exact pj_some hs_30
      · refine pj_ck ?_
        refine pj_ltS (js_su hs_30) (fun s_36 hs_36 => ?_)
        exact pj_some hs_36
    · refine pj_if ?_ ?_
      · refine pj_kk (fun ck_v6 => ?_)
        refine pj_cd (cj_Sheet_copyFrom_N_N hs_23) (fun s_39 _ hs_39 => ?_)
        refine pj_if ?_ ?_
        · exact pj_some hs_39
        · refine pj_ck ?_
          refine pj_ltS (js_su hs_39) (fun s_45 hs_45 => ?_)
          exact pj_some hs_45
      · refine pj_if ?_ ?_
        · refine pj_kk (fun ck_v6 => ?_)
          refine pj_cd (cj_Sheet_copyFrom_L_L hs_23) (fun s_48 _ hs_48 => ?_)
          refine pj_if ?_ ?_
          · exact pj_some hs_48
          · refine pj_ck ?_
            refine pj_ltS (js_su hs_48) (fun s_54 hs_54 => ?_)
            exact pj_some hs_54
        · refine pj_if ?_ ?_
          · refine pj_kk (fun ck_v6 => ?_)
            refine pj_cd (cj_Sheet_copyFrom_D_D hs_23) (fun s_57 _ hs_57 => ?_)
            refine pj_if ?_ ?_
            · exact pj_some hs_57
            · refine pj_ck ?_
              refine pj_ltS (js_su hs_57) (fun s_63 hs_63 => ?_)
              exact pj_some hs_63
          · exact pj_none
theorem cj_Face_text_94 {n : Nat} {σ : gb_S} {v1 : Int32} {v2 : Int32} {v3 : Int32} {v4 : Int32} {v5 : Int32} (h : gb_JJ σ) : gb_pj (cs_Face_text_94 n σ v1 v2 v3 v4 v5) := by
  unfold cs_Face_text_94
  refine pj_ck ?_
  refine pj_ltV (fun a_14 => ?_)
  refine pj_cd (cj_Reader_read_c23_S h) (fun s_15 _ hs_15 => ?_)
  refine pj_ltS (js_su hs_15) (fun s_19 hs_19 => ?_)
  refine pj_ltS (js_su hs_19) (fun s_20 hs_20 => ?_)
  refine pj_if ?_ ?_
  · refine pj_if ?_ ?_
    · exact cj_Face_text_171 hs_20
    · exact cj_Face_text_171 hs_20
  · exact pj_some hs_20
theorem cj_Face_text_65 {n : Nat} {σ : gb_S} {v1 : Int32} {v2 : Int32} {v3 : Int32} {v4 : Int32} {t0 : Int32} (h : gb_JJ σ) : gb_pj (cs_Face_text_65 n σ v1 v2 v3 v4 t0) := by
  unfold cs_Face_text_65
  refine pj_if ?_ ?_
  · refine pj_if ?_ ?_
    · exact pj_some h
    · refine pj_if ?_ ?_
      · exact cj_Face_text_94 h
      · exact pj_some h
  · refine pj_if ?_ ?_
    · exact cj_Face_text_94 h
    · exact pj_some h
theorem cj_Face_text {n : Nat} {σ : gb_S} {p1 : Int32} {p2 : Int32} (h : gb_JJ σ) : gb_pj (cs_Face_text n σ p1 p2) := by
  unfold cs_Face_text
  refine pj_ltV (fun x_1 => ?_)
  refine pj_ltS (js_su h) (fun s_2 hs_2 => ?_)
  refine pj_ltS (js_su hs_2) (fun s_3 hs_3 => ?_)
  refine pj_ltS (js_su hs_3) (fun s_4 hs_4 => ?_)
  refine pj_if ?_ ?_
  · exact pj_some hs_4
  · refine pj_if ?_ ?_
    · refine pj_ck ?_
      refine pj_ltV (fun x_8 => ?_)
      refine pj_if ?_ ?_
      · exact cj_Face_text_65 hs_4
      · exact cj_Face_text_65 hs_4
    · exact pj_some hs_4
/-! THE CHOICES: 0 stays, p + 1 goes by path p -/
def gb_tq (R : Nat → Int32) (a : Nat → Nat) (p : Nat) : Nat → Int
  | 0 => 0
  | g + 1 => gb_tq R a p g + if a g = p + 1 then gb_fM R p g else 0
theorem tq_1 {R : Nat → Int32} {a : Nat → Nat} {p g : Nat} : gb_tq R a p (g + 1) = gb_tq R a p g + if a g = p + 1 then gb_fM R p g else 0 := rfl
theorem tq_i {R : Nat → Int32} {a : Nat → Nat} {p : Nat} (hR : gb_rB R) (hp : p < 5) : ∀ k : Nat, k ≤ 8 → 0 ≤ gb_tq R a p k ∧ gb_tq R a p k ≤ 416 * k := by
  intro k
  induction k with
  | zero =>
    intro _
    exact ⟨Int.le_refl 0, Int.le_refl 0⟩
  | succ k ih =>
    intro h
    have i1 := ih (by omega)
    have i2 := fM_i hR hp k (by omega)
    rw [tq_1]
    split <;> omega
theorem tq_m {R : Nat → Int32} {a : Nat → Nat} {p k : Nat} (hR : gb_rB R) (hp : p < 5) : ∀ d : Nat, k + d ≤ 8 → gb_tq R a p k ≤ gb_tq R a p (k + d) := by
  intro d
  induction d with
  | zero =>
    intro _
    exact Int.le_refl _
  | succ d ih =>
    intro h
    have i1 := ih (by omega)
    have i2 := fM_i hR hp (k + d) (by omega)
    have e : gb_tq R a p (k + (d + 1)) = gb_tq R a p (k + d) + if a (k + d) = p + 1 then gb_fM R p (k + d) else 0 := tq_1
    rw [e]
    split <;> omega
theorem tq_c {R : Nat → Int32} {a b : Nat → Nat} {p : Nat} : ∀ k : Nat, (∀ g, g < k → (a g = p + 1 ↔ b g = p + 1)) → gb_tq R a p k = gb_tq R b p k := by
  intro k
  induction k with
  | zero =>
    intro _
    rfl
  | succ k ih =>
    intro h
    rw [tq_1, tq_1, ih (fun g hg => h g (by omega))]
    by_cases c : a k = p + 1
    · rw [if_pos c, if_pos ((h k (by omega)).mp c)]
    · rw [if_neg c, if_neg (fun z => c ((h k (by omega)).mpr z))]
theorem tq_gs {R : Nat → Int32} {a : Nat → Nat} {p T : Nat} : ∀ k : Nat, (∀ g, g < k → (a g = p + 1 ↔ T.testBit g = true)) → gb_tq R a p k = gb_gs (gb_fM R p) T k := by
  intro k
  induction k with
  | zero =>
    intro _
    rfl
  | succ k ih =>
    intro h
    rw [tq_1, ss_1, ih (fun g hg => h g (by omega))]
    by_cases c : a k = p + 1
    · rw [if_pos c, if_pos ((h k (by omega)).mp c)]
    · rw [if_neg c, if_neg (fun z => c ((h k (by omega)).mpr z))]
theorem tq_0 {R : Nat → Int32} {a : Nat → Nat} {p : Nat} : ∀ k : Nat, (∀ g, g < k → ¬ a g = p + 1) → gb_tq R a p k = 0 := by
  intro k
  induction k with
  | zero =>
    intro _
    rfl
  | succ k ih =>
    intro h
    rw [tq_1, ih (fun g hg => h g (by omega)), if_neg (h k (by omega))]
    rfl
/-! sets as numbers -/
noncomputable def gb_msk (P : Nat → Prop) : Nat → Nat
  | 0 => 0
  | k + 1 => gb_msk P k + gb_ind (P k) * 2 ^ k
theorem msk_1 {P : Nat → Prop} {k : Nat} : gb_msk P (k + 1) = gb_msk P k + gb_ind (P k) * 2 ^ k := rfl
theorem msk_t {P : Nat → Prop} : ∀ k : Nat, gb_msk P k < 2 ^ k ∧ ∀ g, ((gb_msk P k).testBit g = true ↔ g < k ∧ P g) := by
  intro k
  induction k with
  | zero =>
    refine ⟨Nat.lt_of_lt_of_eq (Nat.zero_lt_one) rfl, fun g => ⟨fun h => ?_, fun h => absurd h.1 (Nat.not_lt_zero g)⟩⟩
    have z : gb_msk P 0 = 0 := rfl
    rw [z, Nat.zero_testBit] at h
    exact absurd h (by decide)
  | succ k ih =>
    obtain ⟨i1, i2⟩ := ih
    have p := p2_s (k := k)
    have lt : gb_msk P (k + 1) < 2 ^ (k + 1) := by
      rw [msk_1]
      by_cases c : P k
      · rw [ind_t c]
        omega
      · rw [ind_f c]
        omega
    refine ⟨lt, fun g => ?_⟩
    by_cases hg : g < k + 1
    · rw [msk_1]
      by_cases c : P k
      · rw [ind_t c, Nat.one_mul, Nat.add_comm]
        by_cases z : g = k
        · rw [z, Nat.testBit_two_pow_add_eq, Nat.testBit_lt_two_pow i1]
          exact ⟨fun _ => ⟨by omega, c⟩, fun _ => rfl⟩
        · rw [Nat.testBit_two_pow_add_gt (by omega), i2 g]
          exact ⟨fun h => ⟨hg, h.2⟩, fun h => ⟨by omega, h.2⟩⟩
      · rw [ind_f c, Nat.zero_mul, Nat.add_zero, i2 g]
        refine ⟨fun h => ⟨hg, h.2⟩, fun h => ⟨?_, h.2⟩⟩
        by_cases z : g = k
        · exact absurd (by rw [← z]; exact h.2) c
        · omega
    · have : (gb_msk P (k + 1)).testBit g = false := Nat.testBit_lt_two_pow (Nat.lt_of_lt_of_le lt (Nat.pow_le_pow_right (by decide) (by omega)))
      rw [this]
      exact ⟨fun h => absurd h (by decide), fun h => absurd h.1 hg⟩
theorem bits_u {S T G : Nat} (hS : S < 2 ^ G) (hT : T < 2 ^ G) (h : ∀ g, g < G → (S.testBit g = true ↔ T.testBit g = true)) : S = T := by
  refine Nat.eq_of_testBit_eq (fun g => ?_)
  by_cases hg : g < G
  · have q := h g hg
    cases e1 : S.testBit g
    · cases e2 : T.testBit g
      · rfl
      · exact absurd (q.mpr e2) (by rw [e1]; decide)
    · exact (q.mp e1).symm
  · have p : 2 ^ G ≤ 2 ^ g := Nat.pow_le_pow_right (by decide) (by omega)
    rw [Nat.testBit_lt_two_pow (Nat.lt_of_lt_of_le hS p), Nat.testBit_lt_two_pow (Nat.lt_of_lt_of_le hT p)]
theorem ind_S {P : Nat → Prop} {Φ : Prop} {G : Nat} : gb_ind Φ = gb_sN (2 ^ G) (fun S => gb_ind (Φ ∧ ∀ g, g < G → (S.testBit g = true ↔ P g))) := by
  have m := msk_t (P := P) G
  rw [sN_1 (c0 := gb_msk P G) (2 ^ G) m.1 (fun c hc hn => ind_f (fun z => hn (bits_u hc m.1 (fun g hg => by rw [z.2 g hg, m.2 g]; exact ⟨fun y => ⟨hg, y⟩, fun y => y.2⟩))))]
  exact ind_c ⟨fun z => ⟨z, fun g hg => by rw [m.2 g]; exact ⟨fun y => y.2, fun y => ⟨hg, y⟩⟩⟩, fun z => z.1⟩
/-! the lines of a dawn, one behind another -/
def gb_fnD (DR : Nat → Int32) : Nat := (DR 0).toInt.toNat
def gb_fpa (DR : Nat → Int32) (i : Nat) : Nat := (DR (1 + 2 * i)).toInt.toNat
def gb_fmk (DR : Nat → Int32) (i : Nat) : Int := (DR (2 + 2 * i)).toInt
def gb_cq (DR : Nat → Int32) (q : Option (Nat × Nat)) (i : Nat) (a : Nat → Nat) : Prop := ∀ g l, q = some (g, l) → l < i → a g = gb_fpa DR l + 1
def gb_fi (R DR : Nat → Int32) (q : Option (Nat × Nat)) (i : Nat) (a : Nat → Nat) : Prop := (∀ g, g < gb_nG R → ¬ a g = 0 → ∃ j, j < i ∧ a g = gb_fpa DR j + 1) ∧ (∀ j, j < i → gb_tq R a (gb_fpa DR j) (gb_nG R) = gb_fmk DR j) ∧ gb_cq DR q i a
def gb_gon (R : Nat → Int32) (S : Nat) (a : Nat → Nat) : Prop := ∀ g, g < gb_nG R → (S.testBit g = true ↔ ¬ a g = 0)
noncomputable def gb_Wy (R DR : Nat → Int32) (q : Option (Nat × Nat)) (i S : Nat) : Nat := gb_cnt (fun a => gb_fi R DR q i a ∧ gb_gon R S a) (gb_nP R + 1) (gb_nG R) 0 (fun _ => 0)
noncomputable def gb_Zy (R DR : Nat → Int32) (q : Option (Nat × Nat)) (i : Nat) : Nat := gb_cnt (gb_fi R DR q i) (gb_nP R + 1) (gb_nG R) 0 (fun _ => 0)
theorem W_sum {R DR : Nat → Int32} {q : Option (Nat × Nat)} {i : Nat} : gb_Zy R DR q i = gb_sN (2 ^ gb_nG R) (fun S => gb_Wy R DR q i S) := cn_f (gb_nG R) 0 _ (fun a _ => ind_S (P := fun g => ¬ a g = 0))
theorem cn_one {C : Nat} (hC : 0 < C) : ∀ (d k : Nat) (a : Nat → Nat), gb_cnt (fun a => ∀ g, k ≤ g → g < k + d → a g = 0) C d k a = 1 := by
  intro d
  induction d with
  | zero =>
    intro k a
    exact ind_t (fun g h1 h2 => absurd h1 (by omega))
  | succ d ih =>
    intro k a
    rw [cn_s, sN_1 (c0 := 0) C hC (fun c hc hn => cn_0 (fun a2 ha z => hn (by rw [← (lf1_s hc ha).2]; exact z k (by omega) (by omega))))]
    refine Eq.trans ?_ (ih (k + 1) (gb_up a k 0))
    refine cn_c (Φ := fun a => ∀ g, k ≤ g → g < k + (d + 1) → a g = 0) (Ψ := fun a => ∀ g, k + 1 ≤ g → g < k + 1 + d → a g = 0) (fun a2 ha => ⟨fun z g h1 h2 => z g (by omega) (by omega), fun z g h1 h2 => ?_⟩)
    by_cases y : g = k
    · rw [y]
      exact (lf1_s hC ha).2
    · exact z g (by omega) (by omega)
theorem W_0 {R DR : Nat → Int32} {q : Option (Nat × Nat)} {S : Nat} (hS : S < 2 ^ gb_nG R) : gb_Wy R DR q 0 S = if S = 0 then 1 else 0 := by
  by_cases z : S = 0
  · rw [if_pos z, ← cn_one (C := gb_nP R + 1) (by omega) (gb_nG R) 0 (fun _ => 0)]
    refine cn_c (fun a ha => ⟨fun h g _ hg => ?_, fun h => ⟨⟨fun g hg hn => absurd (h g (by omega) (by omega)) hn, fun j hj => absurd hj (Nat.not_lt_zero j), fun g l _ hl => absurd hl (Nat.not_lt_zero l)⟩, fun g hg => ?_⟩⟩)
    · by_cases y : a g = 0
      · exact y
      · obtain ⟨j, hj, _⟩ := h.1.1 g (by omega) y
        exact absurd hj (Nat.not_lt_zero j)
    · rw [z, Nat.zero_testBit]
      exact ⟨fun y => absurd y (by decide), fun y => absurd (h g (by omega) (by omega)) y⟩
  · rw [if_neg z]
    refine cn_0 (fun a ha h => z (bits_u hS (Nat.pow_pos (by decide)) (fun g hg => ?_)))
    rw [h.2 g hg, Nat.zero_testBit]
    refine ⟨fun y => ?_, fun y => absurd y (by decide)⟩
    obtain ⟨j, hj, _⟩ := h.1.1 g hg y
    exact absurd hj (Nat.not_lt_zero j)
/-! a line whose path is not in the border -/
theorem W_out {R DR : Nat → Int32} {q : Option (Nat × Nat)} {i S : Nat} (hq : ∀ g l, q = some (g, l) → g < gb_nG R) (hp : gb_nP R ≤ gb_fpa DR i) : gb_Wy R DR q (i + 1) S = gb_ind (gb_fmk DR i = 0 ∧ ∀ g, ¬ q = some (g, i)) * gb_Wy R DR q i S := by
  have key : ∀ a, gb_lf1 (gb_nP R + 1) (gb_nG R) 0 (fun _ => 0) a → (gb_fi R DR q (i + 1) a ↔ (gb_fmk DR i = 0 ∧ ∀ g, ¬ q = some (g, i)) ∧ gb_fi R DR q i a) := fun a ha => by
    have lt : ∀ g, g < gb_nG R → ¬ a g = gb_fpa DR i + 1 := fun g hg e => by
      have := ha.1 g (by omega) (by omega)
      omega
    constructor
    · intro h
      refine ⟨⟨?_, fun g z => ?_⟩, fun g hg hn => ?_, fun j hj => h.2.1 j (by omega), fun g l e hl => h.2.2 g l e (by omega)⟩
      · rw [← h.2.1 i (by omega)]
        exact tq_0 _ (fun g hg => lt g hg)
      · exact lt g (hq g i z) (h.2.2 g i z (by omega))
      · obtain ⟨j, hj, e⟩ := h.1 g hg hn
        by_cases z : j = i
        · exact absurd (by rw [← z]; exact e) (lt g hg)
        · exact ⟨j, by omega, e⟩
    · intro ⟨h0, h⟩
      refine ⟨fun g hg hn => ?_, fun j hj => ?_, fun g l e hl => ?_⟩
      · obtain ⟨j, hj, e⟩ := h.1 g hg hn
        exact ⟨j, by omega, e⟩
      · by_cases z : j = i
        · rw [z, h0.1]
          exact tq_0 _ (fun g hg => lt g hg)
        · exact h.2.1 j (by omega)
      · by_cases z : l = i
        · exact absurd (by rw [← z]; exact e) (h0.2 g)
        · exact h.2.2 g l e (by omega)
  by_cases c : gb_fmk DR i = 0 ∧ ∀ g, ¬ q = some (g, i)
  · rw [ind_t c, Nat.one_mul]
    exact cn_c (fun a ha => ⟨fun h => ⟨((key a ha).mp h.1).2, h.2⟩, fun h => ⟨(key a ha).mpr ⟨c, h.1⟩, h.2⟩⟩)
  · rw [ind_f c, Nat.zero_mul]
    exact cn_0 (fun a ha h => c ((key a ha).mp h.1).1)
/-! a line whose path is in the border -/
def gb_sbs (T S : Nat) : Prop := ∀ g, T.testBit g = true → S.testBit g = true
def gb_okT (R DR : Nat → Int32) (q : Option (Nat × Nat)) (i T : Nat) : Prop := gb_gs (gb_fM R (gb_fpa DR i)) T (gb_nG R) = gb_fmk DR i ∧ ∀ g, q = some (g, i) → T.testBit g = true
theorem W_in {R DR : Nat → Int32} {q : Option (Nat × Nat)} {i S : Nat} (hq : ∀ g l, q = some (g, l) → g < gb_nG R) (hp : gb_fpa DR i < gb_nP R) (hd : ∀ j, j < i → ¬ gb_fpa DR j = gb_fpa DR i) (hS : S < 2 ^ gb_nG R) : gb_Wy R DR q (i + 1) S = gb_sN (2 ^ gb_nG R) (fun T => gb_ind (gb_sbs T S ∧ gb_okT R DR q i T) * gb_Wy R DR q i (S ^^^ T)) := by
  have e1 : gb_Wy R DR q (i + 1) S = gb_sN (2 ^ gb_nG R) (fun T => gb_cnt (fun a => (gb_fi R DR q (i + 1) a ∧ gb_gon R S a) ∧ ∀ g, g < gb_nG R → (T.testBit g = true ↔ a g = gb_fpa DR i + 1)) (gb_nP R + 1) (gb_nG R) 0 (fun _ => 0)) := cn_f (gb_nG R) 0 _ (fun a _ => ind_S (P := fun g => a g = gb_fpa DR i + 1))
  rw [e1]
  refine sN_c _ (fun T hT => ?_)
  have e2 : gb_cnt (fun a => (gb_fi R DR q (i + 1) a ∧ gb_gon R S a) ∧ ∀ g, g < gb_nG R → (T.testBit g = true ↔ a g = gb_fpa DR i + 1)) (gb_nP R + 1) (gb_nG R) 0 (fun _ => 0) = gb_cnt (fun a => (gb_fi R DR q (i + 1) (gb_ptq T (gb_fpa DR i + 1) 0 (gb_nG R) a) ∧ gb_gon R S (gb_ptq T (gb_fpa DR i + 1) 0 (gb_nG R) a)) ∧ ∀ g, 0 ≤ g → g < 0 + gb_nG R → ((T.testBit g = true → a g = 0) ∧ ¬ a g = gb_fpa DR i + 1)) (gb_nP R + 1) (gb_nG R) 0 (fun _ => 0) := by
    rw [← cn_bij (Φ := fun a => gb_fi R DR q (i + 1) a ∧ gb_gon R S a) (by omega) (by omega)]
    exact cn_c (fun a ha => ⟨fun h => ⟨h.1, fun g _ hg => (h.2 g (by omega)).symm⟩, fun h => ⟨h.1, fun g hg => (h.2 g (by omega) (by omega)).symm⟩⟩)
  rw [e2]
  have pt : ∀ (a : Nat → Nat) (g : Nat), g < gb_nG R → gb_ptq T (gb_fpa DR i + 1) 0 (gb_nG R) a g = if T.testBit g = true then gb_fpa DR i + 1 else a g := fun a g hg => by
    unfold gb_ptq
    by_cases c : T.testBit g = true
    · rw [if_pos ⟨⟨by omega, by omega⟩, c⟩, if_pos c]
    · rw [if_neg (fun z => c z.2), if_neg c]
  have key : ∀ a, gb_lf1 (gb_nP R + 1) (gb_nG R) 0 (fun _ => 0) a → (((gb_fi R DR q (i + 1) (gb_ptq T (gb_fpa DR i + 1) 0 (gb_nG R) a) ∧ gb_gon R S (gb_ptq T (gb_fpa DR i + 1) 0 (gb_nG R) a)) ∧ ∀ g, 0 ≤ g → g < 0 + gb_nG R → ((T.testBit g = true → a g = 0) ∧ ¬ a g = gb_fpa DR i + 1)) ↔ (gb_sbs T S ∧ gb_okT R DR q i T) ∧ (gb_fi R DR q i a ∧ gb_gon R (S ^^^ T) a)) := fun a ha => by
    have tj : ∀ j, j < i → gb_tq R (gb_ptq T (gb_fpa DR i + 1) 0 (gb_nG R) a) (gb_fpa DR j) (gb_nG R) = gb_tq R a (gb_fpa DR j) (gb_nG R) ∨ ∃ g, g < gb_nG R ∧ T.testBit g = true ∧ ¬ a g = 0 := fun j hj => by
      by_cases c : ∃ g, g < gb_nG R ∧ T.testBit g = true ∧ ¬ a g = 0
      · exact Or.inr c
      · refine Or.inl (tq_c _ (fun g hg => ?_))
        rw [pt a g hg]
        by_cases t : T.testBit g = true
        · rw [if_pos t]
          have z : a g = 0 := Classical.byContradiction (fun z => c ⟨g, hg, t, z⟩)
          rw [z]
          refine ⟨fun y => absurd (by omega) (hd j hj), fun y => absurd y (by omega)⟩
        · rw [if_neg t]
    have ti : (∀ g, g < gb_nG R → ¬ a g = gb_fpa DR i + 1) → gb_tq R (gb_ptq T (gb_fpa DR i + 1) 0 (gb_nG R) a) (gb_fpa DR i) (gb_nG R) = gb_gs (gb_fM R (gb_fpa DR i)) T (gb_nG R) := fun hn => tq_gs _ (fun g hg => by
      rw [pt a g hg]
      by_cases t : T.testBit g = true
      · rw [if_pos t]
        exact ⟨fun _ => t, fun _ => rfl⟩
      · rw [if_neg t]
        exact ⟨fun y => absurd y (hn g hg), fun y => absurd y t⟩)
    have hiT : ∀ g, ¬ g < gb_nG R → T.testBit g = false := fun g hg => Nat.testBit_lt_two_pow (Nat.lt_of_lt_of_le hT (Nat.pow_le_pow_right (by decide) (by omega)))
    constructor
    · intro ⟨⟨hf, hg⟩, ht⟩
      have hn : ∀ g, g < gb_nG R → ¬ a g = gb_fpa DR i + 1 := fun g h => (ht g (by omega) (by omega)).2
      have h0 : ∀ g, g < gb_nG R → T.testBit g = true → a g = 0 := fun g h => (ht g (by omega) (by omega)).1
      have sub : gb_sbs T S := fun g t => by
        by_cases h : g < gb_nG R
        · refine (hg g h).mpr ?_
          rw [pt a g h, if_pos t]
          omega
        · rw [hiT g h] at t
          exact absurd t (by decide)
      refine ⟨⟨sub, ?_, fun g e => ?_⟩, ⟨fun g h hh => ?_, fun j hj => ?_, fun g l e hl => ?_⟩, fun g h => ?_⟩
      · rw [← ti hn]
        exact hf.2.1 i (by omega)
      · have hgG := hq g i e
        have c := hf.2.2 g i e (by omega)
        rw [pt a g hgG] at c
        by_cases t : T.testBit g = true
        · exact t
        · rw [if_neg t] at c
          exact absurd c (hn g hgG)
      · have t : ¬ T.testBit g = true := fun t => hh (h0 g h t)
        obtain ⟨j, hj, e⟩ := hf.1 g h (by rw [pt a g h, if_neg t]; exact hh)
        rw [pt a g h, if_neg t] at e
        by_cases z : j = i
        · exact absurd (by rw [← z]; exact e) (hn g h)
        · exact ⟨j, by omega, e⟩
      · rcases tj j hj with y | ⟨g, h, t, hh⟩
        · rw [← y]
          exact hf.2.1 j (by omega)
        · exact absurd (h0 g h t) hh
      · have hgG := hq g l e
        have c := hf.2.2 g l e (by omega)
        rw [pt a g hgG] at c
        by_cases t : T.testBit g = true
        · rw [if_pos t] at c
          exact absurd (by omega) (hd l hl)
        · rw [if_neg t] at c
          exact c
      · have c := hg g h
        rw [pt a g h] at c
        rw [Nat.testBit_xor]
        by_cases t : T.testBit g = true
        · rw [sub g t, t, h0 g h t]
          exact ⟨fun y => absurd y (by decide), fun y => absurd rfl y⟩
        · rw [if_neg t] at c
          have t' : T.testBit g = false := by
            cases x : T.testBit g
            · rfl
            · exact absurd x t
          rw [t', Bool.xor_false]
          exact c
    · intro ⟨⟨sub, ok, oq⟩, hf, hg⟩
      have h0 : ∀ g, g < gb_nG R → T.testBit g = true → a g = 0 := fun g h t => Classical.byContradiction (fun z => by
        have c := (hg g h).mpr z
        rw [Nat.testBit_xor, sub g t, t] at c
        exact absurd c (by decide))
      have hn : ∀ g, g < gb_nG R → ¬ a g = gb_fpa DR i + 1 := fun g h e => by
        obtain ⟨j, hj, e2⟩ := hf.1 g h (by omega)
        exact hd j hj (by omega)
      refine ⟨⟨⟨fun g h hh => ?_, fun j hj => ?_, fun g l e hl => ?_⟩, fun g h => ?_⟩, fun g _ h => ⟨h0 g (by omega), hn g (by omega)⟩⟩
      · rw [pt a g h] at hh ⊢
        by_cases t : T.testBit g = true
        · rw [if_pos t]
          exact ⟨i, by omega, rfl⟩
        · rw [if_neg t] at hh ⊢
          obtain ⟨j, hj, e⟩ := hf.1 g h hh
          exact ⟨j, by omega, e⟩
      · by_cases z : j = i
        · rw [z, ti hn]
          exact ok
        · rcases tj j (by omega) with y | ⟨g, h, t, hh⟩
          · rw [y]
            exact hf.2.1 j (by omega)
          · exact absurd (h0 g h t) hh
      · have hgG := hq g l e
        rw [pt a g hgG]
        by_cases z : l = i
        · rw [z] at e ⊢
          rw [if_pos (oq g e)]
        · have c := hf.2.2 g l e (by omega)
          rw [if_neg (fun t => by rw [h0 g hgG t] at c; omega)]
          exact c
      · rw [pt a g h]
        have c := hg g h
        rw [Nat.testBit_xor] at c
        by_cases t : T.testBit g = true
        · rw [if_pos t, sub g t]
          exact ⟨fun _ => by omega, fun _ => rfl⟩
        · rw [if_neg t]
          have t' : T.testBit g = false := by
            cases x : T.testBit g
            · rfl
            · exact absurd x t
          rw [t', Bool.xor_false] at c
          exact c
  by_cases c : gb_sbs T S ∧ gb_okT R DR q i T
  · rw [ind_t c, Nat.one_mul]
    exact cn_c (fun a ha => ⟨fun h => ((key a ha).mp h).2, fun h => (key a ha).mpr ⟨c, h⟩⟩)
  · rw [ind_f c, Nat.zero_mul]
    exact cn_0 (fun a ha h => c ((key a ha).mp h).1)
/-! BITS OF SMALL NUMBERS -/
theorem nI_and {a b : Nat} (hb : b < 100000) : (Int32.ofNat a &&& Int32.ofNat b).toInt = ((a &&& b : Nat) : Int) := by
  have e : Int32.ofNat a &&& Int32.ofNat b = Int32.ofNat (a &&& b) := by
    refine Int32.toBitVec_inj.mp ?_
    rw [Int32.toBitVec_and]
    exact (BitVec.ofNat_and).symm
  rw [e]
  exact nI_toInt (by have := Nat.and_le_right (n := a) (m := b); omega)
theorem and_E {x y : Int32} {a b : Nat} (ex : x.toInt = a) (ey : y.toInt = b) (ha : a < 100000) (hb : b < 100000) : (x &&& y).toInt = ((a &&& b : Nat) : Int) := by
  have e1 : x = Int32.ofNat a := gi_nI ex (by omega)
  have e2 : y = Int32.ofNat b := gi_nI ey (by omega)
  rw [e1, e2]
  exact nI_and hb
theorem or_E {x y : Int32} {a b : Nat} (ex : x.toInt = a) (ey : y.toInt = b) (ha : a < 256) (hb : b < 256) : (x ||| y).toInt = ((a ||| b : Nat) : Int) := by
  have e1 : x = Int32.ofNat a := gi_nI ex (by omega)
  have e2 : y = Int32.ofNat b := gi_nI ey (by omega)
  have e : Int32.ofNat a ||| Int32.ofNat b = Int32.ofNat (a ||| b) := by
    refine Int32.toBitVec_inj.mp ?_
    rw [Int32.toBitVec_or]
    exact (BitVec.ofNat_or).symm
  have lt : a ||| b < 2 ^ 8 := Nat.or_lt_two_pow ha hb
  rw [e1, e2, e]
  exact nI_toInt (by omega)
theorem cpl_a : ∀ G : Fin 9, ∀ T : Fin 256, T.val < 2 ^ G.val → ((Int32.ofNat (2 ^ G.val) - 1) &&& (Int32.ofNat T.val ^^^ (-1))).toInt = ((2 ^ G.val - 1 - T.val : Nat) : Int) := by decide +kernel
theorem cpl_b : ∀ G : Fin 9, ∀ T : Fin 256, T.val < 2 ^ G.val → 2 ^ G.val - 1 - T.val = (2 ^ G.val - 1) ^^^ T.val := by decide +kernel
theorem cpl_E {x y : Int32} {G T : Nat} (hG : G ≤ 8) (hT : T < 2 ^ G) (ex : x.toInt = ((2 ^ G : Nat) : Int)) (ey : y.toInt = T) : ((x - 1) &&& (y ^^^ (-1))).toInt = (((2 ^ G - 1) ^^^ T : Nat) : Int) := by
  have p8 := p2_8 hG
  have e1 : x = Int32.ofNat (2 ^ G) := gi_nI ex (by omega)
  have e2 : y = Int32.ofNat T := gi_nI ey (by omega)
  rw [e1, e2, cpl_a ⟨G, by omega⟩ ⟨T, by omega⟩ hT]
  exact congrArg Int.ofNat (cpl_b ⟨G, by omega⟩ ⟨T, by omega⟩ hT)
theorem sbs_and {a b : Nat} (h : gb_sbs a b) : a &&& b = a := by
  refine Nat.eq_of_testBit_eq (fun g => ?_)
  rw [Nat.testBit_and]
  cases e : a.testBit g
  · rfl
  · rw [h g e]
    rfl
theorem sbs_2 {a b : Nat} (h : gb_sbs a b) : gb_sbs (a / 2) (b / 2) := fun g hg => by
  rw [← Nat.testBit_succ] at hg ⊢
  exact h (g + 1) hg
theorem sbs_p : ∀ (n s m u : Nat), s ≤ n → gb_sbs s m → gb_sbs u m → u < s → u ≤ (s - 1) &&& m := by
  intro n
  induction n with
  | zero =>
    intro s m u h _ _ h2
    omega
  | succ n ih =>
    intro s m u hs h1 h2 hu
    have x2 : ((s - 1) &&& m) / 2 = (s - 1) / 2 &&& m / 2 := Nat.and_div_two
    rcases Nat.mod_two_eq_zero_or_one s with c | c
    · have q : (s - 1) / 2 = s / 2 - 1 := by omega
      have i := ih (s / 2) (m / 2) (u / 2) (by omega) (sbs_2 h1) (sbs_2 h2) (by omega)
      rw [q] at x2
      by_cases o : u % 2 = 1
      · have m1 : m.testBit 0 = true := h2 0 (by rw [Nat.testBit_zero]; exact decide_eq_true o)
        have s1 : (s - 1).testBit 0 = true := by
          rw [Nat.testBit_zero]
          exact decide_eq_true (by omega)
        have y : ((s - 1) &&& m).testBit 0 = true := by
          rw [Nat.testBit_and, s1, m1]
          rfl
        rw [Nat.testBit_zero] at y
        have := of_decide_eq_true y
        omega
      · omega
    · have q : (s - 1) / 2 = s / 2 := by omega
      rw [q, sbs_and (sbs_2 h1)] at x2
      omega
theorem sbs_or {s T M G : Nat} (hM : M = (2 ^ G - 1) ^^^ T) (hT : T < 2 ^ G) (h : gb_sbs s M) : (s ||| T) ^^^ T = s ∧ gb_sbs T (s ||| T) ∧ s ||| T < 2 ^ G ∧ s < 2 ^ G := by
  have tM : ∀ g, M.testBit g = true → g < G ∧ T.testBit g = false := fun g hg => by
    rw [hM, Nat.testBit_xor, Nat.testBit_two_pow_sub_one] at hg
    by_cases c : g < G
    · rw [decide_eq_true c] at hg
      refine ⟨c, ?_⟩
      cases e : T.testBit g
      · rfl
      · rw [e] at hg
        exact absurd hg (by decide)
    · rw [decide_eq_false c, Nat.testBit_lt_two_pow (Nat.lt_of_lt_of_le hT (Nat.pow_le_pow_right (by decide) (by omega)))] at hg
      exact absurd hg (by decide)
  have sl : s < 2 ^ G := by
    refine Nat.lt_pow_two_of_testBit s (fun g hg => ?_)
    cases e : s.testBit g
    · rfl
    · exact absurd (tM g (h g e)).1 (by omega)
  refine ⟨Nat.eq_of_testBit_eq (fun g => ?_), fun g hg => ?_, Nat.or_lt_two_pow sl hT, sl⟩
  · rw [Nat.testBit_xor, Nat.testBit_or]
    cases e : s.testBit g
    · cases T.testBit g <;> rfl
    · rw [(tM g (h g e)).2]
      rfl
  · rw [Nat.testBit_or, hg, Bool.or_true]
theorem sbs_x {S T M G : Nat} (hM : M = (2 ^ G - 1) ^^^ T) (hS : S < 2 ^ G) (h : gb_sbs T S) : gb_sbs (S ^^^ T) M := fun g hg => by
  rw [Nat.testBit_xor] at hg
  have c : g < G := Classical.byContradiction (fun c => by
    have z : S.testBit g = false := Nat.testBit_lt_two_pow (Nat.lt_of_lt_of_le hS (Nat.pow_le_pow_right (by decide) (by omega)))
    cases e : T.testBit g
    · rw [z, e] at hg
      exact absurd hg (by decide)
    · rw [h g e] at z
      exact absurd z (by decide))
  rw [hM, Nat.testBit_xor, Nat.testBit_two_pow_sub_one, decide_eq_true c]
  cases e : T.testBit g
  · rfl
  · rw [h g e, e] at hg
    exact absurd hg (by decide)
theorem xor_c {S T : Nat} : (S ^^^ T) ^^^ T = S := by
  rw [Nat.xor_assoc, Nat.xor_self, Nat.xor_zero]
theorem sbs_xo {S T : Nat} (h : gb_sbs T S) : (S ^^^ T) ||| T = S := by
  refine Nat.eq_of_testBit_eq (fun g => ?_)
  rw [Nat.testBit_or, Nat.testBit_xor]
  cases e : T.testBit g
  · cases S.testBit g <;> rfl
  · rw [h g e]
    rfl
theorem ad_64 {x y : Int64} {a b : Nat} (ex : x.toInt = a) (ey : y.toInt = b) (h : a + b < 1000000000000) : (x + y).toInt = ((a + b : Nat) : Int) := by
  rw [Int64.toInt_add, ex, ey, gi_64 (by omega) (by omega)]
  omega
/-! the row is emptied -/
theorem ch_fillJ6 {n k0 : Nat} {σ0 : gb_S} : ∀ (mm : Nat) (σ : gb_S) (x : Int32) (k : Nat), x.toInt = k → k ≤ 256 → σ.1 = σ0.1 → σ.2.1 = σ0.2.1 → (∀ j, ¬ j = k0 → σ.2.2 j = σ0.2.2 j) → (∀ S, S < k → σ.2.2 k0 S = 0) → gb_hc (cs_java_util_Arrays_fillJ_J_6 n mm σ k0 0 x 256) (fun s _ => s.1 = σ0.1 ∧ s.2.1 = σ0.2.1 ∧ (∀ j, ¬ j = k0 → s.2.2 j = σ0.2.2 j) ∧ ∀ S, S < 256 → s.2.2 k0 S = 0) := by
  have z : (256 : Int32).toInt = 256 := by decide
  intro mm
  induction mm with
  | zero =>
    intros
    exact hc_none
  | succ mm ih =>
    intro σ x k e hk h1 h2 h3 h4
    rw [cs_java_util_Arrays_fillJ_J_6, gi_tn e]
    refine hc_kk (fun _ => hc_if (fun c => hc_some ⟨h1, h2, h3, fun S hS => h4 S ?_⟩) (fun c => hc_ck (fun _ _ => hc_lt (fun s es => hc_lt (fun y ey => ih s y (k + 1) (gi_1 e (by omega) ey) ?_ ?_ ?_ ?_ ?_)))))
    · have := gi_le c
      omega
    · have := gi_nle c
      omega
    · rw [es]
      exact h1
    · rw [es]
      exact h2
    · intro j hj
      rw [es]
      show (if j = k0 then _ else σ.2.2 j) = _
      rw [if_neg hj]
      exact h3 j hj
    · intro S hS
      rw [es]
      show (if k0 = k0 then vp_updL (σ.2.2 k0) k 0 else σ.2.2 k0) S = 0
      rw [if_pos rfl]
      unfold vp_updL
      by_cases q : S = k
      · rw [if_pos q]
      · rw [if_neg q]
        exact h4 S (by omega)
theorem ch_fillJ {n k0 : Nat} {σ : gb_S} : gb_hc (cs_java_util_Arrays_fillJ_J n σ k0 0) (fun s _ => s.1 = σ.1 ∧ s.2.1 = σ.2.1 ∧ (∀ j, ¬ j = k0 → s.2.2 j = σ.2.2 j) ∧ ∀ S, S < 256 → s.2.2 k0 S = 0) := by
  unfold cs_java_util_Arrays_fillJ_J
  exact hc_kk (fun _ => ch_fillJ6 n σ 0 0 (by decide) (by decide) rfl rfl (fun _ _ => rfl) (fun S hS => absurd hS (Nat.not_lt_zero S)))
/-! THE CLASS COUNTS WAYS -/
theorem sg_s {σ : gb_S} {k : Nat} {F : Nat → Int64} : (gb_sg σ k F).2.2 k = F := if_pos rfl
theorem sg_n {σ : gb_S} {k j : Nat} {F : Nat → Int64} (h : ¬ j = k) : (gb_sg σ k F).2.2 j = σ.2.2 j := if_neg h
def gb_aw (σ0 σ : gb_S) : Prop := σ.1 = σ0.1 ∧ σ.2.1 = σ0.2.1 ∧ ∀ j, ¬ j = σ0.2.1 5 → σ.2.2 j = σ0.2.2 j
theorem aw_sg {σ0 σ : gb_S} {F : Nat → Int64} (h : gb_aw σ0 σ) : gb_aw σ0 (gb_sg σ (σ0.2.1 5) F) := ⟨h.1, h.2.1, fun j hj => by rw [sg_n hj]; exact h.2.2 j hj⟩
theorem ch_add13 {n G T M : Nat} {σ0 : gb_S} {B W : Nat → Nat} {v1 v2 : Int32} (hG : G ≤ 8) (hT : T < 2 ^ G) (hM : M = (2 ^ G - 1) ^^^ T) (e1 : v1.toInt = T) (e2 : v2.toInt = M) (jj : gb_JJ σ0) (h4 : ∀ S, S < 2 ^ G → (σ0.2.2 (σ0.2.1 4) S).toInt = W S) (bB : ∀ S, S < 2 ^ G → B S ≤ 1000000000) (bW : ∀ S, S < 2 ^ G → W S ≤ 1000000000) : ∀ (mm : Nat) (σ : gb_S) (v3 : Int32) (s : Nat), v3.toInt = s → gb_sbs s M → gb_aw σ0 σ → (∀ S, S < 2 ^ G → (σ.2.2 (σ0.2.1 5) S).toInt = ((B S + gb_ind (gb_sbs T S ∧ s < S ^^^ T) * W (S ^^^ T) : Nat) : Int)) → gb_hc (cs_Flocks_addGoing_13 n mm σ v1 v2 v3) (fun s _ => gb_aw σ0 s ∧ ∀ S, S < 2 ^ G → (s.2.2 (σ0.2.1 5) S).toInt = ((B S + gb_ind (gb_sbs T S) * W (S ^^^ T) : Nat) : Int)) := by
  have p8 := p2_8 hG
  have z0 : (0 : Int32).toInt = 0 := by decide
  have z1 : (1 : Int32).toInt = 1 := by decide
  have t0 : Int32.toNatClampNeg 0 = 0 := by decide
  have hMl : M < 2 ^ G := (sbs_or hM hT (fun _ h => h : gb_sbs M M)).2.2.2
  intro mm
  induction mm with
  | zero =>
    intros
    exact hc_none
  | succ mm ih =>
    intro σ v3 s e hs ha h5
    obtain ⟨a1, a2, a3, a4⟩ := sbs_or hM hT hs
    have r4 : σ.2.2 (σ0.2.1 4) = σ0.2.2 (σ0.2.1 4) := ha.2.2 _ jj
    have eo : (v3 ||| v1).toInt = ((s ||| T : Nat) : Int) := or_E e e1 (by omega) (by omega)
    rw [cs_Flocks_addGoing_13, ha.2.1, r4, t0, gi_tn e1, gi_tn e, gi_tn eo]
    refine hc_if (fun c => ?_) (fun c => ?_)
    · have c' := gi_le c
      have s0 : s = 0 := by omega
      refine hc_kk (fun _ => hc_ck (fun _ _ => hc_lt (fun x5 e5 => hc_kk (fun _ => hc_lt (fun x7 e7 => hc_ck (fun _ _ => hc_lt (fun s9 e9 => hc_some ⟨?_, fun S hS => ?_⟩)))))))
      · rw [e9]
        exact aw_sg ha
      · have hS5 := h5 S hS
        rw [e9, sg_s]
        unfold vp_updL
        by_cases q : S = T
        · rw [if_pos q]
          rw [q, ← e5] at hS5
          have h40 := h4 0 (by omega)
          rw [← e7] at h40
          rw [ad_64 hS5 h40 (by
            rw [ind_f (fun y => by have := y.2; rw [Nat.xor_self] at this; omega)]
            have := bB T hT
            have := bW 0 (by omega)
            omega)]
          rw [q, ind_f (fun y => by have := y.2; rw [Nat.xor_self] at this; omega), ind_t (show gb_sbs T T from fun _ h => h), Nat.xor_self]
          omega
        · rw [if_neg q, hS5]
          have ne : ¬ S ^^^ T = 0 := fun y => q (by
            have := xor_c (S := S) (T := T)
            rw [y, Nat.zero_xor] at this
            exact this.symm)
          rw [ind_c (p := gb_sbs T S ∧ s < S ^^^ T) (q := gb_sbs T S) ⟨fun y => y.1, fun y => ⟨y, by omega⟩⟩]
    · have c' := gi_nle c
      have em : (v3 - 1).toInt = ((s - 1 : Nat) : Int) := by
        rw [gb_tsub (by omega) (by omega)]
        omega
      have en : ((v3 - 1) &&& v2).toInt = (((s - 1) &&& M : Nat) : Int) := and_E em e2 (by omega) (by omega)
      have nl : (s - 1) &&& M ≤ s - 1 := Nat.and_le_left
      refine hc_kk (fun _ => hc_ck (fun _ _ => hc_lt (fun x12 e12 => hc_kk (fun _ => hc_ck (fun _ _ => hc_lt (fun x15 e15 => hc_ck (fun _ _ => hc_lt (fun s17 e17 => hc_lt (fun x18 e18 => ih s17 x18 ((s - 1) &&& M) (by rw [e18]; exact en) ?_ ?_ ?_)))))))))
      · intro g hg
        rw [Nat.testBit_and] at hg
        cases y : M.testBit g
        · rw [y, Bool.and_false] at hg
          exact absurd hg (by decide)
        · rfl
      · rw [e17]
        exact aw_sg ha
      · intro S hS
        have hS5 := h5 S hS
        rw [e17, sg_s]
        unfold vp_updL
        by_cases q : S = s ||| T
        · rw [if_pos q]
          rw [q, ← e12] at hS5
          have h4s := h4 s a4
          rw [← e15] at h4s
          rw [q, a1] at *
          rw [ind_f (fun y => by have := y.2; omega)] at hS5
          rw [ad_64 hS5 h4s (by
            have := bB (s ||| T) a3
            have := bW s a4
            omega), ind_t ⟨a2, by omega⟩]
          omega
        · rw [if_neg q, hS5]
          rw [ind_c (p := gb_sbs T S ∧ s < S ^^^ T) (q := gb_sbs T S ∧ (s - 1) &&& M < S ^^^ T) ⟨fun y => ⟨y.1, by omega⟩, fun y => ⟨y.1, ?_⟩⟩]
          have ne : ¬ S ^^^ T = s := fun z => q (by rw [← z, sbs_xo y.1])
          by_cases l : S ^^^ T < s
          · have := sbs_p s s M (S ^^^ T) (Nat.le_refl s) hs (sbs_x hM hS y.1) l
            have := y.2
            omega
          · omega
theorem ch_adds1 {n G T : Nat} {σ0 σ : gb_S} {B W : Nat → Nat} {v1 : Int32} (hG : G ≤ 8) (hT : T < 2 ^ G) (e1 : v1.toInt = T) (es : (σ0.1 130 4).toInt = ((2 ^ G : Nat) : Int)) (jj : gb_JJ σ0) (h4 : ∀ S, S < 2 ^ G → (σ0.2.2 (σ0.2.1 4) S).toInt = W S) (bB : ∀ S, S < 2 ^ G → B S ≤ 1000000000) (bW : ∀ S, S < 2 ^ G → W S ≤ 1000000000) (ha : gb_aw σ0 σ) (h5 : ∀ S, S < 2 ^ G → (σ.2.2 (σ0.2.1 5) S).toInt = (B S : Int)) : gb_hc (cs_Flocks_addGoing n σ v1) (fun s _ => gb_aw σ0 s ∧ ∀ S, S < 2 ^ G → (s.2.2 (σ0.2.1 5) S).toInt = ((B S + gb_ind (gb_sbs T S) * W (S ^^^ T) : Nat) : Int)) := by
  unfold cs_Flocks_addGoing
  rw [ha.1]
  have ec := cpl_E hG hT es e1
  refine hc_lt (fun x ex => ch_add13 hG hT rfl e1 (by rw [ex]; exact ec) jj h4 bB bW n σ x _ (by rw [ex]; exact ec) (fun _ h => h) ha (fun S hS => ?_))
  rw [h5 S hS]
  by_cases c : gb_sbs T S
  · have i := sbs_x (M := (2 ^ G - 1) ^^^ T) rfl hS c
    have l := sbs_and i
    have l2 : (S ^^^ T) &&& ((2 ^ G - 1) ^^^ T) ≤ (2 ^ G - 1) ^^^ T := Nat.and_le_right
    rw [ind_f (fun y => by have := y.2; omega)]
    omega
  · rw [ind_f (fun y => c y.1)]
    omega
theorem ind_le {p : Prop} : gb_ind p ≤ 1 := by
  by_cases c : p
  · rw [ind_t c]
    exact Nat.le_refl 1
  · rw [ind_f c]
    omega
theorem ind_m {p : Prop} {w b : Nat} (h : w ≤ b) : gb_ind p * w ≤ b := by
  by_cases c : p
  · rw [ind_t c]
    omega
  · rw [ind_f c]
    omega
theorem ch_goBy10 {n G : Nat} {σ0 : gb_S} {W : Nat → Nat} {ok : Nat → Prop} {v1 v2 : Int32} (hG : G ≤ 8) (es : (σ0.1 130 4).toInt = ((2 ^ G : Nat) : Int)) (jj : gb_JJ σ0) (h4 : ∀ S, S < 2 ^ G → (σ0.2.2 (σ0.2.1 4) S).toInt = W S) (bW : ∀ S, S < 2 ^ G → W S ≤ 2000000) (hok : ∀ (T : Nat) (x : Int32), T < 2 ^ G → x.toInt = T → ((σ0.1 131 T = v1 ∧ (x &&& v2) = v2) ↔ ok T)) : ∀ (mm : Nat) (σ : gb_S) (v3 : Int32) (t : Nat), v3.toInt = t → t ≤ 2 ^ G → gb_aw σ0 σ → (∀ S, S < 2 ^ G → (σ.2.2 (σ0.2.1 5) S).toInt = ((gb_sN t (fun T => gb_ind (gb_sbs T S ∧ ok T) * W (S ^^^ T)) : Nat) : Int)) → gb_hc (cs_Flocks_goBy_10 n mm σ v1 v2 v3) (fun s _ => s.1 = σ0.1 ∧ gb_JJ s ∧ ∀ S, S < 2 ^ G → (s.2.2 (s.2.1 4) S).toInt = ((gb_sN (2 ^ G) (fun T => gb_ind (gb_sbs T S ∧ ok T) * W (S ^^^ T)) : Nat) : Int)) := by
  have p8 := p2_8 hG
  intro mm
  induction mm with
  | zero =>
    intros
    exact hc_none
  | succ mm ih =>
    intro σ v3 t e ht ha h5
    rw [cs_Flocks_goBy_10, ha.1, ha.2.1, gi_tn e]
    refine hc_if (fun c => ?_) (fun c => ?_)
    · have c' := gi_le c
      have et : t = 2 ^ G := by omega
      refine hc_kk (fun _ => hc_kk (fun _ => hc_lt (fun s9 e9 => hc_lt (fun s10 e10 => hc_some ?_))))
      have q4 : s10.2.1 4 = σ0.2.1 5 := by
        rw [e10, e9]
        rfl
      have q5 : s10.2.1 5 = σ0.2.1 4 := by
        rw [e10]
        rfl
      refine ⟨?_, ?_, fun S hS => ?_⟩
      · rw [e10, e9]
        exact ha.1
      · unfold gb_JJ
        rw [q4, q5]
        exact fun y => jj y.symm
      · rw [q4, ← et, ← h5 S hS, e10, e9]
        rfl
    · have c' := gi_nle c
      have tl : t < 2 ^ G := by omega
      have o := hok t v3 tl e
      have skip : ¬ ok t → ∀ x : Int32, x = v3 + 1 → gb_hc (cs_Flocks_goBy_10 n mm σ v1 v2 x) (fun s _ => s.1 = σ0.1 ∧ gb_JJ s ∧ ∀ S, S < 2 ^ G → (s.2.2 (s.2.1 4) S).toInt = ((gb_sN (2 ^ G) (fun T => gb_ind (gb_sbs T S ∧ ok T) * W (S ^^^ T)) : Nat) : Int)) := fun hn x ex => ih σ x (t + 1) (gi_1 e (by omega) ex) (by omega) ha (fun S hS => by
        rw [h5 S hS, sN_s, ind_f (fun y => hn y.2)]
        omega)
      refine hc_ck (fun _ _ => hc_lt (fun x12 e12 => hc_if (fun d1 => hc_if (fun d2 => ?_) (fun d2 => hc_lt (fun x ex => skip (fun y => d2 (o.mpr y).2) x ex))) (fun d1 => hc_lt (fun x ex => skip (fun y => d1 (by rw [e12]; exact (o.mpr y).1)) x ex))))
      have okt : ok t := o.mp ⟨by rw [← e12]; exact d1, d2⟩
      have bB : ∀ S, S < 2 ^ G → gb_sN t (fun T => gb_ind (gb_sbs T S ∧ ok T) * W (S ^^^ T)) ≤ 1000000000 := fun S hS => by
        have l := sN_le (f := fun T => gb_ind (gb_sbs T S ∧ ok T) * W (S ^^^ T)) (B := 2000000) t (fun T hT => ind_m (bW _ (Nat.xor_lt_two_pow hS (by omega))))
        have l2 : t * 2000000 ≤ 256 * 2000000 := Nat.mul_le_mul_right _ (by omega)
        omega
      refine hc_cd (ch_adds1 (B := fun S => gb_sN t (fun T => gb_ind (gb_sbs T S ∧ ok T) * W (S ^^^ T))) hG tl e es jj h4 bB (fun S hS => by have := bW S hS; omega) ha h5) (fun s17 _ g => hc_lt (fun x ex => ih s17 x (t + 1) (gi_1 e (by omega) ex) (by omega) g.1 (fun S hS => ?_)))
      rw [g.2 S hS, sN_s, ind_c (p := gb_sbs t S ∧ ok t) (q := gb_sbs t S) ⟨fun y => y.1, fun y => ⟨y, okt⟩⟩]
theorem ch_goBy {n G : Nat} {σ : gb_S} {W : Nat → Nat} {ok : Nat → Prop} {v1 v2 : Int32} (hG : G ≤ 8) (es : (σ.1 130 4).toInt = ((2 ^ G : Nat) : Int)) (jj : gb_JJ σ) (h4 : ∀ S, S < 2 ^ G → (σ.2.2 (σ.2.1 4) S).toInt = W S) (bW : ∀ S, S < 2 ^ G → W S ≤ 2000000) (hok : ∀ (T : Nat) (x : Int32), T < 2 ^ G → x.toInt = T → ((σ.1 131 T = v1 ∧ (x &&& v2) = v2) ↔ ok T)) : gb_hc (cs_Flocks_goBy n σ v1 v2) (fun s _ => s.1 = σ.1 ∧ gb_JJ s ∧ ∀ S, S < 2 ^ G → (s.2.2 (s.2.1 4) S).toInt = ((gb_sN (2 ^ G) (fun T => gb_ind (gb_sbs T S ∧ ok T) * W (S ^^^ T)) : Nat) : Int)) := by
  have p8 := p2_8 hG
  have z64 : (0 : Int64).toInt = 0 := by decide
  unfold cs_Flocks_goBy
  refine hc_kk (fun _ => hc_cd ch_fillJ (fun s2 _ g => ?_))
  obtain ⟨g1, g2, g3, g4⟩ := g
  have jj2 : gb_JJ s2 := by
    unfold gb_JJ
    rw [g2]
    exact jj
  have r4 : s2.2.2 (s2.2.1 4) = σ.2.2 (σ.2.1 4) := by
    rw [g2]
    exact g3 _ jj
  refine hc_mono (ch_goBy10 (σ0 := s2) (ok := ok) hG (by rw [g1]; exact es) jj2 (fun S hS => by rw [r4]; exact h4 S hS) bW (fun T x hT ex => by rw [g1]; exact hok T x hT ex) n s2 0 0 (by decide) (by omega) ⟨rfl, rfl, fun _ _ => rfl⟩ (fun S hS => ?_)) (fun s _ q => ⟨q.1.trans g1, q.2⟩)
  rw [g2, g4 S (by omega), z64]
  rfl
/-! ALL LINES OF A DAWN -/
theorem Wy_b {R DR : Nat → Int32} {q : Option (Nat × Nat)} {i S : Nat} (hR : gb_rB R) : gb_Wy R DR q i S ≤ 2000000 := by
  have h5 := (rB_nP hR).2
  have h8 := (rB_nG hR).2
  have l : gb_Wy R DR q i S ≤ (gb_nP R + 1) ^ gb_nG R := cn_le _ _ _
  have l2 : (gb_nP R + 1) ^ gb_nG R ≤ 6 ^ gb_nG R := Nat.pow_le_pow_left (by omega) _
  have l3 : 6 ^ gb_nG R ≤ 6 ^ 8 := Nat.pow_le_pow_right (by decide) h8
  have l4 : (6 : Nat) ^ 8 = 1679616 := by decide
  omega
theorem am_E {x v : Int32} {T g : Nat} (ex : x.toInt = T) (hT : T < 256) (ev : v.toInt = ((2 ^ g : Nat) : Int)) (hg : g < 8) : ((x &&& v) = v) ↔ T.testBit g = true := by
  have p : 2 ^ g ≤ 2 ^ 8 := Nat.pow_le_pow_right (by decide) (by omega)
  have p0 : 0 < 2 ^ g := Nat.pow_pos (by decide)
  have e := and_E ex ev (by omega) (by omega)
  have b2 : (2 ^ g).testBit g = true := Nat.testBit_two_pow_self
  constructor
  · intro h
    rw [h, ev] at e
    have e' : 2 ^ g = T &&& 2 ^ g := by omega
    rw [e', Nat.testBit_and] at b2
    cases c : T.testBit g
    · rw [c, Bool.false_and] at b2
      exact absurd b2 (by decide)
    · rfl
  · intro h
    have q : gb_sbs (2 ^ g) T := fun j hj => by
      rw [Nat.testBit_two_pow] at hj
      rw [← of_decide_eq_true hj]
      exact h
    rw [Nat.and_comm, sbs_and q] at e
    exact gb_ieq (e.trans ev.symm)
def gb_wy (R DR : Nat → Int32) (q : Option (Nat × Nat)) (i : Nat) (σ0 σ : gb_S) : Prop := (∀ c, c ≠ 130 → c ≠ 131 → σ.1 c = σ0.1 c) ∧ (σ.1 130 4).toInt = ((2 ^ gb_nG R : Nat) : Int) ∧ gb_JJ σ ∧ ∀ S, S < 2 ^ gb_nG R → (σ.2.2 (σ.2.1 4) S).toInt = gb_Wy R DR q i S
def gb_qv (R : Nat → Int32) (q : Option (Nat × Nat)) (v3 v4 : Int32) : Prop := (q = none ∧ v3 = -1 ∧ v4 = -1) ∨ ∃ g l : Nat, q = some (g, l) ∧ v3.toInt = g ∧ g < gb_nG R ∧ v4.toInt = l
theorem qv_g {R : Nat → Int32} {q : Option (Nat × Nat)} {v3 v4 : Int32} (h : gb_qv R q v3 v4) : ∀ g l, q = some (g, l) → g < gb_nG R := fun g l e => by
  rcases h with h | ⟨g2, l2, h, _, h2, _⟩
  · rw [h.1] at e
    exact absurd e (by intro y; cases y)
  · rw [h] at e
    cases e
    exact h2
theorem ch_find28 {n k0 k1 : Nat} {R DR : Nat → Int32} {q : Option (Nat × Nat)} {σ0 : gb_S} {v3 v4 : Int32} (hR : gb_rB R) (k9 : k0 + 1 < 109) (k9' : k1 + 1 < 109) (hb : gb_cbx k0 R σ0) (hS : gb_RS 3 (σ0.1 (k1 + 1)) DR) (ra : ∀ j, j < 11 → gb_iv (gt_R 3 j).1 (gt_R 3 j).2 (DR j)) (nd : ¬ gb_dup DR) (hq : gb_qv R q v3 v4) : ∀ (mm : Nat) (σ : gb_S) (v5 : Int32) (i : Nat), v5.toInt = i → i ≤ gb_fnD DR → gb_wy R DR q i σ0 σ → gb_hc (cs_Flocks_findWays_B_D_28 n mm σ k0 k1 v3 v4 v5) (fun s _ => gb_wy R DR q (gb_fnD DR) σ0 s) := by
  have h5 := (rB_nP hR).2
  have h8 := (rB_nG hR).2
  have p8 := p2_8 h8
  have z0 : (0 : Int32).toInt = 0 := by decide
  have m1 : (-1 : Int32).toInt = -1 := by decide
  have z64 : (0 : Int64).toInt = 0 := by decide
  have r0 := (raD_m (k := 0) ra (by decide)).2.2
  have r01 := r0.1
  have r02 := r0.2
  have eN : (DR 0).toInt = gb_fnD DR := by
    unfold gb_fnD
    omega
  have hg := qv_g hq
  intro mm
  induction mm with
  | zero =>
    intros
    exact hc_none
  | succ mm ih =>
    intro σ v5 i e hi hw
    obtain ⟨w1, w2, w3, w4⟩ := hw
    have c0 : σ.1 (k0 + 1) = σ0.1 (k0 + 1) := w1 _ (by omega) (by omega)
    have c1 : σ.1 (k1 + 1) = σ0.1 (k1 + 1) := w1 _ (by omega) (by omega)
    have hbσ : gb_cbx k0 R σ := by
      unfold gb_cbx
      rw [c0]
      exact hb
    rw [cs_Flocks_findWays_B_D_28]
    refine hc_kk (fun _ => hc_kk (fun _ => hc_cd ch_sizeD (fun s r ⟨g0, g1⟩ => ?_)))
    subst g0
    rw [c1, hS.1] at g1
    refine hc_if (fun c => hc_some ?_) (fun c => ?_)
    · have c' := gi_le c
      rw [g1, eN] at c'
      have : i = gb_fnD DR := by omega
      rw [← this]
      exact ⟨w1, w2, w3, w4⟩
    · have c' := gi_nle c
      rw [g1, eN] at c'
      have il : i < gb_fnD DR := by omega
      have cell := hS.2.2.2 rfl i (by unfold gb_fnD at il; exact il)
      have rk := raD_m (k := i) ra (by omega)
      have rk1 := rk.1.1
      have rk2 := rk.1.2
      have mk1 := rk.2.1.1
      refine hc_cd (ch_pathSeen e (by omega)) (fun s2 r2 ⟨g0, g2⟩ => ?_)
      subst g0
      rw [c1, cell.1] at g2
      have ep : r2.toInt = gb_fpa DR i := by
        rw [g2]
        unfold gb_fpa
        omega
      refine hc_cd (cbx_has hbσ) (fun s3 r3 ⟨g0, g3⟩ => ?_)
      subst g0
      refine hc_if (fun d => ?_) (fun d => ?_)
      · have np : gb_nP R ≤ gb_fpa DR i := by
          rcases g3 with y | y
          · have := (rB_nP hR).1
            exact Classical.byContradiction (fun z => y.2 ⟨by omega, by omega⟩)
          · rw [y.1] at d
            exact absurd d (by decide)
        have st : ∀ S, gb_Wy R DR q (i + 1) S = gb_ind (gb_fmk DR i = 0 ∧ ∀ g, ¬ q = some (g, i)) * gb_Wy R DR q i S := fun S => W_out hg np
        refine hc_cd (ch_marksSeen e (by omega)) (fun s4 r4 ⟨g0, g4⟩ => ?_)
        subst g0
        rw [c1, cell.2] at g4
        have em : r4.toInt = gb_fmk DR i := by
          rw [g4]
          rfl
        have zf : ¬ (gb_fmk DR i = 0 ∧ ∀ g, ¬ q = some (g, i)) → ∀ (s5 : gb_S) (x : Int32), s5.1 = s4.1 → s5.2.1 = s4.2.1 → (∀ S, S < 256 → s5.2.2 (s4.2.1 4) S = 0) → x = v5 + 1 → gb_hc (cs_Flocks_findWays_B_D_28 n mm s5 k0 k1 v3 v4 x) (fun s _ => gb_wy R DR q (gb_fnD DR) σ0 s) := fun hn s5 x q1 q2 q3 ex => ih s5 x (i + 1) (gi_1 e (by omega) ex) (by omega) ⟨fun c a b => by rw [q1]; exact w1 c a b, by rw [q1]; exact w2, by unfold gb_JJ; rw [q2]; exact w3, fun S hS => by rw [q2, q3 S (by omega), z64, st S, ind_f hn, Nat.zero_mul]; rfl⟩
        refine hc_if (fun a => hc_if (fun b => hc_kk (fun _ => hc_cd ch_fillJ (fun s5 _ g5 => hc_lt (fun x ex => zf (fun z => ?_) s5 x g5.1 g5.2.1 g5.2.2.2 ex)))) (fun b => hc_lt (fun x ex => ih s4 x (i + 1) (gi_1 e (by omega) ex) (by omega) ⟨w1, w2, w3, fun S hS => ?_⟩))) (fun a => hc_kk (fun _ => hc_cd ch_fillJ (fun s5 _ g5 => hc_lt (fun x ex => zf (fun z => ?_) s5 x g5.1 g5.2.1 g5.2.2.2 ex))))
        · rcases hq with y | ⟨g, l, y1, y2, y3, y4⟩
          · rw [b, y.2.2, m1] at e
            omega
          · rw [b, y4] at e
            have : l = i := by omega
            exact z.2 g (by rw [y1, this])
        · rw [w4 S hS, st S, ind_t, Nat.one_mul]
          refine ⟨by rw [← em, a]; exact z0, fun g z => ?_⟩
          rcases hq with y | ⟨g', l, y1, y2, y3, y4⟩
          · rw [y.1] at z
            exact absurd z (by intro y; cases y)
          · rw [y1] at z
            cases z
            exact b (gb_ieq (e.trans y4.symm))
        · exact a (gb_ieq (by rw [em, z.1, z0]))
      · have pl : gb_fpa DR i < gb_nP R := by
          rcases g3 with y | y
          · exact absurd y.1 d
          · have := y.2.2.2
            omega
        have hd : ∀ j, j < i → ¬ gb_fpa DR j = gb_fpa DR i := fun j hj z => nd ⟨j, i, hj, by unfold gb_fnD at il; exact il, by
          have rj := raD_m (k := j) ra (by omega)
          have := rj.1.1
          unfold gb_fpa at z
          exact gb_ieq (by omega)⟩
        refine hc_cd (su_131 hR k9 hbσ ep pl) (fun s4 _ g4 => ?_)
        obtain ⟨u1, u2, u3, u4, u5⟩ := g4
        have c1' : s4.1 (k1 + 1) = σ0.1 (k1 + 1) := (u2 _ (by omega) (by omega)).trans c1
        refine hc_cd (ch_marksSeen e (by omega)) (fun s5 r5 ⟨g0, g5⟩ => ?_)
        subst g0
        rw [c1', cell.2] at g5
        have em : r5.toInt = gb_fmk DR i := by
          rw [g5]
          rfl
        have w1' : ∀ c, c ≠ 130 → c ≠ 131 → s5.1 c = σ0.1 c := fun c a b => (u2 c a b).trans (w1 c a b)
        have go : ∀ v2 : Int32, (∀ (T : Nat) (x : Int32), T < 2 ^ gb_nG R → x.toInt = T → (((x &&& v2) = v2) ↔ ∀ g, q = some (g, i) → T.testBit g = true)) → gb_hc (gb_cd (cs_Flocks_goBy n s5 r5 v2) (fun s_59 _ => gb_lt (v5 + 1) (fun x_63 => cs_Flocks_findWays_B_D_28 n mm s_59 k0 k1 v3 v4 x_63))) (fun s _ => gb_wy R DR q (gb_fnD DR) σ0 s) := fun v2 hv => by
          refine hc_cd (ch_goBy (W := gb_Wy R DR q i) (ok := gb_okT R DR q i) h8 u3 (by unfold gb_JJ; rw [u1]; exact w3) (fun S hS => by rw [u1]; exact w4 S hS) (fun S _ => Wy_b hR) (fun T x hT ex => ?_)) (fun s6 _ g6 => hc_lt (fun x ex => ih s6 x (i + 1) (gi_1 e (by omega) ex) (by omega) ⟨fun c a b => by rw [g6.1]; exact w1' c a b, by rw [g6.1]; exact u3, g6.2.1, fun S hS => ?_⟩))
          · have t := u5 T hT
            refine ⟨fun z => ⟨?_, (hv T x hT ex).mp z.2⟩, fun z => ⟨gb_ieq ?_, (hv T x hT ex).mpr z.2⟩⟩
            · rw [← t, z.1, em]
            · rw [t, em]
              exact z.1
          · rw [g6.2.2 S hS, ← W_in hg pl hd hS]
        have z2 : ∀ (T : Nat) (x : Int32), T < 2 ^ gb_nG R → x.toInt = T → (x &&& 0) = (0 : Int32) := fun T x hT ex => gb_ieq (by
          rw [and_E (b := 0) ex z0 (by omega) (by decide), Nat.and_zero, z0]
          rfl)
        refine hc_if (fun a => go 0 (fun T x hT ex => ⟨fun _ g z => ?_, fun _ => z2 T x hT ex⟩)) (fun a => hc_if (fun b => go _ (fun T x hT ex => ?_)) (fun b => go 0 (fun T x hT ex => ⟨fun _ g z => ?_, fun _ => z2 T x hT ex⟩)))
        · rcases hq with y | ⟨g', l, y1, y2, y3, y4⟩
          · rw [y.1] at z
            exact absurd z (by intro y; cases y)
          · rw [a, m1] at y2
            omega
        · rcases hq with y | ⟨g', l, y1, y2, y3, y4⟩
          · exact absurd y.2.1 a
          · rw [am_E ex (by omega) (sh_q2 y2 (by omega)) (by omega)]
            have li : l = i := by
              rw [b, y4] at e
              omega
            refine ⟨fun z g w => ?_, fun z => z g' (by rw [y1, li])⟩
            rw [y1] at w
            cases w
            exact z
        · rcases hq with y | ⟨g', l, y1, y2, y3, y4⟩
          · exact absurd y.2.1 a
          · rw [y1] at z
            cases z
            exact absurd (gb_ieq (e.trans y4.symm)) b
theorem ch_find {n k0 k1 : Nat} {R DR : Nat → Int32} {q : Option (Nat × Nat)} {σ : gb_S} {v3 v4 : Int32} (hR : gb_rB R) (k9 : k0 + 1 < 109) (k9' : k1 + 1 < 109) (hb : gb_cbx k0 R σ) (hS : gb_RS 3 (σ.1 (k1 + 1)) DR) (ra : ∀ j, j < 11 → gb_iv (gt_R 3 j).1 (gt_R 3 j).2 (DR j)) (nd : ¬ gb_dup DR) (jj : gb_JJ σ) (hq : gb_qv R q v3 v4) : gb_hc (cs_Flocks_findWays_B_D n σ k0 k1 v3 v4) (fun s _ => gb_wy R DR q (gb_fnD DR) σ s) := by
  have h8 := (rB_nG hR).2
  have p8 := p2_8 h8
  have t0 : Int32.toNatClampNeg 0 = 0 := by decide
  have z64 : (0 : Int64).toInt = 0 := by decide
  have o64 : (1 : Int64).toInt = 1 := by decide
  unfold cs_Flocks_findWays_B_D
  rw [t0]
  refine hc_kk (fun _ => hc_kk (fun _ => hc_cd ch_geese (fun s r ⟨g0, g1⟩ => hc_lt (fun s7 e7 => hc_kk (fun _ => hc_cd ch_fillJ (fun s9 _ g9 => hc_kk (fun _ => hc_lt (fun s14 e14 => ?_))))))))
  subst g0
  obtain ⟨f1, f2, f3, f4⟩ := g9
  have eG : r.toInt = gb_nG R := by
    rw [g1, (hb.2.1 rfl).1]
    exact (rB_nG hR).1
  have q4 : s9.2.1 = s.2.1 := by
    rw [f2, e7]
    rfl
  have h1 : s14.1 = gb_u s.1 130 (upd (s.1 130) 4 ((1 : Int32) <<< (r &&& 31))) := by
    rw [e14]
    show s9.1 = _
    rw [f1, e7]
    rfl
  have h2 : s14.2.1 = s.2.1 := by
    rw [e14]
    exact q4
  have jj7 : s7.2.1 = s.2.1 := by
    rw [e7]
    rfl
  refine ch_find28 hR k9 k9' hb hS ra nd hq n s14 0 0 (by decide) (Nat.zero_le _) ⟨fun c a b => ?_, ?_, ?_, fun S hS => ?_⟩
  · rw [h1]
    exact gb_un a
  · rw [h1, gb_us, pk_us]
    exact sh_q2 eG h8
  · unfold gb_JJ
    rw [h2]
    exact jj
  · rw [W_0 hS]
    have e4 : s14.2.2 (s14.2.1 4) = vp_updL (s9.2.2 (s9.2.1 4)) 0 1 := by
      rw [h2, ← q4, e14]
      exact sg_s
    rw [e4]
    unfold vp_updL
    by_cases z : S = 0
    · rw [if_pos z, if_pos z]
      exact o64
    · rw [if_neg z, if_neg z, q4, ← jj7, f4 S (by omega)]
      exact z64
/-! how many in all -/
theorem ch_all4 {n i : Nat} {R DR : Nat → Int32} {q : Option (Nat × Nat)} {σ0 σ : gb_S} (hR : gb_rB R) (hw : gb_wy R DR q i σ0 σ) : ∀ (mm : Nat) (v1 : Int64) (v3 : Int32) (t : Nat), v3.toInt = t → t ≤ 2 ^ gb_nG R → v1.toInt = ((gb_sN t (fun S => gb_Wy R DR q i S) : Nat) : Int) → gb_hc (cs_Flocks_allWays_4 n mm σ v1 v3) (fun s r => s = σ ∧ r.toInt = ((gb_Zy R DR q i : Nat) : Int)) := by
  have h8 := (rB_nG hR).2
  have p8 := p2_8 h8
  have es := hw.2.1
  intro mm
  induction mm with
  | zero =>
    intros
    exact hc_none
  | succ mm ih =>
    intro v1 v3 t e ht e1
    rw [cs_Flocks_allWays_4, gi_tn e]
    refine hc_if (fun c => hc_some ⟨rfl, ?_⟩) (fun c => hc_kk (fun _ => hc_ck (fun _ _ => hc_lt (fun x4 e4 => hc_lt (fun x5 e5 => hc_lt (fun x6 e6 => ?_))))))
    · have c' := gi_le c
      have : t = 2 ^ gb_nG R := by omega
      rw [e1, W_sum, this]
    · have c' := gi_nle c
      have l := sN_le (f := fun S => gb_Wy R DR q i S) (B := 2000000) t (fun T hT => Wy_b hR)
      have l2 : t * 2000000 ≤ 256 * 2000000 := Nat.mul_le_mul_right _ (by omega)
      have w := hw.2.2.2 t (by omega)
      have b := Wy_b (DR := DR) (q := q) (i := i) (S := t) hR
      rw [← e4] at w
      refine ih x5 x6 (t + 1) (gi_1 e (by omega) e6) (by omega) ?_
      rw [e5, ad_64 e1 w (by omega), sN_s]
theorem ch_all {n i : Nat} {R DR : Nat → Int32} {q : Option (Nat × Nat)} {σ0 σ : gb_S} (hR : gb_rB R) (hw : gb_wy R DR q i σ0 σ) : gb_hc (cs_Flocks_allWays n σ) (fun s r => s = σ ∧ r.toInt = ((gb_Zy R DR q i : Nat) : Int)) := by
  unfold cs_Flocks_allWays
  exact ch_all4 hR hw n 0 0 0 (by decide) (Nat.zero_le _) rfl
/-! THE REFERENCE TRIES THEM ALL -/
def gb_du (DR U : Nat → Int32) : Prop := (∀ i, i < gb_fnD DR → U (gb_fpa DR i) = DR (2 + 2 * i)) ∧ ∀ p, p < 5 → (∀ i, i < gb_fnD DR → ¬ gb_fpa DR i = p) → U p = -1
def gb_ub (R U : Nat → Int32) (a : Nat → Nat) : Prop := (∀ g, g < gb_nG R → ¬ a g = 0 → ¬ U (a g - 1) = -1) ∧ ∀ p, p < 5 → (U p = -1 ∨ gb_tq R a p (gb_nG R) = (U p).toInt)
theorem ub_fi {R DR U : Nat → Int32} {a : Nat → Nat} (hR : gb_rB R) (ra : ∀ j, j < 11 → gb_iv (gt_R 3 j).1 (gt_R 3 j).2 (DR j)) (hU : gb_du DR U) (ha : ∀ g, g < gb_nG R → a g < gb_nP R + 1) : gb_ub R U a ↔ gb_fi R DR none (gb_fnD DR) a := by
  have h5 := (rB_nP hR).2
  have m1 : (-1 : Int32).toInt = -1 := by decide
  have r0 := (raD_m (k := 0) ra (by decide)).2.2
  have r02 := r0.2
  have n5 : gb_fnD DR ≤ 5 := by
    unfold gb_fnD
    omega
  have ne : ∀ i, i < gb_fnD DR → ¬ U (gb_fpa DR i) = -1 ∧ gb_fpa DR i < 5 := fun i hi => by
    have rk := raD_m (k := i) ra (by omega)
    have a1 := rk.2.1.1
    have a2 := rk.1.2
    refine ⟨fun z => ?_, by unfold gb_fpa; omega⟩
    rw [hU.1 i hi] at z
    rw [z, m1] at a1
    omega
  constructor
  · intro h
    refine ⟨fun g hg hn => ?_, fun j hj => ?_, fun g l e => by cases e⟩
    · have h1 := h.1 g hg hn
      have h2 := ha g hg
      refine Classical.byContradiction (fun z => h1 (hU.2 (a g - 1) (by omega) (fun i hi e => z ⟨i, hi, by omega⟩)))
    · rcases h.2 (gb_fpa DR j) (ne j hj).2 with y | y
      · exact absurd y (ne j hj).1
      · rw [y, hU.1 j hj]
        rfl
  · intro h
    refine ⟨fun g hg hn z => ?_, fun p hp => ?_⟩
    · obtain ⟨j, hj, e⟩ := h.1 g hg hn
      have e2 : a g - 1 = gb_fpa DR j := by omega
      rw [e2] at z
      exact (ne j hj).1 z
    · by_cases c : ∃ i, i < gb_fnD DR ∧ gb_fpa DR i = p
      · obtain ⟨i, hi, e⟩ := c
        refine Or.inr ?_
        rw [← e, h.2.1 i hi, hU.1 i hi]
        rfl
      · exact Or.inl (hU.2 p hp (fun i hi e => c ⟨i, hi, e⟩))
def gb_pop (a : Nat → Nat) : Nat → Nat
  | 0 => 0
  | g + 1 => gb_pop a g + if a g = 0 then 0 else 1
theorem pop_1 {a : Nat → Nat} {g : Nat} : gb_pop a (g + 1) = gb_pop a g + if a g = 0 then 0 else 1 := rfl
theorem pop_le {a : Nat → Nat} : ∀ k : Nat, gb_pop a k ≤ k := by
  intro k
  induction k with
  | zero => exact Nat.le_refl 0
  | succ k ih =>
    rw [pop_1]
    split <;> omega
theorem pop_gs {a : Nat → Nat} {S : Nat} : ∀ k : Nat, (∀ g, g < k → (S.testBit g = true ↔ ¬ a g = 0)) → gb_gs (fun _ => 1) S k = (gb_pop a k : Int) := by
  intro k
  induction k with
  | zero =>
    intro _
    rfl
  | succ k ih =>
    intro h
    rw [ss_1, pop_1, ih (fun g hg => h g (by omega))]
    by_cases c : a k = 0
    · rw [if_pos c, if_neg (fun z => ((h k (by omega)).mp z) c)]
      omega
    · rw [if_neg c, if_pos ((h k (by omega)).mpr c)]
      omega
/-! what is kept of the ways that fit -/
def gb_acc (R : Nat → Int32) (N : Nat) (Mem : (Nat → Nat) → Prop) (f : gb_F) (w : Int64) : Prop := w = Int64.ofNat N ∧ ((∀ a, Mem a → (f 0 34).toInt ≤ gb_pop a (gb_nG R)) ∧ (((∀ a, ¬ Mem a) ∧ f 0 34 = 99) ∨ ∃ a, Mem a ∧ (f 0 34).toInt = gb_pop a (gb_nG R))) ∧ ((∀ a, Mem a → (gb_pop a (gb_nG R) : Int) ≤ (f 0 35).toInt) ∧ (((∀ a, ¬ Mem a) ∧ f 0 35 = 0) ∨ ∃ a, Mem a ∧ (f 0 35).toInt = gb_pop a (gb_nG R))) ∧ (∀ i, gb_tbt (f 0 36) i = true ↔ i < gb_nG R ∧ ∀ a, Mem a → ¬ a i = 0) ∧ ∀ g, g < gb_nG R → ∀ i, gb_tbt (f 18 g) i = true ↔ ∃ a, Mem a ∧ a g = i + 1
theorem acc_c {R : Nat → Int32} {N N2 : Nat} {M M2 : (Nat → Nat) → Prop} {f f2 : gb_F} {w : Int64} (h : gb_acc R N M f w) (eN : N2 = N) (eM : ∀ a, M2 a ↔ M a) (e0 : f2 0 = f 0) (e18 : f2 18 = f 18) : gb_acc R N2 M2 f2 w := by
  have e : M2 = M := funext (fun a => propext (eM a))
  unfold gb_acc at h ⊢
  rw [eN, e, e0, e18]
  exact h
theorem mh_whole4 {n : Nat} {f : gb_F} {w : Int64} : ∀ (mm : Nat) (v1 v2 : Int32) (k : Nat), v2.toInt = k → k ≤ 5 → ((v1 = 0 ∧ ¬ ∀ p, p < k → (f 15 p = -1 ∨ f 15 p = f 14 p)) ∨ (v1 = 1 ∧ ∀ p, p < k → (f 15 p = -1 ∨ f 15 p = f 14 p))) → gb_hm (ms_isWhole_4 n mm f w v1 v2) (fun f2 w2 r => f2 = f ∧ w2 = w ∧ ((r = 0 ∧ ¬ ∀ p, p < 5 → (f 15 p = -1 ∨ f 15 p = f 14 p)) ∨ (r = 1 ∧ ∀ p, p < 5 → (f 15 p = -1 ∨ f 15 p = f 14 p)))) := by
  have c5 : (5 : Int32).toInt = 5 := by decide
  intro mm
  induction mm with
  | zero =>
    intros
    exact hm_none
  | succ mm ih =>
    intro v1 v2 k e hk hv
    rw [ms_isWhole_4, gi_tn e]
    refine hm_if (fun c => hm_cb (fun _ => hm_some ⟨rfl, rfl, ?_⟩)) (fun c => ?_)
    · have c' := gi_le c
      have : k = 5 := by omega
      rw [this] at hv
      exact hv
    · have c' := gi_nle c
      have no : (¬ ∀ p, p < k + 1 → (f 15 p = -1 ∨ f 15 p = f 14 p)) → ∀ x : Int32, x = v2 + 1 → gb_hm (ms_isWhole_4 n mm f w 0 x) (fun f2 w2 r => f2 = f ∧ w2 = w ∧ ((r = 0 ∧ ¬ ∀ p, p < 5 → (f 15 p = -1 ∨ f 15 p = f 14 p)) ∨ (r = 1 ∧ ∀ p, p < 5 → (f 15 p = -1 ∨ f 15 p = f 14 p)))) := fun h x ex => ih 0 x (k + 1) (gi_1 e (by omega) ex) (by omega) (Or.inl ⟨rfl, h⟩)
      have ye : (∀ p, p < k + 1 → (f 15 p = -1 ∨ f 15 p = f 14 p)) → ∀ x : Int32, x = v2 + 1 → gb_hm (ms_isWhole_4 n mm f w 1 x) (fun f2 w2 r => f2 = f ∧ w2 = w ∧ ((r = 0 ∧ ¬ ∀ p, p < 5 → (f 15 p = -1 ∨ f 15 p = f 14 p)) ∨ (r = 1 ∧ ∀ p, p < 5 → (f 15 p = -1 ∨ f 15 p = f 14 p)))) := fun h x ex => ih 1 x (k + 1) (gi_1 e (by omega) ex) (by omega) (Or.inr ⟨rfl, h⟩)
      have nx : (∀ p, p < k → (f 15 p = -1 ∨ f 15 p = f 14 p)) → (f 15 k = -1 ∨ f 15 k = f 14 k) → ∀ p, p < k + 1 → (f 15 p = -1 ∨ f 15 p = f 14 p) := fun h h2 p hp => by
        by_cases z : p = k
        · rw [z]
          exact h2
        · exact h p (by omega)
      refine hm_if (fun a => hm_lt (fun x ex => no (fun h => ?_) x ex)) (fun a => ?_)
      · rcases hv with y | y
        · exact y.2 (fun p hp => h p (by omega))
        · rw [y.1] at a
          exact absurd a (by decide)
      · have hA : ∀ p, p < k → (f 15 p = -1 ∨ f 15 p = f 14 p) := by
          rcases hv with y | y
          · exact absurd y.1 a
          · exact y.2
        refine hm_ck (fun _ _ => hm_lt (fun x6 e6 => hm_if (fun b => hm_lt (fun x ex => ye (nx hA (Or.inl (by rw [← e6]; exact b))) x ex)) (fun b => hm_ck (fun _ _ => hm_lt (fun x10 e10 => hm_ck (fun _ _ => hm_lt (fun x12 e12 => hm_if (fun d => hm_lt (fun x ex => ye (nx hA (Or.inr (by rw [← e10, ← e12]; exact d))) x ex)) (fun d => hm_lt (fun x ex => no (fun h => ?_) x ex)))))))))
        rcases h k (by omega) with y | y
        · exact b (by rw [e6]; exact y)
        · exact d (by rw [e10, e12]; exact y)
theorem mh_whole {n : Nat} {f : gb_F} {w : Int64} : gb_hm (ms_isWhole n f w) (fun f2 w2 r => f2 = f ∧ w2 = w ∧ ((r = 0 ∧ ¬ ∀ p, p < 5 → (f 15 p = -1 ∨ f 15 p = f 14 p)) ∨ (r = 1 ∧ ∀ p, p < 5 → (f 15 p = -1 ∨ f 15 p = f 14 p)))) := by
  unfold ms_isWhole
  exact mh_whole4 n 1 0 0 (by decide) (by decide) (Or.inr ⟨rfl, fun p hp => absurd hp (Nat.not_lt_zero p)⟩)
/-! ONE WAY MORE IS KEPT -/
theorem tb_on1 : ∀ g : Fin 8, ∀ h : Fin 32, gb_tbt ((1 : Int32) <<< ((Int32.ofNat g.val) &&& 31)) h.val = decide (h.val = g.val) := by decide
theorem tb_on {x : Int32} {g : Nat} (e : x.toInt = g) (hg : g < 8) (i : Nat) : gb_tbt ((1 : Int32) <<< (x &&& 31)) i = true ↔ i = g := by
  have ev : x = Int32.ofNat g := gi_nI e (by omega)
  by_cases c : i < 32
  · rw [ev, tb_on1 ⟨g, hg⟩ ⟨i, c⟩]
    exact decide_eq_true_iff
  · unfold gb_tbt
    rw [BitVec.getLsbD_of_ge _ _ (by omega)]
    exact ⟨fun h => absurd h (by decide), fun h => absurd h (by omega)⟩
theorem tb_an (x y : Int32) (i : Nat) : gb_tbt (x &&& y) i = true ↔ (gb_tbt x i = true ∧ gb_tbt y i = true) := by
  unfold gb_tbt
  rw [Int32.toBitVec_and, BitVec.getLsbD_and]
  exact Bool.and_eq_true_iff
theorem tb_oo (x y : Int32) (i : Nat) : gb_tbt (x ||| y) i = true ↔ (gb_tbt x i = true ∨ gb_tbt y i = true) := by
  rw [tb_or]
  exact Bool.or_eq_true_iff
theorem mh_count93 {n : Nat} {f : gb_F} {w : Int64} {v1 v2 t0 : Int32} : gb_hm (ms_counts_93 n f w v1 v2 t0) (fun f2 w2 _ => w2 = w ∧ (∀ q, q ≠ 0 → f2 q = f q) ∧ (∀ j, j ≠ 34 → j ≠ 35 → j ≠ 36 → f2 0 j = f 0 j) ∧ f2 0 34 = t0 ∧ f2 0 35 = (if v2 ≤ f 0 35 then f 0 35 else v2) ∧ f2 0 36 = f 0 36 &&& v1) := by
  unfold ms_counts_93
  refine hm_lt (fun f1 e1 => ?_)
  have x35 : f1 0 35 = f 0 35 := by
    rw [e1, gb_us]
    exact pk_un (by decide)
  have x36 : f1 0 36 = f 0 36 := by
    rw [e1, gb_us]
    exact pk_un (by decide)
  have go : ∀ (y : Int32) (f2 f3 : gb_F), y = (if v2 ≤ f 0 35 then f 0 35 else v2) → f2 = gb_u f1 0 (upd (f1 0) 35 y) → f3 = gb_u f2 0 (upd (f2 0) 36 ((f2 0 36) &&& v1)) → (w = w ∧ (∀ q, q ≠ 0 → f3 q = f q) ∧ (∀ j, j ≠ 34 → j ≠ 35 → j ≠ 36 → f3 0 j = f 0 j) ∧ f3 0 34 = t0 ∧ f3 0 35 = (if v2 ≤ f 0 35 then f 0 35 else v2) ∧ f3 0 36 = f 0 36 &&& v1) := fun y f2 f3 ey e2 e3 => by
    refine ⟨rfl, fun q hq => ?_, fun j h1 h2 h3 => ?_, ?_, ?_, ?_⟩
    · rw [e3, gb_un hq, e2, gb_un hq, e1, gb_un hq]
    · rw [e3, gb_us, pk_un h3, e2, gb_us, pk_un h2, e1, gb_us, pk_un h1]
    · rw [e3, gb_us, pk_un (by decide), e2, gb_us, pk_un (by decide), e1, gb_us, pk_us]
    · rw [e3, gb_us, pk_un (by decide), e2, gb_us, pk_us]
      exact ey
    · rw [e3, gb_us, pk_us, e2, gb_us, pk_un (by decide), x36]
  refine hm_if (fun c => hm_lt (fun f2 e2 => hm_lt (fun f3 e3 => hm_some (go _ f2 f3 ?_ e2 e3)))) (fun c => hm_lt (fun f2 e2 => hm_lt (fun f3 e3 => hm_some (go _ f2 f3 ?_ e2 e3))))
  · rw [x35] at c ⊢
    rw [if_pos c]
  · rw [x35] at c
    rw [if_neg c]
def gb_one (R : Nat → Int32) (a : Nat → Nat) (f f2 : gb_F) (w w2 : Int64) : Prop := w2 = w + 1 ∧ (∀ q, q ≠ 0 → q ≠ 18 → f2 q = f q) ∧ (∀ j, j ≠ 34 → j ≠ 35 → j ≠ 36 → f2 0 j = f 0 j) ∧ (f2 0 34).toInt = (if (f 0 34).toInt ≤ gb_pop a (gb_nG R) then (f 0 34).toInt else (gb_pop a (gb_nG R) : Int)) ∧ (f2 0 35).toInt = (if (gb_pop a (gb_nG R) : Int) ≤ (f 0 35).toInt then (f 0 35).toInt else (gb_pop a (gb_nG R) : Int)) ∧ (∀ i, gb_tbt (f2 0 36) i = true ↔ (gb_tbt (f 0 36) i = true ∧ i < gb_nG R ∧ ¬ a i = 0)) ∧ ∀ g, g < gb_nG R → ∀ i, gb_tbt (f2 18 g) i = true ↔ (gb_tbt (f 18 g) i = true ∨ a g = i + 1)
theorem mh_count14 {n m : Nat} {R : Nat → Int32} {a : Nat → Nat} {f0 : gb_F} {w : Int64} (hp : ∀ g, g < gb_nG R → a g ≤ 5) (h16 : ∀ g, g < gb_nG R → (f0 16 g).toInt = (a g : Int) - 1) : ∀ (mm : Nat) (f : gb_F) (v1 v2 v3 : Int32) (k : Nat), v3.toInt = k → k ≤ gb_nG R → gb_mbx m R f → (∀ q, q ≠ 18 → f q = f0 q) → (∀ g, k ≤ g → f 18 g = f0 18 g) → (∀ g, g < k → ∀ i, gb_tbt (f 18 g) i = true ↔ (gb_tbt (f0 18 g) i = true ∨ a g = i + 1)) → (∀ i, gb_tbt v1 i = true ↔ (i < k ∧ ¬ a i = 0)) → v2.toInt = gb_pop a k → gb_hm (ms_counts_14 n mm f w v1 v2 v3) (fun f2 w2 _ => gb_one R a f0 f2 w w2) := by
  have z0 : (0 : Int32).toInt = 0 := by decide
  have z1 : (1 : Int32).toInt = 1 := by decide
  intro mm
  induction mm with
  | zero =>
    intros
    exact hm_none
  | succ mm ih =>
    intro f v1 v2 v3 k e hk hb hf hge hlt hv1 hv2
    have hR := mbx_rB hb
    have h8 := (rB_nG hR).2
    rw [ms_counts_14]
    refine hm_bd (mx_geese hb) (fun f1 w1 r ⟨g1, g2, g3⟩ => ?_)
    rw [g1, g2, g3]
    refine hm_if (fun c => hm_lt (fun w3 ew => ?_)) (fun c => ?_)
    · have c' := gi_le c
      rw [(rB_nG hR).1] at c'
      have ek : k = gb_nG R := by omega
      have fin : ∀ (f2 : gb_F) (w2 : Int64) (t0 : Int32), t0 = (if f 0 34 ≤ v2 then f 0 34 else v2) → (w2 = w3 ∧ (∀ q, q ≠ 0 → f2 q = f q) ∧ (∀ j, j ≠ 34 → j ≠ 35 → j ≠ 36 → f2 0 j = f 0 j) ∧ f2 0 34 = t0 ∧ f2 0 35 = (if v2 ≤ f 0 35 then f 0 35 else v2) ∧ f2 0 36 = f 0 36 &&& v1) → gb_one R a f0 f2 w w2 := fun f2 w2 t0 et hh => by
        obtain ⟨q1, q2, q3, q4, q5, q6⟩ := hh
        have e0 : f 0 = f0 0 := hf 0 (by decide)
        rw [ek] at hv2
        refine ⟨q1.trans ew, fun q a1 a2 => (q2 q a1).trans (hf q a2), fun j a1 a2 a3 => by rw [q3 j a1 a2 a3, e0], ?_, ?_, fun i => ?_, fun g hg i => ?_⟩
        · rw [q4, et, ← e0, ← hv2]
          by_cases y : f 0 34 ≤ v2
          · rw [if_pos y, if_pos (gi_le y)]
          · rw [if_neg y, if_neg (by have := gi_nle y; omega)]
        · rw [q5, ← e0, ← hv2]
          by_cases y : v2 ≤ f 0 35
          · rw [if_pos y, if_pos (gi_le y)]
          · rw [if_neg y, if_neg (by have := gi_nle y; omega)]
        · rw [q6, tb_an, hv1 i, e0, ek]
        · rw [q2 18 (by decide)]
          exact hlt g (by omega) i
      refine hm_if (fun y => hm_mono mh_count93 (fun f2 w2 _ hh => fin f2 w2 _ (by rw [if_pos y]) hh)) (fun y => hm_mono mh_count93 (fun f2 w2 _ hh => fin f2 w2 _ (by rw [if_neg y]) hh))
    · have c' := gi_nle c
      rw [(rB_nG hR).1] at c'
      have kl : k < gb_nG R := by omega
      have e16 : f 16 = f0 16 := hf 16 (by decide)
      have h16k := h16 k kl
      have hpk := hp k kl
      have pl := pop_le (a := a) k
      rw [gi_tn e, e16]
      refine hm_ck (fun _ _ => hm_lt (fun x22 e22 => hm_if (fun d => ?_) (fun d => hm_lt (fun x ex => ih f v1 v2 x (k + 1) (gi_1 e (by omega) ex) (by omega) hb hf (fun g hg => hge g (by omega)) (fun g hg i => ?_) (fun i => ?_) ?_))))
      · have d' := gi_le d
        rw [z0, e22] at d'
        have an : ¬ a k = 0 := by omega
        refine hm_lt (fun x24 e24 => hm_lt (fun x25 e25 => hm_ck (fun _ _ => hm_lt (fun x27 e27 => hm_ck (fun _ _ => hm_lt (fun x29 e29 => hm_ck (fun _ _ => hm_lt (fun f31 e31 => hm_lt (fun x ex => ih f31 x24 x25 x (k + 1) (gi_1 e (by omega) ex) (by omega) ?_ (fun q hq => ?_) (fun g hg => ?_) (fun g hg i => ?_) (fun i => ?_) ?_)))))))))
        · rw [e31]
          exact mbx_u2 hb (by decide)
        · rw [e31, gb_un hq]
          exact hf q hq
        · rw [e31, gb_us, pk_un (by omega)]
          exact hge g (by omega)
        · rw [e31, gb_us]
          by_cases z : g = k
          · rw [z, pk_us, tb_oo, tb_on (g := a k - 1) (by rw [e29]; omega) (by omega), e27, hge k (by omega)]
            refine ⟨fun y => y.elim Or.inl (fun y => Or.inr (by omega)), fun y => y.elim Or.inl (fun y => Or.inr (by omega))⟩
          · rw [pk_un z]
            exact hlt g (by omega) i
        · rw [e24, tb_oo, hv1 i, tb_on e (by omega)]
          refine ⟨fun y => y.elim (fun y => ⟨by omega, y.2⟩) (fun y => ⟨by omega, by rw [y]; exact an⟩), fun y => ?_⟩
          by_cases z : i = k
          · exact Or.inr z
          · exact Or.inl ⟨by omega, y.2⟩
        · rw [e25, pop_1, if_neg an, gb_tadd (by omega) (by omega), hv2, z1]
          omega
      · by_cases z : g = k
        · have d' := gi_nle d
          rw [z0, e22] at d'
          rw [z, hge k (by omega)]
          refine ⟨Or.inl, fun y => y.elim (fun y => y) (fun y => absurd y (by omega))⟩
        · exact hlt g (by omega) i
      · rw [hv1 i]
        have d' := gi_nle d
        rw [z0, e22] at d'
        refine ⟨fun y => ⟨by omega, y.2⟩, fun y => ⟨?_, y.2⟩⟩
        by_cases z : i = k
        · exact absurd (show a i = 0 by rw [z]; omega) y.2
        · omega
      · have d' := gi_nle d
        rw [z0, e22] at d'
        rw [pop_1, if_pos (by omega)]
        exact hv2
theorem acc_1 {R : Nat → Int32} {N : Nat} {M : (Nat → Nat) → Prop} {a : Nat → Nat} {f f2 : gb_F} {w w2 : Int64} (hG : gb_nG R ≤ 8) (h : gb_acc R N M f w) (o : gb_one R a f f2 w w2) : gb_acc R (N + 1) (fun b => M b ∨ b = a) f2 w2 := by
  obtain ⟨a1, ⟨a2, a3⟩, ⟨a4, a5⟩, a6, a7⟩ := h
  obtain ⟨o1, o2, o3, o4, o5, o6, o7⟩ := o
  have c99 : (99 : Int32).toInt = 99 := by decide
  have c0 : (0 : Int32).toInt = 0 := by decide
  have pl := pop_le (a := a) (gb_nG R)
  refine ⟨?_, ⟨fun b hb => ?_, Or.inr ?_⟩, ⟨fun b hb => ?_, Or.inr ?_⟩, fun i => ?_, fun g hg i => ?_⟩
  · rw [o1, a1, Int64.ofNat_add]
    rfl
  · rw [o4]
    rcases hb with hb | hb
    · have := a2 b hb
      split <;> omega
    · rw [hb]
      split <;> omega
  · rw [o4]
    by_cases c : (f 0 34).toInt ≤ gb_pop a (gb_nG R)
    · rw [if_pos c]
      rcases a3 with y | ⟨b, y1, y2⟩
      · rw [y.2, c99] at c
        omega
      · exact ⟨b, Or.inl y1, y2⟩
    · rw [if_neg c]
      exact ⟨a, Or.inr rfl, rfl⟩
  · rw [o5]
    rcases hb with hb | hb
    · have := a4 b hb
      split <;> omega
    · rw [hb]
      split <;> omega
  · rw [o5]
    by_cases c : (gb_pop a (gb_nG R) : Int) ≤ (f 0 35).toInt
    · rw [if_pos c]
      rcases a5 with y | ⟨b, y1, y2⟩
      · rw [y.2, c0] at c ⊢
        exact ⟨a, Or.inr rfl, by omega⟩
      · exact ⟨b, Or.inl y1, y2⟩
    · rw [if_neg c]
      exact ⟨a, Or.inr rfl, rfl⟩
  · rw [o6 i, a6 i]
    refine ⟨fun y => ⟨y.1.1, fun b hb => hb.elim (fun z => y.1.2 b z) (fun z => by rw [z]; exact y.2.2)⟩, fun y => ⟨⟨y.1, fun b hb => y.2 b (Or.inl hb)⟩, y.1, y.2 a (Or.inr rfl)⟩⟩
  · rw [o7 g hg i, a7 g hg i]
    refine ⟨fun y => y.elim (fun ⟨b, b1, b2⟩ => ⟨b, Or.inl b1, b2⟩) (fun y => ⟨a, Or.inr rfl, y⟩), fun ⟨b, b1, b2⟩ => b1.elim (fun z => Or.inl ⟨b, z, b2⟩) (fun z => Or.inr (by rw [← z]; exact b2))⟩
theorem mh_counts {n m N : Nat} {R U : Nat → Int32} {M : (Nat → Nat) → Prop} {a : Nat → Nat} {f : gb_F} {w : Int64} (hb : gb_mbx m R f) (hU : ∀ p, p < 5 → f 15 p = U p) (h16 : ∀ g, g < gb_nG R → (f 16 g).toInt = (a g : Int) - 1) (h14 : ∀ p, p < 5 → (f 14 p).toInt = gb_tq R a p (gb_nG R)) (hc : ∀ g, g < gb_nG R → ¬ a g = 0 → ¬ U (a g - 1) = -1) (hp : ∀ g, g < gb_nG R → a g ≤ gb_nP R) (h : gb_acc R N M f w) : gb_hm (ms_counts n f w) (fun f2 w2 _ => (∀ q, q ≠ 0 → q ≠ 18 → f2 q = f q) ∧ (∀ j, j ≠ 34 → j ≠ 35 → j ≠ 36 → f2 0 j = f 0 j) ∧ gb_acc R (N + gb_ind (gb_ub R U a)) (fun b => M b ∨ (b = a ∧ gb_ub R U a)) f2 w2) := by
  have hR := mbx_rB hb
  have h5 := (rB_nP hR).2
  have h8 := (rB_nG hR).2
  have wh : (∀ p, p < 5 → (f 15 p = -1 ∨ f 15 p = f 14 p)) ↔ gb_ub R U a := by
    refine ⟨fun y => ⟨hc, fun p hp => ?_⟩, fun y p hp => ?_⟩
    · rw [← hU p hp, ← h14 p hp]
      rcases y p hp with z | z
      · exact Or.inl z
      · exact Or.inr (by rw [z])
    · rcases y.2 p hp with z | z
      · exact Or.inl (by rw [hU p hp]; exact z)
      · exact Or.inr (gb_ieq (by rw [hU p hp, h14 p hp, z]))
  unfold ms_counts
  refine hm_bd mh_whole (fun f1 w1 r ⟨g1, g2, g3⟩ => ?_)
  rw [g1, g2]
  refine hm_if (fun c => hm_some ⟨fun _ _ _ => rfl, fun _ _ _ _ => rfl, ?_⟩) (fun c => ?_)
  · have no : ¬ gb_ub R U a := by
      rcases g3 with y | y
      · exact fun z => y.2 (wh.mpr z)
      · rw [y.1] at c
        exact absurd c (by decide)
    exact acc_c h (by rw [ind_f no]; rfl) (fun b => ⟨fun y => y.elim (fun y => y) (fun y => absurd y.2 no), Or.inl⟩) rfl rfl
  · have ye : gb_ub R U a := by
      rcases g3 with y | y
      · exact absurd y.1 c
      · exact wh.mp y.2
    refine hm_mono (mh_count14 (a := a) (f0 := f) (fun g hg => by have := hp g hg; omega) h16 n f 0 0 0 0 (by decide) (Nat.zero_le _) hb (fun _ _ => rfl) (fun _ _ => rfl) (fun g hg => absurd hg (Nat.not_lt_zero g)) (fun i => by rw [tb_z]; exact ⟨fun y => absurd y (by decide), fun y => absurd y.1 (Nat.not_lt_zero i)⟩) (show (0 : Int32).toInt = ((0 : Nat) : Int) by decide)) (fun f2 w2 _ o => ⟨o.2.1, o.2.2.1, ?_⟩)
    exact acc_c (acc_1 h8 h o) (by rw [ind_t ye]) (fun b => ⟨fun y => y.elim Or.inl (fun y => Or.inr y.1), fun y => y.elim Or.inl (fun y => Or.inr ⟨y, ye⟩)⟩) rfl rfl
