/-! THE CLASS: cells that a call leaves as they were -/
def gb_sc (W : Nat → Prop) : Prop := W 0 ∧ ∀ k, 95 ≤ k → W k
def gb_sk (W : Nat → Prop) : Prop := (∀ k, gb_kB k = true → W (k + 1)) ∧ (∀ k, gb_kN k = true → W (k + 1)) ∧ (∀ k, gb_kL k = true → W (k + 1)) ∧ (∀ k, gb_kD k = true → W (k + 1)) ∧ ∀ k, gb_kT k = true → W k ∧ W (k + 21) ∧ W (k + 22)
def gb_fs (W : Nat → Prop) (σ0 σ : gb_S) : Prop := ∀ k, ¬ W k → σ.1 k = σ0.1 k
def gb_pf {ρ : Type} (W : Nat → Prop) (σ0 : gb_S) (x : gb_CR ρ) : Prop := ∀ (σ2 : gb_S) (r : ρ), x = some (σ2, r) → gb_fs W σ0 σ2
theorem pf_none {ρ : Type} {W : Nat → Prop} {σ0 : gb_S} : gb_pf W σ0 (none : gb_CR ρ) := fun _ _ h => by cases h
theorem pf_some {ρ : Type} {W : Nat → Prop} {σ0 σ : gb_S} {r : ρ} (h : gb_fs W σ0 σ) : gb_pf W σ0 (some (σ, r)) := fun _ _ e => by cases e; exact h
theorem pf_if {ρ : Type} {W : Nat → Prop} {σ0 : gb_S} {c : Prop} [Decidable c] {x y : gb_CR ρ} (h1 : gb_pf W σ0 x) (h2 : gb_pf W σ0 y) : gb_pf W σ0 (if c then x else y) := by
  split
  · exact h1
  · exact h2
theorem pf_ck {ρ : Type} {W : Nat → Prop} {σ0 : gb_S} {i : Int32} {n : Nat} {x : gb_CR ρ} (h : gb_pf W σ0 x) : gb_pf W σ0 (gb_ck i n x) := by
  unfold gb_ck
  split
  · exact h
  · exact pf_none
theorem pf_kk {ρ : Type} {W : Nat → Prop} {σ0 : gb_S} {c : Bool} {x : gb_CR ρ} (h : c = true → gb_pf W σ0 x) : gb_pf W σ0 (gb_kk c x) := by
  unfold gb_kk
  by_cases hc : c = true
  · rw [if_pos hc]; exact h hc
  · rw [if_neg hc]; exact pf_none
theorem pf_ltE {ρ α : Type} {W : Nat → Prop} {σ0 : gb_S} {v : α} {k : α → gb_CR ρ} (h : gb_pf W σ0 (k v)) : gb_pf W σ0 (gb_lt v k) := h
theorem pf_ltV {ρ α : Type} {W : Nat → Prop} {σ0 : gb_S} {v : α} {k : α → gb_CR ρ} (h : ∀ v, gb_pf W σ0 (k v)) : gb_pf W σ0 (gb_lt v k) := h v
theorem pf_ltS {ρ : Type} {W : Nat → Prop} {σ0 : gb_S} {v : gb_S} {k : gb_S → gb_CR ρ} (hv : gb_fs W σ0 v) (h : ∀ s, gb_fs W σ0 s → gb_pf W σ0 (k s)) : gb_pf W σ0 (gb_lt v k) := h v hv
theorem pf_cd {ρ τ : Type} {W : Nat → Prop} {σ0 : gb_S} {x : gb_CR ρ} {k : gb_S → ρ → gb_CR τ} (h : gb_pf W σ0 x) (hk : ∀ s r, gb_fs W σ0 s → gb_pf W σ0 (k s r)) : gb_pf W σ0 (gb_cd x k) := by
  unfold gb_cd
  cases x with
  | none => exact pf_none
  | some q => exact hk q.1 q.2 (h q.1 q.2 rfl)
theorem fs_su {W : Nat → Prop} {σ0 σ : gb_S} {k : Nat} {F : Nat → Int32} (w : W k) (h : gb_fs W σ0 σ) : gb_fs W σ0 (gb_su σ k F) := fun k2 h2 => by
  show gb_u σ.1 k F k2 = _
  unfold gb_u
  rw [if_neg (fun e : k2 = k => h2 (by rw [e]; exact w))]
  exact h k2 h2
theorem fs_sq {W : Nat → Prop} {σ0 σ : gb_S} {k v : Nat} (h : gb_fs W σ0 σ) : gb_fs W σ0 (gb_sq σ k v) := h
theorem fs_sg {W : Nat → Prop} {σ0 σ : gb_S} {k : Nat} {F : Nat → Int64} (h : gb_fs W σ0 σ) : gb_fs W σ0 (gb_sg σ k F) := h
theorem fs_rf {W : Nat → Prop} {σ : gb_S} : gb_fs W σ σ := fun _ _ => rfl
theorem pf_ac {ρ : Type} {W : Nat → Prop} {σ0 : gb_S} {sp dp m : Int32} {n0 n1 : Nat} {x : gb_CR ρ} (h : gb_pf W σ0 x) : gb_pf W σ0 (gb_ac sp dp m n0 n1 x) := by
  unfold gb_ac
  split
  · exact h
  · exact pf_none
theorem pf_cc {ρ : Type} {W : Nat → Prop} {σ0 : gb_S} {v : Int32} {x : gb_CR ρ} (h : gb_pf W σ0 x) : gb_pf W σ0 (gb_cc v x) := by
  unfold gb_cc
  split
  · exact h
  · exact pf_none
theorem pf_nz {ρ : Type} {W : Nat → Prop} {σ0 : gb_S} {i : Int32} {x : gb_CR ρ} (h : gb_pf W σ0 x) : gb_pf W σ0 (gb_nz i x) := by
  unfold gb_nz
  split
  · exact pf_none
  · exact h
theorem cf_Border_clear_B {W : Nat → Prop} (hW : gb_sc W) {n : Nat} {σ0 : gb_S} {σ : gb_S} {k0 : Nat} (hw_k0_1 : W (k0 + 1)) (h : gb_fs W σ0 σ) : gb_pf W σ0 (cs_Border_clear_B n σ k0) := by
  unfold cs_Border_clear_B
  refine pf_kk (fun ck_k0 => ?_)
  refine pf_ltS (fs_su hw_k0_1 h) (fun s_2 hs_2 => ?_)
  refine pf_ltS (fs_su hw_k0_1 hs_2) (fun s_3 hs_3 => ?_)
  refine pf_ltS (fs_su hw_k0_1 hs_3) (fun s_4 hs_4 => ?_)
  exact pf_some hs_4
theorem cf_Border_geese_B {W : Nat → Prop} (hW : gb_sc W) {n : Nat} {σ0 : gb_S} {σ : gb_S} {k0 : Nat} (h : gb_fs W σ0 σ) : gb_pf W σ0 (cs_Border_geese_B n σ k0) := by
  unfold cs_Border_geese_B
  refine pf_kk (fun ck_k0 => ?_)
  refine pf_ltV (fun x_2 => ?_)
  exact pf_some h
theorem cf_Border_paths_B {W : Nat → Prop} (hW : gb_sc W) {n : Nat} {σ0 : gb_S} {σ : gb_S} {k0 : Nat} (h : gb_fs W σ0 σ) : gb_pf W σ0 (cs_Border_paths_B n σ k0) := by
  unfold cs_Border_paths_B
  refine pf_kk (fun ck_k0 => ?_)
  refine pf_ltV (fun x_2 => ?_)
  exact pf_some h
theorem cf_Border_hasRoomFor_B {W : Nat → Prop} (hW : gb_sc W) {n : Nat} {σ0 : gb_S} {σ : gb_S} {k0 : Nat} {p1 : Int32} (h : gb_fs W σ0 σ) : gb_pf W σ0 (cs_Border_hasRoomFor_B n σ k0 p1) := by
  unfold cs_Border_hasRoomFor_B
  refine pf_kk (fun ck_k0 => ?_)
  refine pf_if ?_ ?_
  · exact pf_some h
  · refine pf_if ?_ ?_
    · refine pf_cd (cf_Border_paths_B hW h) (fun s_9 r_10 hs_9 => ?_)
      refine pf_if ?_ ?_
      · exact pf_some hs_9
      · exact pf_some hs_9
    · refine pf_cd (cf_Border_geese_B hW h) (fun s_4 r_5 hs_4 => ?_)
      refine pf_if ?_ ?_
      · exact pf_some hs_4
      · exact pf_some hs_4
theorem cf_Border_clashes_B {W : Nat → Prop} (hW : gb_sc W) {n : Nat} {σ0 : gb_S} {σ : gb_S} {k0 : Nat} (h : gb_fs W σ0 σ) : gb_pf W σ0 (cs_Border_clashes_B n σ k0) := by
  unfold cs_Border_clashes_B
  refine pf_kk (fun ck_k0 => ?_)
  exact pf_some h
theorem cf_Border_cap_B {W : Nat → Prop} (hW : gb_sc W) {n : Nat} {σ0 : gb_S} {σ : gb_S} {k0 : Nat} (h : gb_fs W σ0 σ) : gb_pf W σ0 (cs_Border_cap_B n σ k0) := by
  unfold cs_Border_cap_B
  refine pf_kk (fun ck_k0 => ?_)
  refine pf_ltV (fun x_2 => ?_)
  exact pf_some h
theorem cf_Border_hasPath_B {W : Nat → Prop} (hW : gb_sc W) {n : Nat} {σ0 : gb_S} {σ : gb_S} {k0 : Nat} {p1 : Int32} (h : gb_fs W σ0 σ) : gb_pf W σ0 (cs_Border_hasPath_B n σ k0 p1) := by
  unfold cs_Border_hasPath_B
  refine pf_kk (fun ck_k0 => ?_)
  refine pf_if ?_ ?_
  · exact pf_some h
  · refine pf_cd (cf_Border_paths_B hW h) (fun s_3 r_4 hs_3 => ?_)
    refine pf_if ?_ ?_
    · exact pf_some hs_3
    · exact pf_some hs_3
theorem cf_Border_hasGoose_B {W : Nat → Prop} (hW : gb_sc W) {n : Nat} {σ0 : gb_S} {σ : gb_S} {k0 : Nat} {p1 : Int32} (h : gb_fs W σ0 σ) : gb_pf W σ0 (cs_Border_hasGoose_B n σ k0 p1) := by
  unfold cs_Border_hasGoose_B
  refine pf_kk (fun ck_k0 => ?_)
  refine pf_if ?_ ?_
  · exact pf_some h
  · refine pf_cd (cf_Border_geese_B hW h) (fun s_3 r_4 hs_3 => ?_)
    refine pf_if ?_ ?_
    · exact pf_some hs_3
    · exact pf_some hs_3
theorem cf_Border_numberTold_B {W : Nat → Prop} (hW : gb_sc W) {n : Nat} {σ0 : gb_S} {σ : gb_S} {k0 : Nat} {p1 : Int32} (h : gb_fs W σ0 σ) : gb_pf W σ0 (cs_Border_numberTold_B n σ k0 p1) := by
  unfold cs_Border_numberTold_B
  refine pf_kk (fun ck_k0 => ?_)
  refine pf_if ?_ ?_
  · exact pf_some h
  · refine pf_if ?_ ?_
    · refine pf_ltE ?_
      refine pf_ltE ?_
      refine pf_if ?_ ?_
      · refine pf_ltE ?_
        refine pf_cd (cf_Border_hasGoose_B hW h) (fun s_8 r_9 hs_8 => ?_)
        refine pf_if ?_ ?_
        · exact pf_some hs_8
        · refine pf_ck ?_
          refine pf_ltV (fun x_14 => ?_)
          exact pf_some hs_8
      · refine pf_cd (cf_Border_hasPath_B hW h) (fun s_15 r_16 hs_15 => ?_)
        refine pf_if ?_ ?_
        · exact pf_some hs_15
        · refine pf_ck ?_
          refine pf_ltV (fun x_21 => ?_)
          exact pf_some hs_15
    · exact pf_some h
theorem cf_Border_miles_B {W : Nat → Prop} (hW : gb_sc W) {n : Nat} {σ0 : gb_S} {σ : gb_S} {k0 : Nat} {p1 : Int32} (h : gb_fs W σ0 σ) : gb_pf W σ0 (cs_Border_miles_B n σ k0 p1) := by
  unfold cs_Border_miles_B
  refine pf_kk (fun ck_k0 => ?_)
  refine pf_ck ?_
  refine pf_ltV (fun x_3 => ?_)
  exact pf_some h
theorem cf_Border_rate_B {W : Nat → Prop} (hW : gb_sc W) {n : Nat} {σ0 : gb_S} {σ : gb_S} {k0 : Nat} {p1 : Int32} (h : gb_fs W σ0 σ) : gb_pf W σ0 (cs_Border_rate_B n σ k0 p1) := by
  unfold cs_Border_rate_B
  refine pf_kk (fun ck_k0 => ?_)
  refine pf_ck ?_
  refine pf_ltV (fun x_3 => ?_)
  exact pf_some h
theorem cf_Border_pad_B {W : Nat → Prop} (hW : gb_sc W) {n : Nat} {σ0 : gb_S} {σ : gb_S} {k0 : Nat} {p1 : Int32} (h : gb_fs W σ0 σ) : gb_pf W σ0 (cs_Border_pad_B n σ k0 p1) := by
  unfold cs_Border_pad_B
  refine pf_kk (fun ck_k0 => ?_)
  refine pf_ck ?_
  refine pf_ltV (fun x_3 => ?_)
  exact pf_some h
theorem cf_Border_toes_B {W : Nat → Prop} (hW : gb_sc W) {n : Nat} {σ0 : gb_S} {σ : gb_S} {k0 : Nat} {p1 : Int32} (h : gb_fs W σ0 σ) : gb_pf W σ0 (cs_Border_toes_B n σ k0 p1) := by
  unfold cs_Border_toes_B
  refine pf_kk (fun ck_k0 => ?_)
  refine pf_ltE ?_
  refine pf_ck ?_
  refine pf_ltV (fun x_4 => ?_)
  refine pf_ck ?_
  refine pf_ltV (fun x_6 => ?_)
  exact pf_some h
theorem cf_Border_boots_B {W : Nat → Prop} (hW : gb_sc W) {n : Nat} {σ0 : gb_S} {σ : gb_S} {k0 : Nat} {p1 : Int32} (h : gb_fs W σ0 σ) : gb_pf W σ0 (cs_Border_boots_B n σ k0 p1) := by
  unfold cs_Border_boots_B
  refine pf_kk (fun ck_k0 => ?_)
  refine pf_ck ?_
  refine pf_ltV (fun x_3 => ?_)
  exact pf_some h
theorem cf_Border_limps_B {W : Nat → Prop} (hW : gb_sc W) {n : Nat} {σ0 : gb_S} {σ : gb_S} {k0 : Nat} {p1 : Int32} (h : gb_fs W σ0 σ) : gb_pf W σ0 (cs_Border_limps_B n σ k0 p1) := by
  unfold cs_Border_limps_B
  refine pf_kk (fun ck_k0 => ?_)
  refine pf_ck ?_
  refine pf_ltV (fun x_3 => ?_)
  refine pf_if ?_ ?_
  · exact pf_some h
  · exact pf_some h
theorem cf_Border_worth_B {W : Nat → Prop} (hW : gb_sc W) {n : Nat} {σ0 : gb_S} {σ : gb_S} {k0 : Nat} {p1 : Int32} (h : gb_fs W σ0 σ) : gb_pf W σ0 (cs_Border_worth_B n σ k0 p1) := by
  unfold cs_Border_worth_B
  refine pf_kk (fun ck_k0 => ?_)
  refine pf_ck ?_
  refine pf_ltV (fun x_3 => ?_)
  exact pf_some h
theorem cf_Border_worthOf_B_4 {W : Nat → Prop} (hW : gb_sc W) {n : Nat} {σ0 : gb_S} : ∀ (mm : Nat) (σ : gb_S) (v0 : Nat) (v1 : Int32) (v2 : Int32) (v3 : Int32), gb_fs W σ0 σ → gb_pf W σ0 (cs_Border_worthOf_B_4 n mm σ v0 v1 v2 v3) := by
  intro mm
  induction mm with
  | zero =>
    intros
    exact pf_none
  | succ mm ih =>
    intro σ v0 v1 v2 v3  h
    unfold cs_Border_worthOf_B_4
    refine pf_kk (fun ck_v0 => ?_)
    refine pf_cd (cf_Border_geese_B hW h) (fun s_3 r_4 hs_3 => ?_)
    refine pf_if ?_ ?_
    · exact pf_some hs_3
    · refine pf_if ?_ ?_
      · refine pf_cd (cf_Border_worth_B hW hs_3) (fun s_10 r_11 hs_10 => ?_)
        refine pf_ltE ?_
        refine pf_ltE ?_
        exact ih _ _ _ _ _ hs_10
      · refine pf_ltE ?_
        exact ih _ _ _ _ _ hs_3
theorem cf_Border_worthOf_B {W : Nat → Prop} (hW : gb_sc W) {n : Nat} {σ0 : gb_S} {σ : gb_S} {k0 : Nat} {p1 : Int32} (h : gb_fs W σ0 σ) : gb_pf W σ0 (cs_Border_worthOf_B n σ k0 p1) := by
  unfold cs_Border_worthOf_B
  refine pf_kk (fun ck_k0 => ?_)
  exact cf_Border_worthOf_B_4 hW _ _ _ _ _ _ h
theorem cf_Border_marksOver_B_20 {W : Nat → Prop} (hW : gb_sc W) {n : Nat} {σ0 : gb_S} {σ : gb_S} {v0 : Nat} {v1 : Int32} {v2 : Int32} {v5 : Int32} {t0 : Int32} (h : gb_fs W σ0 σ) : gb_pf W σ0 (cs_Border_marksOver_B_20 n σ v0 v1 v2 v5 t0) := by
  unfold cs_Border_marksOver_B_20
  refine pf_kk (fun ck_v0 => ?_)
  refine pf_cd (cf_Border_toes_B hW h) (fun s_5 r_6 hs_5 => ?_)
  refine pf_ltE ?_
  refine pf_cd (cf_Border_limps_B hW hs_5) (fun s_10 r_11 hs_10 => ?_)
  refine pf_if ?_ ?_
  · exact pf_some hs_10
  · exact pf_some hs_10
theorem cf_Border_marksOver_B {W : Nat → Prop} (hW : gb_sc W) {n : Nat} {σ0 : gb_S} {σ : gb_S} {k0 : Nat} {p1 : Int32} {p2 : Int32} {p3 : Int32} {p4 : Int32} (h : gb_fs W σ0 σ) : gb_pf W σ0 (cs_Border_marksOver_B n σ k0 p1 p2 p3 p4) := by
  unfold cs_Border_marksOver_B
  refine pf_kk (fun ck_k0 => ?_)
  refine pf_ltV (fun x_2 => ?_)
  refine pf_if ?_ ?_
  · exact cf_Border_marksOver_B_20 hW h
  · exact cf_Border_marksOver_B_20 hW h
theorem cf_Border_marksFirst_B {W : Nat → Prop} (hW : gb_sc W) {n : Nat} {σ0 : gb_S} {σ : gb_S} {k0 : Nat} {p1 : Int32} {p2 : Int32} (h : gb_fs W σ0 σ) : gb_pf W σ0 (cs_Border_marksFirst_B n σ k0 p1 p2) := by
  unfold cs_Border_marksFirst_B
  refine pf_kk (fun ck_k0 => ?_)
  refine pf_cd (cf_Border_miles_B hW h) (fun s_2 r_3 hs_2 => ?_)
  refine pf_cd (cf_Border_boots_B hW hs_2) (fun s_6 r_7 hs_6 => ?_)
  refine pf_cd (cf_Border_marksOver_B hW hs_6) (fun s_10 r_11 hs_10 => ?_)
  exact pf_some hs_10
theorem cf_Border_padded_B {W : Nat → Prop} (hW : gb_sc W) {n : Nat} {σ0 : gb_S} {σ : gb_S} {k0 : Nat} {p1 : Int32} {p2 : Int32} (h : gb_fs W σ0 σ) : gb_pf W σ0 (cs_Border_padded_B n σ k0 p1 p2) := by
  unfold cs_Border_padded_B
  refine pf_kk (fun ck_k0 => ?_)
  refine pf_cd (cf_Border_pad_B hW h) (fun s_2 r_3 hs_2 => ?_)
  refine pf_ltE ?_
  exact pf_some hs_2
theorem cf_Border_payOf_B {W : Nat → Prop} (hW : gb_sc W) {n : Nat} {σ0 : gb_S} {σ : gb_S} {k0 : Nat} {p1 : Int32} {p2 : Int32} (h : gb_fs W σ0 σ) : gb_pf W σ0 (cs_Border_payOf_B n σ k0 p1 p2) := by
  unfold cs_Border_payOf_B
  refine pf_kk (fun ck_k0 => ?_)
  refine pf_cd (cf_Border_rate_B hW h) (fun s_2 r_3 hs_2 => ?_)
  refine pf_cd (cf_Border_padded_B hW hs_2) (fun s_6 r_7 hs_6 => ?_)
  exact pf_some hs_6
theorem cf_Border_barefoot_B_4 {W : Nat → Prop} (hW : gb_sc W) {n : Nat} {σ0 : gb_S} : ∀ (mm : Nat) (σ : gb_S) (v0 : Nat) (v1 : Int32) (v2 : Int32) (v3 : Int32), gb_fs W σ0 σ → gb_pf W σ0 (cs_Border_barefoot_B_4 n mm σ v0 v1 v2 v3) := by
  intro mm
  induction mm with
  | zero =>
    intros
    exact pf_none
  | succ mm ih =>
    intro σ v0 v1 v2 v3  h
    unfold cs_Border_barefoot_B_4
    refine pf_kk (fun ck_v0 => ?_)
    refine pf_cd (cf_Border_geese_B hW h) (fun s_3 r_4 hs_3 => ?_)
    refine pf_if ?_ ?_
    · exact pf_some hs_3
    · refine pf_cd (cf_Border_miles_B hW hs_3) (fun s_8 r_9 hs_8 => ?_)
      refine pf_cd (cf_Border_marksOver_B hW hs_8) (fun s_12 r_13 hs_12 => ?_)
      refine pf_ltE ?_
      refine pf_ltE ?_
      exact ih _ _ _ _ _ hs_12
theorem cf_Border_barefoot_B {W : Nat → Prop} (hW : gb_sc W) {n : Nat} {σ0 : gb_S} {σ : gb_S} {k0 : Nat} {p1 : Int32} (h : gb_fs W σ0 σ) : gb_pf W σ0 (cs_Border_barefoot_B n σ k0 p1) := by
  unfold cs_Border_barefoot_B
  refine pf_kk (fun ck_k0 => ?_)
  exact cf_Border_barefoot_B_4 hW _ _ _ _ _ _ h
theorem cf_Border_milesThatSpare_B_5 {W : Nat → Prop} (hW : gb_sc W) {n : Nat} {σ0 : gb_S} : ∀ (mm : Nat) (σ : gb_S) (v0 : Nat) (v1 : Int32) (v2 : Int32) (v3 : Int32) (v4 : Int32), gb_fs W σ0 σ → gb_pf W σ0 (cs_Border_milesThatSpare_B_5 n mm σ v0 v1 v2 v3 v4) := by
  intro mm
  induction mm with
  | zero =>
    intros
    exact pf_none
  | succ mm ih =>
    intro σ v0 v1 v2 v3 v4  h
    unfold cs_Border_milesThatSpare_B_5
    refine pf_kk (fun ck_v0 => ?_)
    refine pf_cd (cf_Border_geese_B hW h) (fun s_3 r_4 hs_3 => ?_)
    refine pf_if ?_ ?_
    · exact pf_some hs_3
    · refine pf_cd (cf_Border_toes_B hW hs_3) (fun s_8 r_9 hs_8 => ?_)
      refine pf_cd (cf_Border_limps_B hW hs_8) (fun s_12 r_13 hs_12 => ?_)
      refine pf_if ?_ ?_
      · refine pf_ltE ?_
        refine pf_if ?_ ?_
        · refine pf_cd (cf_Border_miles_B hW hs_12) (fun s_20 r_21 hs_20 => ?_)
          refine pf_ltE ?_
          refine pf_ltE ?_
          exact ih _ _ _ _ _ _ hs_20
        · refine pf_ltE ?_
          exact ih _ _ _ _ _ _ hs_12
      · refine pf_ltE ?_
        refine pf_if ?_ ?_
        · refine pf_cd (cf_Border_miles_B hW hs_12) (fun s_29 r_30 hs_29 => ?_)
          refine pf_ltE ?_
          refine pf_ltE ?_
          exact ih _ _ _ _ _ _ hs_29
        · refine pf_ltE ?_
          exact ih _ _ _ _ _ _ hs_12
theorem cf_Border_milesThatSpare_B {W : Nat → Prop} (hW : gb_sc W) {n : Nat} {σ0 : gb_S} {σ : gb_S} {k0 : Nat} {p1 : Int32} {p2 : Int32} (h : gb_fs W σ0 σ) : gb_pf W σ0 (cs_Border_milesThatSpare_B n σ k0 p1 p2) := by
  unfold cs_Border_milesThatSpare_B
  refine pf_kk (fun ck_k0 => ?_)
  exact cf_Border_milesThatSpare_B_5 hW _ _ _ _ _ _ _ h
theorem cf_Told_addBytes_14 {W : Nat → Prop} (hW : gb_sc W) {n : Nat} {σ0 : gb_S} : ∀ (mm : Nat) (σ : gb_S) (v1 : Int32) (v2 : Int32), W 1 → W 23 → gb_fs W σ0 σ → gb_pf W σ0 (cs_Told_addBytes_14 n mm σ v1 v2) := by
  intro mm
  induction mm with
  | zero =>
    intros
    exact pf_none
  | succ mm ih =>
    intro σ v1 v2 hw_1 hw_23 h
    unfold cs_Told_addBytes_14
    refine pf_if ?_ ?_
    · exact pf_some h
    · refine pf_ck ?_
      refine pf_ltS (fs_su hw_23 h) (fun s_4 hs_4 => ?_)
      refine pf_ltS (fs_su hw_1 hs_4) (fun s_5 hs_5 => ?_)
      refine pf_ltE ?_
      exact ih _ _ _ hw_1 hw_23 hs_5
theorem cf_Told_addBytes {W : Nat → Prop} (hW : gb_sc W) {n : Nat} {σ0 : gb_S} {σ : gb_S} {p1 : Int32} (hw_1 : W 1) (hw_23 : W 23) (h : gb_fs W σ0 σ) : gb_pf W σ0 (cs_Told_addBytes n σ p1) := by
  unfold cs_Told_addBytes
  refine pf_if ?_ ?_
  · exact cf_Told_addBytes_14 hW _ _ _ _ hw_1 hw_23 h
  · exact pf_some h
theorem cf_Face_feed {W : Nat → Prop} (hW : gb_sc W) {n : Nat} {σ0 : gb_S} {σ : gb_S} {p1 : Int32} {p2 : Int32} {p3 : Int32} {p4 : Int32} {p5 : Int32} (hw_1 : W 1) (hw_23 : W 23) (h : gb_fs W σ0 σ) : gb_pf W σ0 (cs_Face_feed n σ p1 p2 p3 p4 p5) := by
  unfold cs_Face_feed
  refine pf_if ?_ ?_
  · refine pf_cd (cf_Told_addBytes hW hw_1 hw_23 h) (fun s_2 _ hs_2 => ?_)
    refine pf_cd (cf_Told_addBytes hW hw_1 hw_23 hs_2) (fun s_6 _ hs_6 => ?_)
    refine pf_cd (cf_Told_addBytes hW hw_1 hw_23 hs_6) (fun s_10 _ hs_10 => ?_)
    refine pf_cd (cf_Told_addBytes hW hw_1 hw_23 hs_10) (fun s_14 _ hs_14 => ?_)
    refine pf_cd (cf_Told_addBytes hW hw_1 hw_23 hs_14) (fun s_18 _ hs_18 => ?_)
    exact pf_some hs_18
  · exact pf_some h
theorem cf_Face_end {W : Nat → Prop} (hW : gb_sc W) {n : Nat} {σ0 : gb_S} {σ : gb_S} {p1 : Int32} (hw_1 : W 1) (h : gb_fs W σ0 σ) : gb_pf W σ0 (cs_Face_end n σ p1) := by
  unfold cs_Face_end
  refine pf_if ?_ ?_
  · exact pf_some h
  · refine pf_if ?_ ?_
    · refine pf_ltS (fs_su hw_1 h) (fun s_3 hs_3 => ?_)
      exact pf_some hs_3
    · exact pf_some h
theorem cf_Reader_skipBlanks_0 {W : Nat → Prop} (hW : gb_sc W) {n : Nat} {σ0 : gb_S} : ∀ (mm : Nat) (σ : gb_S), gb_fs W σ0 σ → gb_pf W σ0 (cs_Reader_skipBlanks_0 n mm σ) := by
  intro mm
  induction mm with
  | zero =>
    intros
    exact pf_none
  | succ mm ih =>
    intro σ  h
    unfold cs_Reader_skipBlanks_0
    refine pf_if ?_ ?_
    · exact pf_some h
    · refine pf_kk (fun _ => ?_)
      refine pf_ck ?_
      refine pf_ltV (fun x_10 => ?_)
      refine pf_if ?_ ?_
      · refine pf_ltS (fs_su (hW.2 _ (by decide)) h) (fun s_12 hs_12 => ?_)
        exact ih _ hs_12
      · refine pf_kk (fun _ => ?_)
        refine pf_ck ?_
        refine pf_ltV (fun x_15 => ?_)
        refine pf_if ?_ ?_
        · refine pf_ltS (fs_su (hW.2 _ (by decide)) h) (fun s_17 hs_17 => ?_)
          exact ih _ hs_17
        · exact pf_some h
theorem cf_Reader_skipBlanks {W : Nat → Prop} (hW : gb_sc W) {n : Nat} {σ0 : gb_S} {σ : gb_S} (h : gb_fs W σ0 σ) : gb_pf W σ0 (cs_Reader_skipBlanks n σ) := by
  unfold cs_Reader_skipBlanks
  refine pf_if ?_ ?_
  · exact pf_some h
  · refine pf_kk (fun _ => ?_)
    refine pf_ck ?_
    refine pf_ltV (fun x_4 => ?_)
    refine pf_if ?_ ?_
    · refine pf_ltS (fs_su (hW.2 _ (by decide)) h) (fun s_6 hs_6 => ?_)
      exact cf_Reader_skipBlanks_0 hW _ _ hs_6
    · refine pf_kk (fun _ => ?_)
      refine pf_ck ?_
      refine pf_ltV (fun x_20 => ?_)
      refine pf_if ?_ ?_
      · refine pf_ltS (fs_su (hW.2 _ (by decide)) h) (fun s_22 hs_22 => ?_)
        exact cf_Reader_skipBlanks_0 hW _ _ hs_22
      · exact pf_some h
theorem cf_Reader_note {W : Nat → Prop} (hW : gb_sc W) {n : Nat} {σ0 : gb_S} {σ : gb_S} {p1 : Int32} {p2 : Int32} (h : gb_fs W σ0 σ) : gb_pf W σ0 (cs_Reader_note n σ p1 p2) := by
  unfold cs_Reader_note
  refine pf_if ?_ ?_
  · refine pf_ltS (fs_su (hW.2 _ (by decide)) h) (fun s_2 hs_2 => ?_)
    refine pf_ltS (fs_su (hW.2 _ (by decide)) hs_2) (fun s_3 hs_3 => ?_)
    exact pf_some hs_3
  · exact pf_some h
theorem cf_Lines_clashes_N {W : Nat → Prop} (hW : gb_sc W) {n : Nat} {σ0 : gb_S} {σ : gb_S} {k0 : Nat} (h : gb_fs W σ0 σ) : gb_pf W σ0 (cs_Lines_clashes_N n σ k0) := by
  unfold cs_Lines_clashes_N
  refine pf_kk (fun ck_k0 => ?_)
  exact pf_some h
theorem cf_Lines_clashes_L {W : Nat → Prop} (hW : gb_sc W) {n : Nat} {σ0 : gb_S} {σ : gb_S} {k0 : Nat} (h : gb_fs W σ0 σ) : gb_pf W σ0 (cs_Lines_clashes_L n σ k0) := by
  unfold cs_Lines_clashes_L
  refine pf_kk (fun ck_k0 => ?_)
  exact pf_some h
theorem cf_Lines_size_D {W : Nat → Prop} (hW : gb_sc W) {n : Nat} {σ0 : gb_S} {σ : gb_S} {k0 : Nat} (h : gb_fs W σ0 σ) : gb_pf W σ0 (cs_Lines_size_D n σ k0) := by
  unfold cs_Lines_size_D
  refine pf_kk (fun ck_k0 => ?_)
  refine pf_ltV (fun x_2 => ?_)
  exact pf_some h
theorem cf_Lines_cell_D {W : Nat → Prop} (hW : gb_sc W) {n : Nat} {σ0 : gb_S} {σ : gb_S} {k0 : Nat} {p1 : Int32} {p2 : Int32} (h : gb_fs W σ0 σ) : gb_pf W σ0 (cs_Lines_cell_D n σ k0 p1 p2) := by
  unfold cs_Lines_cell_D
  refine pf_kk (fun ck_k0 => ?_)
  refine pf_ck ?_
  refine pf_ltV (fun x_3 => ?_)
  exact pf_some h
theorem cf_Dawn_pathSeen_D {W : Nat → Prop} (hW : gb_sc W) {n : Nat} {σ0 : gb_S} {σ : gb_S} {k0 : Nat} {p1 : Int32} (h : gb_fs W σ0 σ) : gb_pf W σ0 (cs_Dawn_pathSeen_D n σ k0 p1) := by
  unfold cs_Dawn_pathSeen_D
  refine pf_kk (fun ck_k0 => ?_)
  refine pf_cd (cf_Lines_cell_D hW h) (fun s_2 r_3 hs_2 => ?_)
  exact pf_some hs_2
theorem cf_Dawn_clashes_D_4 {W : Nat → Prop} (hW : gb_sc W) {n : Nat} {σ0 : gb_S} : ∀ (mm : Nat) (σ : gb_S) (v0 : Nat) (v1 : Int32) (v2 : Int32), gb_fs W σ0 σ → gb_pf W σ0 (cs_Dawn_clashes_D_4 n mm σ v0 v1 v2) := by
  intro mm
  induction mm with
  | zero =>
    intros
    exact pf_none
  | succ mm ih =>
    intro σ v0 v1 v2  h
    unfold cs_Dawn_clashes_D_4
    refine pf_kk (fun ck_v0 => ?_)
    refine pf_cd (cf_Lines_size_D hW h) (fun s_3 r_4 hs_3 => ?_)
    refine pf_if ?_ ?_
    · exact pf_some hs_3
    · refine pf_cd (cf_Dawn_pathSeen_D hW hs_3) (fun s_8 r_9 hs_8 => ?_)
      refine pf_ltE ?_
      refine pf_if ?_ ?_
      · refine pf_ltE ?_
        refine pf_ltE ?_
        exact ih _ _ _ _ hs_8
      · exact pf_some hs_8
theorem cf_Dawn_clashes_D {W : Nat → Prop} (hW : gb_sc W) {n : Nat} {σ0 : gb_S} {σ : gb_S} {k0 : Nat} (h : gb_fs W σ0 σ) : gb_pf W σ0 (cs_Dawn_clashes_D n σ k0) := by
  unfold cs_Dawn_clashes_D
  refine pf_kk (fun ck_k0 => ?_)
  exact cf_Dawn_clashes_D_4 hW _ _ _ _ _ h
theorem cf_Face_fault {W : Nat → Prop} (hW : gb_sc W) {n : Nat} {σ0 : gb_S} {σ : gb_S} {p1 : Int32} (h : gb_fs W σ0 σ) : gb_pf W σ0 (cs_Face_fault n σ p1) := by
  unfold cs_Face_fault
  refine pf_if ?_ ?_
  · exact pf_some h
  · refine pf_if ?_ ?_
    · exact pf_some h
    · exact pf_some h
theorem cf_Face_count {W : Nat → Prop} (hW : gb_sc W) {n : Nat} {σ0 : gb_S} {σ : gb_S} {p1 : Int32} (h : gb_fs W σ0 σ) : gb_pf W σ0 (cs_Face_count n σ p1) := by
  unfold cs_Face_count
  refine pf_if ?_ ?_
  · exact pf_some h
  · refine pf_if ?_ ?_
    · exact pf_some h
    · refine pf_ck ?_
      refine pf_ltV (fun x_4 => ?_)
      exact pf_some h
theorem cf_Told_sheetOf_T {W : Nat → Prop} (hW : gb_sc W) {n : Nat} {σ0 : gb_S} {σ : gb_S} {k0 : Nat} {p1 : Int32} {p2 : Int32} (h : gb_fs W σ0 σ) : gb_pf W σ0 (cs_Told_sheetOf_T n σ k0 p1 p2) := by
  unfold cs_Told_sheetOf_T
  refine pf_kk (fun ck_k0 => ?_)
  refine pf_if ?_ ?_
  · refine pf_ck ?_
    refine pf_ltV (fun a_4 => ?_)
    refine pf_kk (fun ck_a_4 => ?_)
    exact pf_some h
  · refine pf_if ?_ ?_
    · refine pf_ck ?_
      refine pf_ltV (fun a_8 => ?_)
      refine pf_kk (fun ck_a_8 => ?_)
      exact pf_some h
    · refine pf_if ?_ ?_
      · refine pf_ck ?_
        refine pf_ltV (fun a_12 => ?_)
        refine pf_kk (fun ck_a_12 => ?_)
        exact pf_some h
      · refine pf_ck ?_
        refine pf_ltV (fun a_15 => ?_)
        refine pf_kk (fun ck_a_15 => ?_)
        exact pf_some h
theorem cf_Sheet_copyFrom_B_B {W : Nat → Prop} (hW : gb_sc W) {n : Nat} {σ0 : gb_S} {σ : gb_S} {k0 : Nat} {p1 : Nat} (hw_k0_1 : W (k0 + 1)) (h : gb_fs W σ0 σ) : gb_pf W σ0 (cs_Sheet_copyFrom_B_B n σ k0 p1) := by
  unfold cs_Sheet_copyFrom_B_B
  refine pf_kk (fun ck_k0 => ?_)
  refine pf_kk (fun ck_p1 => ?_)
  refine pf_ltV (fun x_3 => ?_)
  refine pf_ac ?_
  refine pf_ltS (fs_su hw_k0_1 h) (fun s_5 hs_5 => ?_)
  exact pf_some hs_5
theorem cf_Sheet_copyFrom_N_N {W : Nat → Prop} (hW : gb_sc W) {n : Nat} {σ0 : gb_S} {σ : gb_S} {k0 : Nat} {p1 : Nat} (hw_k0_1 : W (k0 + 1)) (h : gb_fs W σ0 σ) : gb_pf W σ0 (cs_Sheet_copyFrom_N_N n σ k0 p1) := by
  unfold cs_Sheet_copyFrom_N_N
  refine pf_kk (fun ck_k0 => ?_)
  refine pf_kk (fun ck_p1 => ?_)
  refine pf_ltV (fun x_3 => ?_)
  refine pf_ac ?_
  refine pf_ltS (fs_su hw_k0_1 h) (fun s_5 hs_5 => ?_)
  exact pf_some hs_5
theorem cf_Sheet_copyFrom_L_L {W : Nat → Prop} (hW : gb_sc W) {n : Nat} {σ0 : gb_S} {σ : gb_S} {k0 : Nat} {p1 : Nat} (hw_k0_1 : W (k0 + 1)) (h : gb_fs W σ0 σ) : gb_pf W σ0 (cs_Sheet_copyFrom_L_L n σ k0 p1) := by
  unfold cs_Sheet_copyFrom_L_L
  refine pf_kk (fun ck_k0 => ?_)
  refine pf_kk (fun ck_p1 => ?_)
  refine pf_ltV (fun x_3 => ?_)
  refine pf_ac ?_
  refine pf_ltS (fs_su hw_k0_1 h) (fun s_5 hs_5 => ?_)
  exact pf_some hs_5
theorem cf_Sheet_copyFrom_D_D {W : Nat → Prop} (hW : gb_sc W) {n : Nat} {σ0 : gb_S} {σ : gb_S} {k0 : Nat} {p1 : Nat} (hw_k0_1 : W (k0 + 1)) (h : gb_fs W σ0 σ) : gb_pf W σ0 (cs_Sheet_copyFrom_D_D n σ k0 p1) := by
  unfold cs_Sheet_copyFrom_D_D
  refine pf_kk (fun ck_k0 => ?_)
  refine pf_kk (fun ck_p1 => ?_)
  refine pf_ltV (fun x_3 => ?_)
  refine pf_ac ?_
  refine pf_ltS (fs_su hw_k0_1 h) (fun s_5 hs_5 => ?_)
  exact pf_some hs_5
theorem cf_Face_borderAt {W : Nat → Prop} (hW : gb_sc W) {n : Nat} {σ0 : gb_S} {σ : gb_S} {p1 : Int32} (h : gb_fs W σ0 σ) : gb_pf W σ0 (cs_Face_borderAt n σ p1) := by
  unfold cs_Face_borderAt
  refine pf_if ?_ ?_
  · exact pf_some h
  · refine pf_ltV (fun x_2 => ?_)
    refine pf_if ?_ ?_
    · exact pf_some h
    · refine pf_ck ?_
      refine pf_ltV (fun a_5 => ?_)
      refine pf_kk (fun ck_a_5 => ?_)
      exact pf_some h
theorem cf_Face_border {W : Nat → Prop} (hW : gb_sc W) {n : Nat} {σ0 : gb_S} {σ : gb_S} {p1 : Int32} {p2 : Int32} (h : gb_fs W σ0 σ) : gb_pf W σ0 (cs_Face_border n σ p1 p2) := by
  unfold cs_Face_border
  refine pf_cd (cf_Face_borderAt hW h) (fun s_1 r_2 hs_1 => ?_)
  refine pf_if ?_ ?_
  · exact pf_some hs_1
  · refine pf_kk (fun ck_r_2 => ?_)
    refine pf_if ?_ ?_
    · refine pf_cd (cf_Border_paths_B hW hs_1) (fun s_8 r_9 hs_8 => ?_)
      exact pf_some hs_8
    · refine pf_if ?_ ?_
      · refine pf_cd (cf_Border_geese_B hW hs_1) (fun s_13 r_14 hs_13 => ?_)
        exact pf_some hs_13
      · refine pf_if ?_ ?_
        · refine pf_cd (cf_Border_cap_B hW hs_1) (fun s_18 r_19 hs_18 => ?_)
          exact pf_some hs_18
        · refine pf_cd (cf_Border_numberTold_B hW hs_1) (fun s_22 r_23 hs_22 => ?_)
          exact pf_some hs_22
theorem cf_Face_marks {W : Nat → Prop} (hW : gb_sc W) {n : Nat} {σ0 : gb_S} {σ : gb_S} {p1 : Int32} {p2 : Int32} {p3 : Int32} {p4 : Int32} (h : gb_fs W σ0 σ) : gb_pf W σ0 (cs_Face_marks n σ p1 p2 p3 p4) := by
  unfold cs_Face_marks
  refine pf_cd (cf_Face_borderAt hW h) (fun s_1 r_2 hs_1 => ?_)
  refine pf_if ?_ ?_
  · exact pf_some hs_1
  · refine pf_kk (fun ck_r_2 => ?_)
    refine pf_cd (cf_Border_hasGoose_B hW hs_1) (fun s_7 r_8 hs_7 => ?_)
    refine pf_if ?_ ?_
    · exact pf_some hs_7
    · refine pf_cd (cf_Border_hasPath_B hW hs_7) (fun s_12 r_13 hs_12 => ?_)
      refine pf_if ?_ ?_
      · exact pf_some hs_12
      · refine pf_cd (cf_Border_miles_B hW hs_12) (fun s_17 r_18 hs_17 => ?_)
        refine pf_cd (cf_Border_boots_B hW hs_17) (fun s_21 r_22 hs_21 => ?_)
        refine pf_cd (cf_Border_marksOver_B hW hs_21) (fun s_25 r_26 hs_25 => ?_)
        exact pf_some hs_25
theorem cf_Face_nightAt {W : Nat → Prop} (hW : gb_sc W) {n : Nat} {σ0 : gb_S} {σ : gb_S} {p1 : Int32} (h : gb_fs W σ0 σ) : gb_pf W σ0 (cs_Face_nightAt n σ p1) := by
  unfold cs_Face_nightAt
  refine pf_if ?_ ?_
  · exact pf_some h
  · refine pf_ltV (fun x_2 => ?_)
    refine pf_if ?_ ?_
    · exact pf_some h
    · refine pf_ck ?_
      refine pf_ltV (fun a_5 => ?_)
      refine pf_kk (fun ck_a_5 => ?_)
      exact pf_some h
theorem cf_Lines_size_N {W : Nat → Prop} (hW : gb_sc W) {n : Nat} {σ0 : gb_S} {σ : gb_S} {k0 : Nat} (h : gb_fs W σ0 σ) : gb_pf W σ0 (cs_Lines_size_N n σ k0) := by
  unfold cs_Lines_size_N
  refine pf_kk (fun ck_k0 => ?_)
  refine pf_ltV (fun x_2 => ?_)
  exact pf_some h
theorem cf_Lines_cell_N {W : Nat → Prop} (hW : gb_sc W) {n : Nat} {σ0 : gb_S} {σ : gb_S} {k0 : Nat} {p1 : Int32} {p2 : Int32} (h : gb_fs W σ0 σ) : gb_pf W σ0 (cs_Lines_cell_N n σ k0 p1 p2) := by
  unfold cs_Lines_cell_N
  refine pf_kk (fun ck_k0 => ?_)
  refine pf_ck ?_
  refine pf_ltV (fun x_3 => ?_)
  exact pf_some h
theorem cf_Face_lineOf_N {W : Nat → Prop} (hW : gb_sc W) {n : Nat} {σ0 : gb_S} {σ : gb_S} {p1 : Nat} {p2 : Int32} {p3 : Int32} (h : gb_fs W σ0 σ) : gb_pf W σ0 (cs_Face_lineOf_N n σ p1 p2 p3) := by
  unfold cs_Face_lineOf_N
  refine pf_kk (fun ck_p1 => ?_)
  refine pf_if ?_ ?_
  · refine pf_if ?_ ?_
    · refine pf_cd (cf_Lines_size_N hW h) (fun s_16 r_17 hs_16 => ?_)
      exact pf_some hs_16
    · exact pf_some h
  · refine pf_if ?_ ?_
    · exact pf_some h
    · refine pf_cd (cf_Lines_size_N hW h) (fun s_4 r_5 hs_4 => ?_)
      refine pf_if ?_ ?_
      · exact pf_some hs_4
      · refine pf_if ?_ ?_
        · exact pf_some hs_4
        · refine pf_if ?_ ?_
          · refine pf_cd (cf_Lines_cell_N hW hs_4) (fun s_11 r_12 hs_11 => ?_)
            exact pf_some hs_11
          · exact pf_some hs_4
theorem cf_Face_deed {W : Nat → Prop} (hW : gb_sc W) {n : Nat} {σ0 : gb_S} {σ : gb_S} {p1 : Int32} {p2 : Int32} {p3 : Int32} (h : gb_fs W σ0 σ) : gb_pf W σ0 (cs_Face_deed n σ p1 p2 p3) := by
  unfold cs_Face_deed
  refine pf_cd (cf_Face_nightAt hW h) (fun s_1 r_2 hs_1 => ?_)
  refine pf_if ?_ ?_
  · exact pf_some hs_1
  · refine pf_kk (fun ck_r_2 => ?_)
    refine pf_cd (cf_Face_lineOf_N hW hs_1) (fun s_7 r_8 hs_7 => ?_)
    exact pf_some hs_7
theorem cf_Face_lawAt {W : Nat → Prop} (hW : gb_sc W) {n : Nat} {σ0 : gb_S} {σ : gb_S} {p1 : Int32} (h : gb_fs W σ0 σ) : gb_pf W σ0 (cs_Face_lawAt n σ p1) := by
  unfold cs_Face_lawAt
  refine pf_if ?_ ?_
  · exact pf_some h
  · refine pf_ltV (fun x_2 => ?_)
    refine pf_if ?_ ?_
    · exact pf_some h
    · refine pf_ck ?_
      refine pf_ltV (fun a_5 => ?_)
      refine pf_kk (fun ck_a_5 => ?_)
      exact pf_some h
theorem cf_Lines_size_L {W : Nat → Prop} (hW : gb_sc W) {n : Nat} {σ0 : gb_S} {σ : gb_S} {k0 : Nat} (h : gb_fs W σ0 σ) : gb_pf W σ0 (cs_Lines_size_L n σ k0) := by
  unfold cs_Lines_size_L
  refine pf_kk (fun ck_k0 => ?_)
  refine pf_ltV (fun x_2 => ?_)
  exact pf_some h
theorem cf_Lines_cell_L {W : Nat → Prop} (hW : gb_sc W) {n : Nat} {σ0 : gb_S} {σ : gb_S} {k0 : Nat} {p1 : Int32} {p2 : Int32} (h : gb_fs W σ0 σ) : gb_pf W σ0 (cs_Lines_cell_L n σ k0 p1 p2) := by
  unfold cs_Lines_cell_L
  refine pf_kk (fun ck_k0 => ?_)
  refine pf_ck ?_
  refine pf_ltV (fun x_3 => ?_)
  exact pf_some h
theorem cf_Face_lineOf_L {W : Nat → Prop} (hW : gb_sc W) {n : Nat} {σ0 : gb_S} {σ : gb_S} {p1 : Nat} {p2 : Int32} {p3 : Int32} (h : gb_fs W σ0 σ) : gb_pf W σ0 (cs_Face_lineOf_L n σ p1 p2 p3) := by
  unfold cs_Face_lineOf_L
  refine pf_kk (fun ck_p1 => ?_)
  refine pf_if ?_ ?_
  · refine pf_if ?_ ?_
    · refine pf_cd (cf_Lines_size_L hW h) (fun s_16 r_17 hs_16 => ?_)
      exact pf_some hs_16
    · exact pf_some h
  · refine pf_if ?_ ?_
    · exact pf_some h
    · refine pf_cd (cf_Lines_size_L hW h) (fun s_4 r_5 hs_4 => ?_)
      refine pf_if ?_ ?_
      · exact pf_some hs_4
      · refine pf_if ?_ ?_
        · exact pf_some hs_4
        · refine pf_if ?_ ?_
          · refine pf_cd (cf_Lines_cell_L hW hs_4) (fun s_11 r_12 hs_11 => ?_)
            exact pf_some hs_11
          · exact pf_some hs_4
theorem cf_Face_term {W : Nat → Prop} (hW : gb_sc W) {n : Nat} {σ0 : gb_S} {σ : gb_S} {p1 : Int32} {p2 : Int32} {p3 : Int32} (h : gb_fs W σ0 σ) : gb_pf W σ0 (cs_Face_term n σ p1 p2 p3) := by
  unfold cs_Face_term
  refine pf_cd (cf_Face_lawAt hW h) (fun s_1 r_2 hs_1 => ?_)
  refine pf_if ?_ ?_
  · exact pf_some hs_1
  · refine pf_kk (fun ck_r_2 => ?_)
    refine pf_cd (cf_Face_lineOf_L hW hs_1) (fun s_7 r_8 hs_7 => ?_)
    exact pf_some hs_7
theorem cf_Face_dawnAt {W : Nat → Prop} (hW : gb_sc W) {n : Nat} {σ0 : gb_S} {σ : gb_S} {p1 : Int32} (h : gb_fs W σ0 σ) : gb_pf W σ0 (cs_Face_dawnAt n σ p1) := by
  unfold cs_Face_dawnAt
  refine pf_if ?_ ?_
  · exact pf_some h
  · refine pf_ltV (fun x_2 => ?_)
    refine pf_if ?_ ?_
    · exact pf_some h
    · refine pf_ck ?_
      refine pf_ltV (fun a_5 => ?_)
      refine pf_kk (fun ck_a_5 => ?_)
      exact pf_some h
theorem cf_Face_lineOf_D {W : Nat → Prop} (hW : gb_sc W) {n : Nat} {σ0 : gb_S} {σ : gb_S} {p1 : Nat} {p2 : Int32} {p3 : Int32} (h : gb_fs W σ0 σ) : gb_pf W σ0 (cs_Face_lineOf_D n σ p1 p2 p3) := by
  unfold cs_Face_lineOf_D
  refine pf_kk (fun ck_p1 => ?_)
  refine pf_if ?_ ?_
  · refine pf_if ?_ ?_
    · refine pf_cd (cf_Lines_size_D hW h) (fun s_16 r_17 hs_16 => ?_)
      exact pf_some hs_16
    · exact pf_some h
  · refine pf_if ?_ ?_
    · exact pf_some h
    · refine pf_cd (cf_Lines_size_D hW h) (fun s_4 r_5 hs_4 => ?_)
      refine pf_if ?_ ?_
      · exact pf_some hs_4
      · refine pf_if ?_ ?_
        · exact pf_some hs_4
        · refine pf_if ?_ ?_
          · refine pf_cd (cf_Lines_cell_D hW hs_4) (fun s_11 r_12 hs_11 => ?_)
            exact pf_some hs_11
          · exact pf_some hs_4
theorem cf_Face_seen {W : Nat → Prop} (hW : gb_sc W) {n : Nat} {σ0 : gb_S} {σ : gb_S} {p1 : Int32} {p2 : Int32} {p3 : Int32} (h : gb_fs W σ0 σ) : gb_pf W σ0 (cs_Face_seen n σ p1 p2 p3) := by
  unfold cs_Face_seen
  refine pf_cd (cf_Face_dawnAt hW h) (fun s_1 r_2 hs_1 => ?_)
  refine pf_if ?_ ?_
  · exact pf_some hs_1
  · refine pf_kk (fun ck_r_2 => ?_)
    refine pf_if ?_ ?_
    · exact pf_some hs_1
    · refine pf_if ?_ ?_
      · refine pf_if ?_ ?_
        · refine pf_cd (cf_Face_lineOf_D hW hs_1) (fun s_14 r_15 hs_14 => ?_)
          exact pf_some hs_14
        · refine pf_cd (cf_Face_lineOf_D hW hs_1) (fun s_10 r_11 hs_10 => ?_)
          exact pf_some hs_10
      · exact pf_some hs_1
theorem cf_Lines_kind_L {W : Nat → Prop} (hW : gb_sc W) {n : Nat} {σ0 : gb_S} {σ : gb_S} {k0 : Nat} {p1 : Int32} (h : gb_fs W σ0 σ) : gb_pf W σ0 (cs_Lines_kind_L n σ k0 p1) := by
  unfold cs_Lines_kind_L
  refine pf_kk (fun ck_k0 => ?_)
  refine pf_cd (cf_Lines_cell_L hW h) (fun s_2 r_3 hs_2 => ?_)
  exact pf_some hs_2
theorem cf_Law_payFor_L_4 {W : Nat → Prop} (hW : gb_sc W) {n : Nat} {σ0 : gb_S} : ∀ (mm : Nat) (σ : gb_S) (v0 : Nat) (v1 : Int32) (v2 : Int32) (v3 : Int32), gb_fs W σ0 σ → gb_pf W σ0 (cs_Law_payFor_L_4 n mm σ v0 v1 v2 v3) := by
  intro mm
  induction mm with
  | zero =>
    intros
    exact pf_none
  | succ mm ih =>
    intro σ v0 v1 v2 v3  h
    unfold cs_Law_payFor_L_4
    refine pf_kk (fun ck_v0 => ?_)
    refine pf_cd (cf_Lines_size_L hW h) (fun s_3 r_4 hs_3 => ?_)
    refine pf_if ?_ ?_
    · exact pf_some hs_3
    · refine pf_cd (cf_Lines_cell_L hW hs_3) (fun s_8 r_9 hs_8 => ?_)
      refine pf_cd (cf_Lines_cell_L hW hs_8) (fun s_12 r_13 hs_12 => ?_)
      refine pf_cd (cf_Lines_kind_L hW hs_12) (fun s_16 r_17 hs_16 => ?_)
      refine pf_if ?_ ?_
      · refine pf_ltE ?_
        refine pf_ltE ?_
        exact ih _ _ _ _ _ hs_16
      · refine pf_if ?_ ?_
        · refine pf_if ?_ ?_
          · refine pf_ltE ?_
            refine pf_ltE ?_
            exact ih _ _ _ _ _ hs_16
          · refine pf_ltE ?_
            refine pf_ltE ?_
            exact ih _ _ _ _ _ hs_16
        · refine pf_if ?_ ?_
          · refine pf_if ?_ ?_
            · refine pf_ltE ?_
              refine pf_ltE ?_
              exact ih _ _ _ _ _ hs_16
            · refine pf_ltE ?_
              refine pf_ltE ?_
              exact ih _ _ _ _ _ hs_16
          · refine pf_if ?_ ?_
            · refine pf_ltE ?_
              refine pf_if ?_ ?_
              · refine pf_ltE ?_
                refine pf_ltE ?_
                exact ih _ _ _ _ _ hs_16
              · refine pf_ltE ?_
                refine pf_ltE ?_
                exact ih _ _ _ _ _ hs_16
            · refine pf_if ?_ ?_
              · refine pf_ltV (fun x_43 => ?_)
                refine pf_ltE ?_
                exact ih _ _ _ _ _ hs_16
              · refine pf_ltE ?_
                exact ih _ _ _ _ _ hs_16
theorem cf_Law_payFor_L {W : Nat → Prop} (hW : gb_sc W) {n : Nat} {σ0 : gb_S} {σ : gb_S} {k0 : Nat} {p1 : Int32} (h : gb_fs W σ0 σ) : gb_pf W σ0 (cs_Law_payFor_L n σ k0 p1) := by
  unfold cs_Law_payFor_L
  refine pf_kk (fun ck_k0 => ?_)
  exact cf_Law_payFor_L_4 hW _ _ _ _ _ _ h
theorem cf_Face_pays {W : Nat → Prop} (hW : gb_sc W) {n : Nat} {σ0 : gb_S} {σ : gb_S} {p1 : Int32} {p2 : Int32} (h : gb_fs W σ0 σ) : gb_pf W σ0 (cs_Face_pays n σ p1 p2) := by
  unfold cs_Face_pays
  refine pf_cd (cf_Face_lawAt hW h) (fun s_1 r_2 hs_1 => ?_)
  refine pf_if ?_ ?_
  · exact pf_some hs_1
  · refine pf_kk (fun ck_r_2 => ?_)
    refine pf_if ?_ ?_
    · exact pf_some hs_1
    · refine pf_if ?_ ?_
      · refine pf_cd (cf_Law_payFor_L hW hs_1) (fun s_9 r_10 hs_9 => ?_)
        exact pf_some hs_9
      · exact pf_some hs_1
theorem cf_Face_playedOut_n_n {W : Nat → Prop} (hW : gb_sc W) {n : Nat} {σ0 : gb_S} {σ : gb_S} (h : gb_fs W σ0 σ) : gb_pf W σ0 (cs_Face_playedOut_n_n n σ) := by
  unfold cs_Face_playedOut_n_n
  exact pf_some h
theorem cf_Face_playedOut_n_N {W : Nat → Prop} (hW : gb_sc W) {n : Nat} {σ0 : gb_S} {σ : gb_S} {p2 : Nat} (h : gb_fs W σ0 σ) : gb_pf W σ0 (cs_Face_playedOut_n_N n σ p2) := by
  unfold cs_Face_playedOut_n_N
  refine pf_kk (fun ck_p2 => ?_)
  exact pf_some h
theorem cf_Face_playedOut_B_n {W : Nat → Prop} (hW : gb_sc W) {n : Nat} {σ0 : gb_S} {σ : gb_S} {p1 : Nat} (h : gb_fs W σ0 σ) : gb_pf W σ0 (cs_Face_playedOut_B_n n σ p1) := by
  unfold cs_Face_playedOut_B_n
  refine pf_kk (fun ck_p1 => ?_)
  exact pf_some h
theorem cf_java_util_Arrays_fill_c116_5 {W : Nat → Prop} (hW : gb_sc W) {n : Nat} {σ0 : gb_S} : ∀ (mm : Nat) (σ : gb_S) (v1 : Int32) (v2 : Int32) (v3 : Int32), gb_fs W σ0 σ → gb_pf W σ0 (cs_java_util_Arrays_fill_c116_5 n mm σ v1 v2 v3) := by
  intro mm
  induction mm with
  | zero =>
    intros
    exact pf_none
  | succ mm ih =>
    intro σ v1 v2 v3  h
    unfold cs_java_util_Arrays_fill_c116_5
    refine pf_if ?_ ?_
    · exact pf_some h
    · refine pf_ck ?_
      refine pf_ltS (fs_su (hW.2 _ (by decide)) h) (fun s_3 hs_3 => ?_)
      refine pf_ltE ?_
      exact ih _ _ _ _ hs_3
theorem cf_java_util_Arrays_fill_c116 {W : Nat → Prop} (hW : gb_sc W) {n : Nat} {σ0 : gb_S} {σ : gb_S} {p2 : Int32} (h : gb_fs W σ0 σ) : gb_pf W σ0 (cs_java_util_Arrays_fill_c116 n σ p2) := by
  unfold cs_java_util_Arrays_fill_c116
  exact cf_java_util_Arrays_fill_c116_5 hW _ _ _ _ _ h
theorem cf_java_util_Arrays_fill_c117_5 {W : Nat → Prop} (hW : gb_sc W) {n : Nat} {σ0 : gb_S} : ∀ (mm : Nat) (σ : gb_S) (v1 : Int32) (v2 : Int32) (v3 : Int32), gb_fs W σ0 σ → gb_pf W σ0 (cs_java_util_Arrays_fill_c117_5 n mm σ v1 v2 v3) := by
  intro mm
  induction mm with
  | zero =>
    intros
    exact pf_none
  | succ mm ih =>
    intro σ v1 v2 v3  h
    unfold cs_java_util_Arrays_fill_c117_5
    refine pf_if ?_ ?_
    · exact pf_some h
    · refine pf_ck ?_
      refine pf_ltS (fs_su (hW.2 _ (by decide)) h) (fun s_3 hs_3 => ?_)
      refine pf_ltE ?_
      exact ih _ _ _ _ hs_3
theorem cf_java_util_Arrays_fill_c117 {W : Nat → Prop} (hW : gb_sc W) {n : Nat} {σ0 : gb_S} {σ : gb_S} {p2 : Int32} (h : gb_fs W σ0 σ) : gb_pf W σ0 (cs_java_util_Arrays_fill_c117 n σ p2) := by
  unfold cs_java_util_Arrays_fill_c117
  exact cf_java_util_Arrays_fill_c117_5 hW _ _ _ _ _ h
theorem cf_java_util_Arrays_fill_c118_5 {W : Nat → Prop} (hW : gb_sc W) {n : Nat} {σ0 : gb_S} : ∀ (mm : Nat) (σ : gb_S) (v1 : Int32) (v2 : Int32) (v3 : Int32), gb_fs W σ0 σ → gb_pf W σ0 (cs_java_util_Arrays_fill_c118_5 n mm σ v1 v2 v3) := by
  intro mm
  induction mm with
  | zero =>
    intros
    exact pf_none
  | succ mm ih =>
    intro σ v1 v2 v3  h
    unfold cs_java_util_Arrays_fill_c118_5
    refine pf_if ?_ ?_
    · exact pf_some h
    · refine pf_ck ?_
      refine pf_ltS (fs_su (hW.2 _ (by decide)) h) (fun s_3 hs_3 => ?_)
      refine pf_ltE ?_
      exact ih _ _ _ _ hs_3
theorem cf_java_util_Arrays_fill_c118 {W : Nat → Prop} (hW : gb_sc W) {n : Nat} {σ0 : gb_S} {σ : gb_S} {p2 : Int32} (h : gb_fs W σ0 σ) : gb_pf W σ0 (cs_java_util_Arrays_fill_c118 n σ p2) := by
  unfold cs_java_util_Arrays_fill_c118
  exact cf_java_util_Arrays_fill_c118_5 hW _ _ _ _ _ h
theorem cf_java_util_Arrays_fill_c119_5 {W : Nat → Prop} (hW : gb_sc W) {n : Nat} {σ0 : gb_S} : ∀ (mm : Nat) (σ : gb_S) (v1 : Int32) (v2 : Int32) (v3 : Int32), gb_fs W σ0 σ → gb_pf W σ0 (cs_java_util_Arrays_fill_c119_5 n mm σ v1 v2 v3) := by
  intro mm
  induction mm with
  | zero =>
    intros
    exact pf_none
  | succ mm ih =>
    intro σ v1 v2 v3  h
    unfold cs_java_util_Arrays_fill_c119_5
    refine pf_if ?_ ?_
    · exact pf_some h
    · refine pf_ck ?_
      refine pf_ltS (fs_su (hW.2 _ (by decide)) h) (fun s_3 hs_3 => ?_)
      refine pf_ltE ?_
      exact ih _ _ _ _ hs_3
theorem cf_java_util_Arrays_fill_c119 {W : Nat → Prop} (hW : gb_sc W) {n : Nat} {σ0 : gb_S} {σ : gb_S} {p2 : Int32} (h : gb_fs W σ0 σ) : gb_pf W σ0 (cs_java_util_Arrays_fill_c119 n σ p2) := by
  unfold cs_java_util_Arrays_fill_c119
  exact cf_java_util_Arrays_fill_c119_5 hW _ _ _ _ _ h
theorem cf_Play_begin_B_7 {W : Nat → Prop} (hW : gb_sc W) {n : Nat} {σ0 : gb_S} : ∀ (mm : Nat) (σ : gb_S) (v1 : Nat) (v2 : Int32), gb_fs W σ0 σ → gb_pf W σ0 (cs_Play_begin_B_7 n mm σ v1 v2) := by
  intro mm
  induction mm with
  | zero =>
    intros
    exact pf_none
  | succ mm ih =>
    intro σ v1 v2  h
    unfold cs_Play_begin_B_7
    refine pf_kk (fun ck_v1 => ?_)
    refine pf_if ?_ ?_
    · refine pf_cd (cf_java_util_Arrays_fill_c116 hW h) (fun s_5 _ hs_5 => ?_)
      refine pf_cd (cf_java_util_Arrays_fill_c117 hW hs_5) (fun s_9 _ hs_9 => ?_)
      refine pf_cd (cf_java_util_Arrays_fill_c118 hW hs_9) (fun s_13 _ hs_13 => ?_)
      refine pf_cd (cf_java_util_Arrays_fill_c119 hW hs_13) (fun s_17 _ hs_17 => ?_)
      refine pf_ltS (fs_su (hW.2 _ (by decide)) hs_17) (fun s_21 hs_21 => ?_)
      refine pf_ltS (fs_su (hW.2 _ (by decide)) hs_21) (fun s_22 hs_22 => ?_)
      refine pf_ltS (fs_su (hW.2 _ (by decide)) hs_22) (fun s_23 hs_23 => ?_)
      exact pf_some hs_23
    · refine pf_ck ?_
      refine pf_ltS (fs_su (hW.2 _ (by decide)) h) (fun s_25 hs_25 => ?_)
      refine pf_cd (cf_Border_hasGoose_B hW hs_25) (fun s_26 r_27 hs_26 => ?_)
      refine pf_if ?_ ?_
      · refine pf_ck ?_
        refine pf_ltS (fs_su (hW.2 _ (by decide)) hs_26) (fun s_32 hs_32 => ?_)
        refine pf_ck ?_
        refine pf_ltS (fs_su (hW.2 _ (by decide)) hs_32) (fun s_34 hs_34 => ?_)
        refine pf_ck ?_
        refine pf_ltS (fs_su (hW.2 _ (by decide)) hs_34) (fun s_36 hs_36 => ?_)
        refine pf_ltE ?_
        exact ih _ _ _ hs_36
      · refine pf_cd (cf_Border_boots_B hW hs_26) (fun s_38 r_39 hs_38 => ?_)
        refine pf_ck ?_
        refine pf_ltS (fs_su (hW.2 _ (by decide)) hs_38) (fun s_43 hs_43 => ?_)
        refine pf_ck ?_
        refine pf_ltS (fs_su (hW.2 _ (by decide)) hs_43) (fun s_45 hs_45 => ?_)
        refine pf_ck ?_
        refine pf_ltS (fs_su (hW.2 _ (by decide)) hs_45) (fun s_47 hs_47 => ?_)
        refine pf_ltE ?_
        exact ih _ _ _ hs_47
theorem cf_Play_begin_B {W : Nat → Prop} (hW : gb_sc W) {n : Nat} {σ0 : gb_S} {σ : gb_S} {p1 : Nat} (h : gb_fs W σ0 σ) : gb_pf W σ0 (cs_Play_begin_B n σ p1) := by
  unfold cs_Play_begin_B
  refine pf_kk (fun ck_p1 => ?_)
  refine pf_ltS (fs_sq h) (fun s_2 hs_2 => ?_)
  exact cf_Play_begin_B_7 hW _ _ _ _ hs_2
theorem cf_Lines_kind_N {W : Nat → Prop} (hW : gb_sc W) {n : Nat} {σ0 : gb_S} {σ : gb_S} {k0 : Nat} {p1 : Int32} (h : gb_fs W σ0 σ) : gb_pf W σ0 (cs_Lines_kind_N n σ k0 p1) := by
  unfold cs_Lines_kind_N
  refine pf_kk (fun ck_k0 => ?_)
  refine pf_cd (cf_Lines_cell_N hW h) (fun s_2 r_3 hs_2 => ?_)
  exact pf_some hs_2
theorem cf_Play_stands {W : Nat → Prop} (hW : gb_sc W) {n : Nat} {σ0 : gb_S} {σ : gb_S} {p1 : Int32} {p2 : Int32} (h : gb_fs W σ0 σ) : gb_pf W σ0 (cs_Play_stands n σ p1 p2) := by
  unfold cs_Play_stands
  refine pf_kk (fun _ => ?_)
  refine pf_cd (cf_Border_hasGoose_B hW h) (fun s_2 r_3 hs_2 => ?_)
  refine pf_if ?_ ?_
  · exact pf_some hs_2
  · refine pf_ck ?_
    refine pf_ltV (fun x_8 => ?_)
    refine pf_if ?_ ?_
    · exact pf_some hs_2
    · exact pf_some hs_2
theorem cf_Play_latestGoer_7 {W : Nat → Prop} (hW : gb_sc W) {n : Nat} {σ0 : gb_S} : ∀ (mm : Nat) (σ : gb_S) (v1 : Int32) (v2 : Int32) (v3 : Int32) (v4 : Int32), gb_fs W σ0 σ → gb_pf W σ0 (cs_Play_latestGoer_7 n mm σ v1 v2 v3 v4) := by
  intro mm
  induction mm with
  | zero =>
    intros
    exact pf_none
  | succ mm ih =>
    intro σ v1 v2 v3 v4  h
    unfold cs_Play_latestGoer_7
    refine pf_kk (fun _ => ?_)
    refine pf_cd (cf_Border_geese_B hW h) (fun s_2 r_3 hs_2 => ?_)
    refine pf_if ?_ ?_
    · exact pf_some hs_2
    · refine pf_ck ?_
      refine pf_ltV (fun x_8 => ?_)
      refine pf_if ?_ ?_
      · refine pf_ltE ?_
        exact ih _ _ _ _ _ hs_2
      · refine pf_ck ?_
        refine pf_ltV (fun x_12 => ?_)
        refine pf_if ?_ ?_
        · refine pf_ltE ?_
          exact ih _ _ _ _ _ hs_2
        · refine pf_ltE ?_
          exact ih _ _ _ _ _ hs_2
theorem cf_Play_latestGoer {W : Nat → Prop} (hW : gb_sc W) {n : Nat} {σ0 : gb_S} {σ : gb_S} {p1 : Int32} (h : gb_fs W σ0 σ) : gb_pf W σ0 (cs_Play_latestGoer n σ p1) := by
  unfold cs_Play_latestGoer
  exact cf_Play_latestGoer_7 hW _ _ _ _ _ _ h
theorem cf_Play_canBe_N {W : Nat → Prop} (hW : gb_sc W) {n : Nat} {σ0 : gb_S} {σ : gb_S} {p1 : Nat} {p2 : Int32} (h : gb_fs W σ0 σ) : gb_pf W σ0 (cs_Play_canBe_N n σ p1 p2) := by
  unfold cs_Play_canBe_N
  refine pf_kk (fun ck_p1 => ?_)
  refine pf_cd (cf_Lines_cell_N hW h) (fun s_2 r_3 hs_2 => ?_)
  refine pf_cd (cf_Lines_cell_N hW hs_2) (fun s_6 r_7 hs_6 => ?_)
  refine pf_cd (cf_Lines_kind_N hW hs_6) (fun s_10 r_11 hs_10 => ?_)
  refine pf_if ?_ ?_
  · refine pf_cd (cf_Play_stands hW hs_10) (fun s_15 r_16 hs_15 => ?_)
    refine pf_if ?_ ?_
    · exact pf_some hs_15
    · refine pf_kk (fun _ => ?_)
      refine pf_cd (cf_Border_hasPath_B hW hs_15) (fun s_21 r_22 hs_21 => ?_)
      refine pf_if ?_ ?_
      · exact pf_some hs_21
      · exact pf_some hs_21
  · refine pf_if ?_ ?_
    · refine pf_cd (cf_Play_stands hW hs_10) (fun s_27 r_28 hs_27 => ?_)
      refine pf_if ?_ ?_
      · exact pf_some hs_27
      · refine pf_kk (fun _ => ?_)
        refine pf_cd (cf_Border_hasPath_B hW hs_27) (fun s_33 r_34 hs_33 => ?_)
        refine pf_if ?_ ?_
        · exact pf_some hs_33
        · exact pf_some hs_33
    · refine pf_if ?_ ?_
      · refine pf_cd (cf_Play_stands hW hs_10) (fun s_39 r_40 hs_39 => ?_)
        refine pf_if ?_ ?_
        · exact pf_some hs_39
        · refine pf_kk (fun _ => ?_)
          refine pf_cd (cf_Border_hasPath_B hW hs_39) (fun s_45 r_46 hs_45 => ?_)
          refine pf_if ?_ ?_
          · exact pf_some hs_45
          · exact pf_some hs_45
      · refine pf_if ?_ ?_
        · refine pf_cd (cf_Play_stands hW hs_10) (fun s_51 r_52 hs_51 => ?_)
          refine pf_if ?_ ?_
          · exact pf_some hs_51
          · refine pf_cd (cf_Play_stands hW hs_51) (fun s_56 r_57 hs_56 => ?_)
            refine pf_if ?_ ?_
            · exact pf_some hs_56
            · refine pf_kk (fun _ => ?_)
              refine pf_cd (cf_Lines_cell_N hW hs_56) (fun s_62 r_63 hs_62 => ?_)
              refine pf_cd (cf_Border_hasPath_B hW hs_62) (fun s_66 r_67 hs_66 => ?_)
              refine pf_if ?_ ?_
              · exact pf_some hs_66
              · exact pf_some hs_66
        · refine pf_if ?_ ?_
          · refine pf_cd (cf_Play_stands hW hs_10) (fun s_72 r_73 hs_72 => ?_)
            refine pf_if ?_ ?_
            · refine pf_cd (cf_Play_stands hW hs_72) (fun s_77 r_78 hs_77 => ?_)
              refine pf_if ?_ ?_
              · exact pf_some hs_77
              · exact pf_some hs_77
            · exact pf_some hs_72
          · refine pf_if ?_ ?_
            · exact pf_some hs_10
            · refine pf_if ?_ ?_
              · exact pf_some hs_10
              · refine pf_if ?_ ?_
                · exact pf_some hs_10
                · refine pf_if ?_ ?_
                  · refine pf_kk (fun _ => ?_)
                    refine pf_cd (cf_Border_hasPath_B hW hs_10) (fun s_87 r_88 hs_87 => ?_)
                    refine pf_if ?_ ?_
                    · exact pf_some hs_87
                    · refine pf_cd (cf_Play_latestGoer hW hs_87) (fun s_92 r_93 hs_92 => ?_)
                      refine pf_if ?_ ?_
                      · exact pf_some hs_92
                      · exact pf_some hs_92
                  · exact pf_some hs_10
theorem cf_Play_go_n_95 {W : Nat → Prop} (hW : gb_sc W) {n : Nat} {σ0 : gb_S} {σ : gb_S} {v1 : Int32} {v2 : Int32} {v3 : Int32} {t0 : Int32} {t1 : Int32} (h : gb_fs W σ0 σ) : gb_pf W σ0 (cs_Play_go_n_95 n σ v1 v2 v3 t0 t1) := by
  unfold cs_Play_go_n_95
  refine pf_ck ?_
  refine pf_ltS (fs_su (hW.2 _ (by decide)) h) (fun s_26 hs_26 => ?_)
  refine pf_ck ?_
  refine pf_ltS (fs_su (hW.2 _ (by decide)) hs_26) (fun s_28 hs_28 => ?_)
  refine pf_ck ?_
  refine pf_ltS (fs_su (hW.2 _ (by decide)) hs_28) (fun s_30 hs_30 => ?_)
  exact pf_some hs_30
theorem cf_Play_go_n_46 {W : Nat → Prop} (hW : gb_sc W) {n : Nat} {σ0 : gb_S} {σ : gb_S} {v1 : Int32} {v2 : Int32} {v3 : Int32} {v5 : Int32} {v6 : Int32} (h : gb_fs W σ0 σ) : gb_pf W σ0 (cs_Play_go_n_46 n σ v1 v2 v3 v5 v6) := by
  unfold cs_Play_go_n_46
  refine pf_ck ?_
  refine pf_ltV (fun x_14 => ?_)
  refine pf_ltV (fun x_15 => ?_)
  refine pf_ck ?_
  refine pf_ltS (fs_su (hW.2 _ (by decide)) h) (fun s_17 hs_17 => ?_)
  refine pf_ck ?_
  refine pf_ltV (fun x_19 => ?_)
  refine pf_ck ?_
  refine pf_ltS (fs_su (hW.2 _ (by decide)) hs_17) (fun s_21 hs_21 => ?_)
  refine pf_ck ?_
  refine pf_ltV (fun x_23 => ?_)
  refine pf_if ?_ ?_
  · exact cf_Play_go_n_95 hW hs_21
  · exact cf_Play_go_n_95 hW hs_21
theorem cf_Play_go_n {W : Nat → Prop} (hW : gb_sc W) {n : Nat} {σ0 : gb_S} {σ : gb_S} {p1 : Int32} {p2 : Int32} {p3 : Int32} (h : gb_fs W σ0 σ) : gb_pf W σ0 (cs_Play_go_n n σ p1 p2 p3) := by
  unfold cs_Play_go_n
  refine pf_kk (fun _ => ?_)
  refine pf_cd (cf_Border_miles_B hW h) (fun s_2 r_3 hs_2 => ?_)
  refine pf_kk (fun _ => ?_)
  refine pf_ck ?_
  refine pf_ltV (fun x_8 => ?_)
  refine pf_cd (cf_Border_marksOver_B hW hs_2) (fun s_9 r_10 hs_9 => ?_)
  exact cf_Play_go_n_46 hW hs_9
theorem cf_Play_go_c116_95 {W : Nat → Prop} (hW : gb_sc W) {n : Nat} {σ0 : gb_S} {σ : gb_S} {v1 : Int32} {v2 : Int32} {v3 : Int32} {t0 : Int32} {t1 : Int32} (h : gb_fs W σ0 σ) : gb_pf W σ0 (cs_Play_go_c116_95 n σ v1 v2 v3 t0 t1) := by
  unfold cs_Play_go_c116_95
  refine pf_ck ?_
  refine pf_ltS (fs_su (hW.2 _ (by decide)) h) (fun s_30 hs_30 => ?_)
  refine pf_ck ?_
  refine pf_ltS (fs_su (hW.2 _ (by decide)) hs_30) (fun s_32 hs_32 => ?_)
  refine pf_ck ?_
  refine pf_ltS (fs_su (hW.2 _ (by decide)) hs_32) (fun s_34 hs_34 => ?_)
  exact pf_some hs_34
theorem cf_Play_go_c116_46 {W : Nat → Prop} (hW : gb_sc W) {n : Nat} {σ0 : gb_S} {σ : gb_S} {v1 : Int32} {v2 : Int32} {v3 : Int32} {v5 : Int32} {v6 : Int32} (h : gb_fs W σ0 σ) : gb_pf W σ0 (cs_Play_go_c116_46 n σ v1 v2 v3 v5 v6) := by
  unfold cs_Play_go_c116_46
  refine pf_ck ?_
  refine pf_ltV (fun x_18 => ?_)
  refine pf_ltV (fun x_19 => ?_)
  refine pf_ck ?_
  refine pf_ltS (fs_su (hW.2 _ (by decide)) h) (fun s_21 hs_21 => ?_)
  refine pf_ck ?_
  refine pf_ltV (fun x_23 => ?_)
  refine pf_ck ?_
  refine pf_ltS (fs_su (hW.2 _ (by decide)) hs_21) (fun s_25 hs_25 => ?_)
  refine pf_ck ?_
  refine pf_ltV (fun x_27 => ?_)
  refine pf_if ?_ ?_
  · exact cf_Play_go_c116_95 hW hs_25
  · exact cf_Play_go_c116_95 hW hs_25
theorem cf_Play_go_c116 {W : Nat → Prop} (hW : gb_sc W) {n : Nat} {σ0 : gb_S} {σ : gb_S} {p1 : Int32} {p2 : Int32} {p3 : Int32} (h : gb_fs W σ0 σ) : gb_pf W σ0 (cs_Play_go_c116 n σ p1 p2 p3) := by
  unfold cs_Play_go_c116
  refine pf_kk (fun _ => ?_)
  refine pf_cd (cf_Border_miles_B hW h) (fun s_2 r_3 hs_2 => ?_)
  refine pf_kk (fun _ => ?_)
  refine pf_ck ?_
  refine pf_ltV (fun x_8 => ?_)
  refine pf_cd (cf_Border_marksOver_B hW hs_2) (fun s_9 r_10 hs_9 => ?_)
  refine pf_ck ?_
  refine pf_ltV (fun x_14 => ?_)
  refine pf_ck ?_
  refine pf_ltS (fs_su (hW.2 _ (by decide)) hs_9) (fun s_16 hs_16 => ?_)
  exact cf_Play_go_c116_46 hW hs_16
theorem cf_Play_go_c117_95 {W : Nat → Prop} (hW : gb_sc W) {n : Nat} {σ0 : gb_S} {σ : gb_S} {v1 : Int32} {v2 : Int32} {v3 : Int32} {t0 : Int32} {t1 : Int32} (h : gb_fs W σ0 σ) : gb_pf W σ0 (cs_Play_go_c117_95 n σ v1 v2 v3 t0 t1) := by
  unfold cs_Play_go_c117_95
  refine pf_ck ?_
  refine pf_ltS (fs_su (hW.2 _ (by decide)) h) (fun s_30 hs_30 => ?_)
  refine pf_ck ?_
  refine pf_ltS (fs_su (hW.2 _ (by decide)) hs_30) (fun s_32 hs_32 => ?_)
  refine pf_ck ?_
  refine pf_ltS (fs_su (hW.2 _ (by decide)) hs_32) (fun s_34 hs_34 => ?_)
  exact pf_some hs_34
theorem cf_Play_go_c117_46 {W : Nat → Prop} (hW : gb_sc W) {n : Nat} {σ0 : gb_S} {σ : gb_S} {v1 : Int32} {v2 : Int32} {v3 : Int32} {v5 : Int32} {v6 : Int32} (h : gb_fs W σ0 σ) : gb_pf W σ0 (cs_Play_go_c117_46 n σ v1 v2 v3 v5 v6) := by
  unfold cs_Play_go_c117_46
  refine pf_ck ?_
  refine pf_ltV (fun x_18 => ?_)
  refine pf_ltV (fun x_19 => ?_)
  refine pf_ck ?_
  refine pf_ltS (fs_su (hW.2 _ (by decide)) h) (fun s_21 hs_21 => ?_)
  refine pf_ck ?_
  refine pf_ltV (fun x_23 => ?_)
  refine pf_ck ?_
  refine pf_ltS (fs_su (hW.2 _ (by decide)) hs_21) (fun s_25 hs_25 => ?_)
  refine pf_ck ?_
  refine pf_ltV (fun x_27 => ?_)
  refine pf_if ?_ ?_
  · exact cf_Play_go_c117_95 hW hs_25
  · exact cf_Play_go_c117_95 hW hs_25
theorem cf_Play_go_c117 {W : Nat → Prop} (hW : gb_sc W) {n : Nat} {σ0 : gb_S} {σ : gb_S} {p1 : Int32} {p2 : Int32} {p3 : Int32} (h : gb_fs W σ0 σ) : gb_pf W σ0 (cs_Play_go_c117 n σ p1 p2 p3) := by
  unfold cs_Play_go_c117
  refine pf_kk (fun _ => ?_)
  refine pf_cd (cf_Border_miles_B hW h) (fun s_2 r_3 hs_2 => ?_)
  refine pf_kk (fun _ => ?_)
  refine pf_ck ?_
  refine pf_ltV (fun x_8 => ?_)
  refine pf_cd (cf_Border_marksOver_B hW hs_2) (fun s_9 r_10 hs_9 => ?_)
  refine pf_ck ?_
  refine pf_ltV (fun x_14 => ?_)
  refine pf_ck ?_
  refine pf_ltS (fs_su (hW.2 _ (by decide)) hs_9) (fun s_16 hs_16 => ?_)
  exact cf_Play_go_c117_46 hW hs_16
theorem cf_Play_rainDown_2 {W : Nat → Prop} (hW : gb_sc W) {n : Nat} {σ0 : gb_S} : ∀ (mm : Nat) (σ : gb_S) (v1 : Int32) (v2 : Int32), gb_fs W σ0 σ → gb_pf W σ0 (cs_Play_rainDown_2 n mm σ v1 v2) := by
  intro mm
  induction mm with
  | zero =>
    intros
    exact pf_none
  | succ mm ih =>
    intro σ v1 v2  h
    unfold cs_Play_rainDown_2
    refine pf_kk (fun _ => ?_)
    refine pf_cd (cf_Border_paths_B hW h) (fun s_2 r_3 hs_2 => ?_)
    refine pf_if ?_ ?_
    · exact pf_some hs_2
    · refine pf_ck ?_
      refine pf_ltV (fun x_8 => ?_)
      refine pf_ltE ?_
      refine pf_ck ?_
      refine pf_ltV (fun x_11 => ?_)
      refine pf_ltE ?_
      refine pf_ck ?_
      refine pf_ltV (fun x_14 => ?_)
      refine pf_ck ?_
      refine pf_ltS (fs_su (hW.2 _ (by decide)) hs_2) (fun s_16 hs_16 => ?_)
      refine pf_ck ?_
      refine pf_ltV (fun x_18 => ?_)
      refine pf_ck ?_
      refine pf_ltS (fs_su (hW.2 _ (by decide)) hs_16) (fun s_20 hs_20 => ?_)
      refine pf_ck ?_
      refine pf_ltV (fun x_22 => ?_)
      refine pf_ck ?_
      refine pf_ltS (fs_su (hW.2 _ (by decide)) hs_20) (fun s_24 hs_24 => ?_)
      refine pf_ltE ?_
      exact ih _ _ _ hs_24
theorem cf_Play_rainDown {W : Nat → Prop} (hW : gb_sc W) {n : Nat} {σ0 : gb_S} {σ : gb_S} {p1 : Int32} (h : gb_fs W σ0 σ) : gb_pf W σ0 (cs_Play_rainDown n σ p1) := by
  unfold cs_Play_rainDown
  exact cf_Play_rainDown_2 hW _ _ _ _ h
theorem cf_Play_eat {W : Nat → Prop} (hW : gb_sc W) {n : Nat} {σ0 : gb_S} {σ : gb_S} {p1 : Int32} (h : gb_fs W σ0 σ) : gb_pf W σ0 (cs_Play_eat n σ p1) := by
  unfold cs_Play_eat
  refine pf_kk (fun _ => ?_)
  refine pf_cd (cf_Border_hasGoose_B hW h) (fun s_2 r_3 hs_2 => ?_)
  refine pf_if ?_ ?_
  · exact pf_some hs_2
  · refine pf_ck ?_
    refine pf_ltS (fs_su (hW.2 _ (by decide)) hs_2) (fun s_8 hs_8 => ?_)
    exact pf_some hs_8
theorem cf_Play_doDeed_N {W : Nat → Prop} (hW : gb_sc W) {n : Nat} {σ0 : gb_S} {σ : gb_S} {p1 : Nat} {p2 : Int32} {p3 : Int32} (h : gb_fs W σ0 σ) : gb_pf W σ0 (cs_Play_doDeed_N n σ p1 p2 p3) := by
  unfold cs_Play_doDeed_N
  refine pf_kk (fun ck_p1 => ?_)
  refine pf_cd (cf_Lines_cell_N hW h) (fun s_2 r_3 hs_2 => ?_)
  refine pf_cd (cf_Lines_cell_N hW hs_2) (fun s_6 r_7 hs_6 => ?_)
  refine pf_cd (cf_Lines_kind_N hW hs_6) (fun s_10 r_11 hs_10 => ?_)
  refine pf_if ?_ ?_
  · refine pf_if ?_ ?_
    · refine pf_cd (cf_Play_go_n hW hs_10) (fun s_16 _ hs_16 => ?_)
      exact pf_some hs_16
    · refine pf_cd (cf_Play_go_c116 hW hs_10) (fun s_20 _ hs_20 => ?_)
      exact pf_some hs_20
  · refine pf_if ?_ ?_
    · refine pf_cd (cf_Play_go_c117 hW hs_10) (fun s_25 _ hs_25 => ?_)
      exact pf_some hs_25
    · refine pf_if ?_ ?_
      · refine pf_cd (cf_Play_go_c117 hW hs_10) (fun s_30 _ hs_30 => ?_)
        exact pf_some hs_30
      · refine pf_if ?_ ?_
        · refine pf_cd (cf_Lines_cell_N hW hs_10) (fun s_35 r_36 hs_35 => ?_)
          refine pf_cd (cf_Play_go_c116 hW hs_35) (fun s_39 _ hs_39 => ?_)
          refine pf_ck ?_
          refine pf_ltS (fs_su (hW.2 _ (by decide)) hs_39) (fun s_44 hs_44 => ?_)
          refine pf_cd (cf_Lines_cell_N hW hs_44) (fun s_45 r_46 hs_45 => ?_)
          refine pf_ck ?_
          refine pf_ltS (fs_su (hW.2 _ (by decide)) hs_45) (fun s_50 hs_50 => ?_)
          exact pf_some hs_50
        · refine pf_if ?_ ?_
          · refine pf_ck ?_
            refine pf_ltS (fs_su (hW.2 _ (by decide)) hs_10) (fun s_53 hs_53 => ?_)
            refine pf_ltS (fs_su (hW.2 _ (by decide)) hs_53) (fun s_54 hs_54 => ?_)
            exact pf_some hs_54
          · refine pf_if ?_ ?_
            · refine pf_cd (cf_Play_rainDown hW hs_10) (fun s_56 _ hs_56 => ?_)
              exact pf_some hs_56
            · refine pf_if ?_ ?_
              · refine pf_ltS (fs_su (hW.2 _ (by decide)) hs_10) (fun s_61 hs_61 => ?_)
                exact pf_some hs_61
              · refine pf_if ?_ ?_
                · refine pf_ltS (fs_su (hW.2 _ (by decide)) hs_10) (fun s_63 hs_63 => ?_)
                  exact pf_some hs_63
                · refine pf_if ?_ ?_
                  · refine pf_cd (cf_Play_latestGoer hW hs_10) (fun s_65 r_66 hs_65 => ?_)
                    refine pf_cd (cf_Play_eat hW hs_65) (fun s_69 _ hs_69 => ?_)
                    exact pf_some hs_69
                  · exact pf_some hs_10
theorem cf_Play_run_B_N_18 {W : Nat → Prop} (hW : gb_sc W) {n : Nat} {σ0 : gb_S} : ∀ (mm : Nat) (σ : gb_S) (v2 : Nat) (v4 : Int32) (v5 : Int32) (v6 : Int32), gb_fs W σ0 σ → gb_pf W σ0 (cs_Play_run_B_N_18 n mm σ v2 v4 v5 v6) := by
  intro mm
  induction mm with
  | zero =>
    intros
    exact pf_none
  | succ mm ih =>
    intro σ v2 v4 v5 v6  h
    unfold cs_Play_run_B_N_18
    refine pf_kk (fun ck_v2 => ?_)
    refine pf_if ?_ ?_
    · exact pf_some h
    · refine pf_cd (cf_Play_canBe_N hW h) (fun s_14 r_15 hs_14 => ?_)
      refine pf_if ?_ ?_
      · exact pf_some hs_14
      · refine pf_if ?_ ?_
        · refine pf_cd (cf_Play_doDeed_N hW hs_14) (fun s_20 _ hs_20 => ?_)
          refine pf_ltS (fs_su (hW.2 _ (by decide)) hs_20) (fun s_24 hs_24 => ?_)
          refine pf_ltE ?_
          exact ih _ _ _ _ _ hs_24
        · refine pf_cd (cf_Play_doDeed_N hW hs_14) (fun s_26 _ hs_26 => ?_)
          refine pf_ltS (fs_su (hW.2 _ (by decide)) hs_26) (fun s_30 hs_30 => ?_)
          refine pf_ltE ?_
          exact ih _ _ _ _ _ hs_30
theorem cf_Play_run_B_N {W : Nat → Prop} (hW : gb_sc W) {n : Nat} {σ0 : gb_S} {σ : gb_S} {p1 : Nat} {p2 : Nat} {p3 : Int32} {p4 : Int32} (h : gb_fs W σ0 σ) : gb_pf W σ0 (cs_Play_run_B_N n σ p1 p2 p3 p4) := by
  unfold cs_Play_run_B_N
  refine pf_kk (fun ck_p1 => ?_)
  refine pf_kk (fun ck_p2 => ?_)
  refine pf_cd (cf_Play_begin_B hW h) (fun s_3 _ hs_3 => ?_)
  refine pf_cd (cf_Lines_size_N hW hs_3) (fun s_7 r_8 hs_7 => ?_)
  refine pf_ltV (fun x_11 => ?_)
  exact cf_Play_run_B_N_18 hW _ _ _ _ _ _ hs_7
theorem cf_Face_playedOut_B_N {W : Nat → Prop} (hW : gb_sc W) {n : Nat} {σ0 : gb_S} {σ : gb_S} {p1 : Nat} {p2 : Nat} (h : gb_fs W σ0 σ) : gb_pf W σ0 (cs_Face_playedOut_B_N n σ p1 p2) := by
  unfold cs_Face_playedOut_B_N
  refine pf_kk (fun ck_p1 => ?_)
  refine pf_kk (fun ck_p2 => ?_)
  refine pf_cd (cf_Lines_size_N hW h) (fun s_3 r_4 hs_3 => ?_)
  refine pf_cd (cf_Play_run_B_N hW hs_3) (fun s_7 _ hs_7 => ?_)
  exact pf_some hs_7
theorem cf_Face_stop {W : Nat → Prop} (hW : gb_sc W) {n : Nat} {σ0 : gb_S} {σ : gb_S} {p1 : Int32} {p2 : Int32} (h : gb_fs W σ0 σ) : gb_pf W σ0 (cs_Face_stop n σ p1 p2) := by
  unfold cs_Face_stop
  refine pf_cd (cf_Face_borderAt hW h) (fun s_1 r_2 hs_1 => ?_)
  refine pf_if ?_ ?_
  · refine pf_cd (cf_Face_nightAt hW hs_1) (fun s_6 r_7 hs_6 => ?_)
    refine pf_if ?_ ?_
    · refine pf_cd (cf_Face_playedOut_n_n hW hs_6) (fun s_11 r_12 hs_11 => ?_)
      refine pf_if ?_ ?_
      · exact pf_some hs_11
      · exact pf_some hs_11
    · refine pf_kk (fun ck_r_7 => ?_)
      refine pf_cd (cf_Face_playedOut_n_N hW hs_6) (fun s_17 r_18 hs_17 => ?_)
      refine pf_if ?_ ?_
      · exact pf_some hs_17
      · exact pf_some hs_17
  · refine pf_kk (fun ck_r_2 => ?_)
    refine pf_cd (cf_Face_nightAt hW hs_1) (fun s_23 r_24 hs_23 => ?_)
    refine pf_if ?_ ?_
    · refine pf_cd (cf_Face_playedOut_B_n hW hs_23) (fun s_28 r_29 hs_28 => ?_)
      refine pf_if ?_ ?_
      · exact pf_some hs_28
      · exact pf_some hs_28
    · refine pf_kk (fun ck_r_24 => ?_)
      refine pf_cd (cf_Face_playedOut_B_N hW hs_23) (fun s_34 r_35 hs_34 => ?_)
      refine pf_if ?_ ?_
      · exact pf_some hs_34
      · exact pf_some hs_34
theorem cf_Face_playedTo_B_n {W : Nat → Prop} (hW : gb_sc W) {n : Nat} {σ0 : gb_S} {σ : gb_S} {p1 : Nat} {p3 : Int32} (h : gb_fs W σ0 σ) : gb_pf W σ0 (cs_Face_playedTo_B_n n σ p1 p3) := by
  unfold cs_Face_playedTo_B_n
  refine pf_kk (fun ck_p1 => ?_)
  exact pf_some h
theorem cf_Face_playedTo_B_N {W : Nat → Prop} (hW : gb_sc W) {n : Nat} {σ0 : gb_S} {σ : gb_S} {p1 : Nat} {p2 : Nat} {p3 : Int32} (h : gb_fs W σ0 σ) : gb_pf W σ0 (cs_Face_playedTo_B_N n σ p1 p2 p3) := by
  unfold cs_Face_playedTo_B_N
  refine pf_kk (fun ck_p1 => ?_)
  refine pf_kk (fun ck_p2 => ?_)
  refine pf_if ?_ ?_
  · exact pf_some h
  · refine pf_cd (cf_Lines_size_N hW h) (fun s_4 r_5 hs_4 => ?_)
    refine pf_if ?_ ?_
    · refine pf_cd (cf_Play_run_B_N hW hs_4) (fun s_9 _ hs_9 => ?_)
      refine pf_if ?_ ?_
      · exact pf_some hs_9
      · exact pf_some hs_9
    · exact pf_some hs_4
theorem cf_Face_goose {W : Nat → Prop} (hW : gb_sc W) {n : Nat} {σ0 : gb_S} {σ : gb_S} {p1 : Int32} {p2 : Int32} {p3 : Int32} {p4 : Int32} {p5 : Int32} (h : gb_fs W σ0 σ) : gb_pf W σ0 (cs_Face_goose n σ p1 p2 p3 p4 p5) := by
  unfold cs_Face_goose
  refine pf_cd (cf_Face_borderAt hW h) (fun s_1 r_2 hs_1 => ?_)
  refine pf_if ?_ ?_
  · exact pf_some hs_1
  · refine pf_kk (fun ck_r_2 => ?_)
    refine pf_cd (cf_Border_hasGoose_B hW hs_1) (fun s_7 r_8 hs_7 => ?_)
    refine pf_if ?_ ?_
    · exact pf_some hs_7
    · refine pf_cd (cf_Face_nightAt hW hs_7) (fun s_12 r_13 hs_12 => ?_)
      refine pf_if ?_ ?_
      · refine pf_cd (cf_Face_playedTo_B_n hW hs_12) (fun s_17 r_18 hs_17 => ?_)
        refine pf_if ?_ ?_
        · exact pf_some hs_17
        · refine pf_if ?_ ?_
          · refine pf_ck ?_
            refine pf_ltV (fun x_24 => ?_)
            exact pf_some hs_17
          · refine pf_if ?_ ?_
            · refine pf_ck ?_
              refine pf_ltV (fun x_27 => ?_)
              exact pf_some hs_17
            · refine pf_if ?_ ?_
              · refine pf_ck ?_
                refine pf_ltV (fun x_30 => ?_)
                exact pf_some hs_17
              · refine pf_if ?_ ?_
                · refine pf_ck ?_
                  refine pf_ltV (fun x_33 => ?_)
                  exact pf_some hs_17
                · exact pf_some hs_17
      · refine pf_kk (fun ck_r_13 => ?_)
        refine pf_cd (cf_Face_playedTo_B_N hW hs_12) (fun s_35 r_36 hs_35 => ?_)
        refine pf_if ?_ ?_
        · exact pf_some hs_35
        · refine pf_if ?_ ?_
          · refine pf_ck ?_
            refine pf_ltV (fun x_42 => ?_)
            exact pf_some hs_35
          · refine pf_if ?_ ?_
            · refine pf_ck ?_
              refine pf_ltV (fun x_45 => ?_)
              exact pf_some hs_35
            · refine pf_if ?_ ?_
              · refine pf_ck ?_
                refine pf_ltV (fun x_48 => ?_)
                exact pf_some hs_35
              · refine pf_if ?_ ?_
                · refine pf_ck ?_
                  refine pf_ltV (fun x_51 => ?_)
                  exact pf_some hs_35
                · exact pf_some hs_35
theorem cf_Play_tally {W : Nat → Prop} (hW : gb_sc W) {n : Nat} {σ0 : gb_S} {σ : gb_S} {p1 : Int32} (h : gb_fs W σ0 σ) : gb_pf W σ0 (cs_Play_tally n σ p1) := by
  unfold cs_Play_tally
  refine pf_ck ?_
  refine pf_ltV (fun x_2 => ?_)
  refine pf_ck ?_
  refine pf_ltV (fun x_4 => ?_)
  refine pf_ltV (fun x_5 => ?_)
  exact pf_some h
theorem cf_Face_path {W : Nat → Prop} (hW : gb_sc W) {n : Nat} {σ0 : gb_S} {σ : gb_S} {p1 : Int32} {p2 : Int32} {p3 : Int32} {p4 : Int32} {p5 : Int32} (h : gb_fs W σ0 σ) : gb_pf W σ0 (cs_Face_path n σ p1 p2 p3 p4 p5) := by
  unfold cs_Face_path
  refine pf_cd (cf_Face_borderAt hW h) (fun s_1 r_2 hs_1 => ?_)
  refine pf_if ?_ ?_
  · exact pf_some hs_1
  · refine pf_kk (fun ck_r_2 => ?_)
    refine pf_cd (cf_Border_hasPath_B hW hs_1) (fun s_7 r_8 hs_7 => ?_)
    refine pf_if ?_ ?_
    · exact pf_some hs_7
    · refine pf_cd (cf_Face_nightAt hW hs_7) (fun s_12 r_13 hs_12 => ?_)
      refine pf_if ?_ ?_
      · refine pf_cd (cf_Face_playedTo_B_n hW hs_12) (fun s_17 r_18 hs_17 => ?_)
        refine pf_if ?_ ?_
        · exact pf_some hs_17
        · refine pf_if ?_ ?_
          · refine pf_ck ?_
            refine pf_ltV (fun x_24 => ?_)
            exact pf_some hs_17
          · refine pf_if ?_ ?_
            · refine pf_ck ?_
              refine pf_ltV (fun x_27 => ?_)
              exact pf_some hs_17
            · refine pf_if ?_ ?_
              · refine pf_cd (cf_Play_tally hW hs_17) (fun s_29 r_30 hs_29 => ?_)
                exact pf_some hs_29
              · refine pf_if ?_ ?_
                · refine pf_cd (cf_Play_tally hW hs_17) (fun s_34 r_35 hs_34 => ?_)
                  refine pf_cd (cf_Border_padded_B hW hs_34) (fun s_38 r_39 hs_38 => ?_)
                  exact pf_some hs_38
                · refine pf_if ?_ ?_
                  · refine pf_cd (cf_Play_tally hW hs_17) (fun s_43 r_44 hs_43 => ?_)
                    refine pf_cd (cf_Border_payOf_B hW hs_43) (fun s_47 r_48 hs_47 => ?_)
                    exact pf_some hs_47
                  · refine pf_if ?_ ?_
                    · refine pf_ck ?_
                      refine pf_ltV (fun x_53 => ?_)
                      exact pf_some hs_17
                    · exact pf_some hs_17
      · refine pf_kk (fun ck_r_13 => ?_)
        refine pf_cd (cf_Face_playedTo_B_N hW hs_12) (fun s_55 r_56 hs_55 => ?_)
        refine pf_if ?_ ?_
        · exact pf_some hs_55
        · refine pf_if ?_ ?_
          · refine pf_ck ?_
            refine pf_ltV (fun x_62 => ?_)
            exact pf_some hs_55
          · refine pf_if ?_ ?_
            · refine pf_ck ?_
              refine pf_ltV (fun x_65 => ?_)
              exact pf_some hs_55
            · refine pf_if ?_ ?_
              · refine pf_cd (cf_Play_tally hW hs_55) (fun s_67 r_68 hs_67 => ?_)
                exact pf_some hs_67
              · refine pf_if ?_ ?_
                · refine pf_cd (cf_Play_tally hW hs_55) (fun s_72 r_73 hs_72 => ?_)
                  refine pf_cd (cf_Border_padded_B hW hs_72) (fun s_76 r_77 hs_76 => ?_)
                  exact pf_some hs_76
                · refine pf_if ?_ ?_
                  · refine pf_cd (cf_Play_tally hW hs_55) (fun s_81 r_82 hs_81 => ?_)
                    refine pf_cd (cf_Border_payOf_B hW hs_81) (fun s_85 r_86 hs_85 => ?_)
                    exact pf_some hs_85
                  · refine pf_if ?_ ?_
                    · refine pf_ck ?_
                      refine pf_ltV (fun x_91 => ?_)
                      exact pf_some hs_55
                    · exact pf_some hs_55
theorem cf_Play_whoIs_4 {W : Nat → Prop} (hW : gb_sc W) {n : Nat} {σ0 : gb_S} : ∀ (mm : Nat) (σ : gb_S) (v1 : Int32) (v2 : Int32) (v3 : Int32), gb_fs W σ0 σ → gb_pf W σ0 (cs_Play_whoIs_4 n mm σ v1 v2 v3) := by
  intro mm
  induction mm with
  | zero =>
    intros
    exact pf_none
  | succ mm ih =>
    intro σ v1 v2 v3  h
    unfold cs_Play_whoIs_4
    refine pf_kk (fun _ => ?_)
    refine pf_cd (cf_Border_geese_B hW h) (fun s_2 r_3 hs_2 => ?_)
    refine pf_if ?_ ?_
    · exact pf_some hs_2
    · refine pf_ck ?_
      refine pf_ltV (fun x_8 => ?_)
      refine pf_if ?_ ?_
      · refine pf_ltE ?_
        refine pf_ltE ?_
        exact ih _ _ _ _ hs_2
      · refine pf_ltE ?_
        exact ih _ _ _ _ hs_2
theorem cf_Play_whoIs {W : Nat → Prop} (hW : gb_sc W) {n : Nat} {σ0 : gb_S} {σ : gb_S} {p1 : Int32} (h : gb_fs W σ0 σ) : gb_pf W σ0 (cs_Play_whoIs n σ p1) := by
  unfold cs_Play_whoIs
  exact cf_Play_whoIs_4 hW _ _ _ _ _ h
theorem cf_Play_worn_43 {W : Nat → Prop} (hW : gb_sc W) {n : Nat} {σ0 : gb_S} {k4 : gb_S → Int32 → Int32 → gb_CR Int32} {σ : gb_S} {v1 : Int32} {v2 : Int32} {t0 : Int32} (h_k4 : ∀ (s : gb_S) (x1 : Int32) (x2 : Int32), gb_fs W σ0 s → gb_pf W σ0 (k4 s x1 x2)) (h : gb_fs W σ0 σ) : gb_pf W σ0 (cs_Play_worn_43 n k4 σ v1 v2 t0) := by
  unfold cs_Play_worn_43
  refine pf_if ?_ ?_
  · refine pf_ltE ?_
    exact h_k4 _ _ _ h
  · refine pf_ck ?_
    refine pf_ltV (fun x_16 => ?_)
    refine pf_if ?_ ?_
    · refine pf_ltE ?_
      refine pf_ltE ?_
      exact h_k4 _ _ _ h
    · refine pf_ltE ?_
      exact h_k4 _ _ _ h
theorem cf_Play_worn_38 {W : Nat → Prop} (hW : gb_sc W) {n : Nat} {σ0 : gb_S} {k4 : gb_S → Int32 → Int32 → gb_CR Int32} {σ : gb_S} {v1 : Int32} {v2 : Int32} (h_k4 : ∀ (s : gb_S) (x1 : Int32) (x2 : Int32), gb_fs W σ0 s → gb_pf W σ0 (k4 s x1 x2)) (h : gb_fs W σ0 σ) : gb_pf W σ0 (cs_Play_worn_38 n k4 σ v1 v2) := by
  unfold cs_Play_worn_38
  exact cf_Play_worn_43 hW h_k4 h
theorem cf_Play_worn_4 {W : Nat → Prop} (hW : gb_sc W) {n : Nat} {σ0 : gb_S} : ∀ (mm : Nat) (σ : gb_S) (v1 : Int32) (v2 : Int32), gb_fs W σ0 σ → gb_pf W σ0 (cs_Play_worn_4 n mm σ v1 v2) := by
  intro mm
  induction mm with
  | zero =>
    intros
    exact pf_none
  | succ mm ih =>
    intro σ v1 v2  h
    unfold cs_Play_worn_4
    refine pf_kk (fun _ => ?_)
    refine pf_cd (cf_Border_geese_B hW h) (fun s_2 r_3 hs_2 => ?_)
    refine pf_if ?_ ?_
    · exact pf_some hs_2
    · refine pf_kk (fun _ => ?_)
      refine pf_cd (cf_Border_boots_B hW hs_2) (fun s_8 r_9 hs_8 => ?_)
      refine pf_if ?_ ?_
      · refine cf_Play_worn_38 hW ?_ hs_8
        · intro σ v1 v2 hσ
          exact ih _ _ _ hσ
      · refine pf_if ?_ ?_
        · refine cf_Play_worn_38 hW ?_ hs_8
          · intro σ v1 v2 hσ
            exact ih _ _ _ hσ
        · refine cf_Play_worn_43 hW ?_ hs_8
          · intro σ v1 v2 hσ
            exact ih _ _ _ hσ
theorem cf_Play_worn {W : Nat → Prop} (hW : gb_sc W) {n : Nat} {σ0 : gb_S} {σ : gb_S} (h : gb_fs W σ0 σ) : gb_pf W σ0 (cs_Play_worn n σ) := by
  unfold cs_Play_worn
  exact cf_Play_worn_4 hW _ _ _ _ h
theorem cf_Play_payTold_14 {W : Nat → Prop} (hW : gb_sc W) {n : Nat} {σ0 : gb_S} {σ : gb_S} {v2 : Int32} {t0 : Int32} (h : gb_fs W σ0 σ) : gb_pf W σ0 (cs_Play_payTold_14 n σ v2 t0) := by
  unfold cs_Play_payTold_14
  refine pf_kk (fun _ => ?_)
  refine pf_cd (cf_Border_rate_B hW h) (fun s_3 r_4 hs_3 => ?_)
  refine pf_if ?_ ?_
  · refine pf_cd (cf_Play_tally hW hs_3) (fun s_8 r_9 hs_8 => ?_)
    exact pf_some hs_8
  · refine pf_kk (fun _ => ?_)
    refine pf_cd (cf_Play_tally hW hs_3) (fun s_13 r_14 hs_13 => ?_)
    refine pf_cd (cf_Border_padded_B hW hs_13) (fun s_17 r_18 hs_17 => ?_)
    exact pf_some hs_17
theorem cf_Play_payTold {W : Nat → Prop} (hW : gb_sc W) {n : Nat} {σ0 : gb_S} {σ : gb_S} {p1 : Int32} {p2 : Int32} (h : gb_fs W σ0 σ) : gb_pf W σ0 (cs_Play_payTold n σ p1 p2) := by
  unfold cs_Play_payTold
  refine pf_if ?_ ?_
  · exact cf_Play_payTold_14 hW h
  · exact cf_Play_payTold_14 hW h
theorem cf_Play_payBy_4 {W : Nat → Prop} (hW : gb_sc W) {n : Nat} {σ0 : gb_S} : ∀ (mm : Nat) (σ : gb_S) (v1 : Int32) (v2 : Int32) (v3 : Int32), gb_fs W σ0 σ → gb_pf W σ0 (cs_Play_payBy_4 n mm σ v1 v2 v3) := by
  intro mm
  induction mm with
  | zero =>
    intros
    exact pf_none
  | succ mm ih =>
    intro σ v1 v2 v3  h
    unfold cs_Play_payBy_4
    refine pf_kk (fun _ => ?_)
    refine pf_cd (cf_Border_paths_B hW h) (fun s_2 r_3 hs_2 => ?_)
    refine pf_if ?_ ?_
    · exact pf_some hs_2
    · refine pf_cd (cf_Play_payTold hW hs_2) (fun s_7 r_8 hs_7 => ?_)
      refine pf_ltE ?_
      refine pf_ltE ?_
      exact ih _ _ _ _ hs_7
theorem cf_Play_payBy {W : Nat → Prop} (hW : gb_sc W) {n : Nat} {σ0 : gb_S} {σ : gb_S} {p1 : Int32} (h : gb_fs W σ0 σ) : gb_pf W σ0 (cs_Play_payBy n σ p1) := by
  unfold cs_Play_payBy
  exact cf_Play_payBy_4 hW _ _ _ _ _ h
theorem cf_Play_allPay {W : Nat → Prop} (hW : gb_sc W) {n : Nat} {σ0 : gb_S} {σ : gb_S} (h : gb_fs W σ0 σ) : gb_pf W σ0 (cs_Play_allPay n σ) := by
  unfold cs_Play_allPay
  refine pf_kk (fun _ => ?_)
  refine pf_cd (cf_Border_paths_B hW h) (fun s_2 r_3 hs_2 => ?_)
  refine pf_cd (cf_Play_payBy hW hs_2) (fun s_6 r_7 hs_6 => ?_)
  exact pf_some hs_6
theorem cf_Face_state {W : Nat → Prop} (hW : gb_sc W) {n : Nat} {σ0 : gb_S} {σ : gb_S} {p1 : Int32} {p2 : Int32} {p3 : Int32} {p4 : Int32} (h : gb_fs W σ0 σ) : gb_pf W σ0 (cs_Face_state n σ p1 p2 p3 p4) := by
  unfold cs_Face_state
  refine pf_cd (cf_Face_borderAt hW h) (fun s_1 r_2 hs_1 => ?_)
  refine pf_if ?_ ?_
  · exact pf_some hs_1
  · refine pf_kk (fun ck_r_2 => ?_)
    refine pf_cd (cf_Face_nightAt hW hs_1) (fun s_7 r_8 hs_7 => ?_)
    refine pf_if ?_ ?_
    · refine pf_cd (cf_Face_playedTo_B_n hW hs_7) (fun s_12 r_13 hs_12 => ?_)
      refine pf_if ?_ ?_
      · exact pf_some hs_12
      · refine pf_if ?_ ?_
        · refine pf_cd (cf_Play_whoIs hW hs_12) (fun s_18 r_19 hs_18 => ?_)
          exact pf_some hs_18
        · refine pf_if ?_ ?_
          · refine pf_cd (cf_Play_whoIs hW hs_12) (fun s_23 r_24 hs_23 => ?_)
            exact pf_some hs_23
          · refine pf_if ?_ ?_
            · refine pf_cd (cf_Play_whoIs hW hs_12) (fun s_28 r_29 hs_28 => ?_)
              exact pf_some hs_28
            · refine pf_if ?_ ?_
              · refine pf_cd (cf_Play_whoIs hW hs_12) (fun s_33 r_34 hs_33 => ?_)
                refine pf_cd (cf_Border_worthOf_B hW hs_33) (fun s_37 r_38 hs_37 => ?_)
                exact pf_some hs_37
              · refine pf_if ?_ ?_
                · refine pf_cd (cf_Play_whoIs hW hs_12) (fun s_42 r_43 hs_42 => ?_)
                  refine pf_cd (cf_Border_worthOf_B hW hs_42) (fun s_46 r_47 hs_46 => ?_)
                  exact pf_some hs_46
                · refine pf_if ?_ ?_
                  · refine pf_cd (cf_Play_whoIs hW hs_12) (fun s_51 r_52 hs_51 => ?_)
                    refine pf_cd (cf_Border_worthOf_B hW hs_51) (fun s_55 r_56 hs_55 => ?_)
                    exact pf_some hs_55
                  · refine pf_if ?_ ?_
                    · refine pf_cd (cf_Play_worn hW hs_12) (fun s_60 r_61 hs_60 => ?_)
                      exact pf_some hs_60
                    · refine pf_if ?_ ?_
                      · refine pf_cd (cf_Play_allPay hW hs_12) (fun s_65 r_66 hs_65 => ?_)
                        exact pf_some hs_65
                      · refine pf_if ?_ ?_
                        · refine pf_if ?_ ?_
                          · exact pf_some hs_12
                          · exact pf_some hs_12
                        · exact pf_some hs_12
    · refine pf_kk (fun ck_r_8 => ?_)
      refine pf_cd (cf_Face_playedTo_B_N hW hs_7) (fun s_72 r_73 hs_72 => ?_)
      refine pf_if ?_ ?_
      · exact pf_some hs_72
      · refine pf_if ?_ ?_
        · refine pf_cd (cf_Play_whoIs hW hs_72) (fun s_78 r_79 hs_78 => ?_)
          exact pf_some hs_78
        · refine pf_if ?_ ?_
          · refine pf_cd (cf_Play_whoIs hW hs_72) (fun s_83 r_84 hs_83 => ?_)
            exact pf_some hs_83
          · refine pf_if ?_ ?_
            · refine pf_cd (cf_Play_whoIs hW hs_72) (fun s_88 r_89 hs_88 => ?_)
              exact pf_some hs_88
            · refine pf_if ?_ ?_
              · refine pf_cd (cf_Play_whoIs hW hs_72) (fun s_93 r_94 hs_93 => ?_)
                refine pf_cd (cf_Border_worthOf_B hW hs_93) (fun s_97 r_98 hs_97 => ?_)
                exact pf_some hs_97
              · refine pf_if ?_ ?_
                · refine pf_cd (cf_Play_whoIs hW hs_72) (fun s_102 r_103 hs_102 => ?_)
                  refine pf_cd (cf_Border_worthOf_B hW hs_102) (fun s_106 r_107 hs_106 => ?_)
                  exact pf_some hs_106
                · refine pf_if ?_ ?_
                  · refine pf_cd (cf_Play_whoIs hW hs_72) (fun s_111 r_112 hs_111 => ?_)
                    refine pf_cd (cf_Border_worthOf_B hW hs_111) (fun s_115 r_116 hs_115 => ?_)
                    exact pf_some hs_115
                  · refine pf_if ?_ ?_
                    · refine pf_cd (cf_Play_worn hW hs_72) (fun s_120 r_121 hs_120 => ?_)
                      exact pf_some hs_120
                    · refine pf_if ?_ ?_
                      · refine pf_cd (cf_Play_allPay hW hs_72) (fun s_125 r_126 hs_125 => ?_)
                        exact pf_some hs_125
                      · refine pf_if ?_ ?_
                        · refine pf_if ?_ ?_
                          · exact pf_some hs_72
                          · exact pf_some hs_72
                        · exact pf_some hs_72
theorem cf_Play_taken_14 {W : Nat → Prop} (hW : gb_sc W) {n : Nat} {σ0 : gb_S} {σ : gb_S} {v1 : Int32} {v2 : Int32} {t0 : Int32} (h : gb_fs W σ0 σ) : gb_pf W σ0 (cs_Play_taken_14 n σ v1 v2 t0) := by
  unfold cs_Play_taken_14
  refine pf_if ?_ ?_
  · refine pf_if ?_ ?_
    · refine pf_cd (cf_Play_payTold hW h) (fun s_4 r_5 hs_4 => ?_)
      exact pf_some hs_4
    · exact pf_some h
  · refine pf_kk (fun _ => ?_)
    refine pf_cd (cf_Border_cap_B hW h) (fun s_9 r_10 hs_9 => ?_)
    refine pf_if ?_ ?_
    · refine pf_if ?_ ?_
      · refine pf_cd (cf_Play_payTold hW hs_9) (fun s_15 r_16 hs_15 => ?_)
        exact pf_some hs_15
      · exact pf_some hs_9
    · refine pf_cd (cf_Play_payBy hW hs_9) (fun s_19 r_20 hs_19 => ?_)
      refine pf_kk (fun _ => ?_)
      refine pf_cd (cf_Border_cap_B hW hs_19) (fun s_24 r_25 hs_24 => ?_)
      refine pf_if ?_ ?_
      · refine pf_if ?_ ?_
        · refine pf_cd (cf_Play_payTold hW hs_24) (fun s_30 r_31 hs_30 => ?_)
          exact pf_some hs_30
        · exact pf_some hs_24
      · refine pf_if ?_ ?_
        · refine pf_cd (cf_Play_payTold hW hs_24) (fun s_35 r_36 hs_35 => ?_)
          exact pf_some hs_35
        · exact pf_some hs_24
theorem cf_Play_taken {W : Nat → Prop} (hW : gb_sc W) {n : Nat} {σ0 : gb_S} {σ : gb_S} {p1 : Int32} {p2 : Int32} (h : gb_fs W σ0 σ) : gb_pf W σ0 (cs_Play_taken n σ p1 p2) := by
  unfold cs_Play_taken
  refine pf_if ?_ ?_
  · exact cf_Play_taken_14 hW h
  · exact cf_Play_taken_14 hW h
theorem cf_Play_isAtRest_2 {W : Nat → Prop} (hW : gb_sc W) {n : Nat} {σ0 : gb_S} : ∀ (mm : Nat) (σ : gb_S) (v1 : Int32) (v2 : Int32), gb_fs W σ0 σ → gb_pf W σ0 (cs_Play_isAtRest_2 n mm σ v1 v2) := by
  intro mm
  induction mm with
  | zero =>
    intros
    exact pf_none
  | succ mm ih =>
    intro σ v1 v2  h
    unfold cs_Play_isAtRest_2
    refine pf_kk (fun _ => ?_)
    refine pf_cd (cf_Border_paths_B hW h) (fun s_2 r_3 hs_2 => ?_)
    refine pf_if ?_ ?_
    · exact pf_some hs_2
    · refine pf_cd (cf_Play_taken hW hs_2) (fun s_7 r_8 hs_7 => ?_)
      refine pf_cd (cf_Play_taken hW hs_7) (fun s_11 r_12 hs_11 => ?_)
      refine pf_if ?_ ?_
      · refine pf_ltE ?_
        exact ih _ _ _ hs_11
      · exact pf_some hs_11
theorem cf_Play_isAtRest {W : Nat → Prop} (hW : gb_sc W) {n : Nat} {σ0 : gb_S} {σ : gb_S} {p1 : Int32} (h : gb_fs W σ0 σ) : gb_pf W σ0 (cs_Play_isAtRest n σ p1) := by
  unfold cs_Play_isAtRest
  exact cf_Play_isAtRest_2 hW _ _ _ _ h
theorem cf_Face_rest_49 {W : Nat → Prop} (hW : gb_sc W) {n : Nat} {σ0 : gb_S} : ∀ (mm : Nat) (σ : gb_S) (v3 : Int32) (v5 : Int32) (v6 : Int32) (v7 : Int32), gb_fs W σ0 σ → gb_pf W σ0 (cs_Face_rest_49 n mm σ v3 v5 v6 v7) := by
  intro mm
  induction mm with
  | zero =>
    intros
    exact pf_none
  | succ mm ih =>
    intro σ v3 v5 v6 v7  h
    unfold cs_Face_rest_49
    refine pf_if ?_ ?_
    · refine pf_if ?_ ?_
      · exact pf_some h
      · exact pf_some h
    · refine pf_cd (cf_Play_isAtRest hW h) (fun s_26 r_27 hs_26 => ?_)
      refine pf_if ?_ ?_
      · refine pf_ltE ?_
        exact ih _ _ _ _ _ hs_26
      · refine pf_if ?_ ?_
        · exact pf_some hs_26
        · refine pf_ltE ?_
          refine pf_ltE ?_
          exact ih _ _ _ _ _ hs_26
theorem cf_Face_rest {W : Nat → Prop} (hW : gb_sc W) {n : Nat} {σ0 : gb_S} {σ : gb_S} {p1 : Int32} {p2 : Int32} {p3 : Int32} (h : gb_fs W σ0 σ) : gb_pf W σ0 (cs_Face_rest n σ p1 p2 p3) := by
  unfold cs_Face_rest
  refine pf_cd (cf_Face_borderAt hW h) (fun s_1 r_2 hs_1 => ?_)
  refine pf_if ?_ ?_
  · refine pf_if ?_ ?_
    · exact pf_some hs_1
    · exact pf_some hs_1
  · refine pf_kk (fun ck_r_2 => ?_)
    refine pf_if ?_ ?_
    · exact pf_some hs_1
    · refine pf_cd (cf_Face_nightAt hW hs_1) (fun s_9 r_10 hs_9 => ?_)
      refine pf_if ?_ ?_
      · refine pf_cd (cf_Face_playedOut_B_n hW hs_9) (fun s_14 r_15 hs_14 => ?_)
        refine pf_if ?_ ?_
        · exact pf_some hs_14
        · refine pf_cd (cf_Border_paths_B hW hs_14) (fun s_19 r_20 hs_19 => ?_)
          refine pf_ltE ?_
          exact cf_Face_rest_49 hW _ _ _ _ _ _ hs_19
      · refine pf_kk (fun ck_r_10 => ?_)
        refine pf_cd (cf_Face_playedOut_B_N hW hs_9) (fun s_36 r_37 hs_36 => ?_)
        refine pf_if ?_ ?_
        · exact pf_some hs_36
        · refine pf_cd (cf_Border_paths_B hW hs_36) (fun s_41 r_42 hs_41 => ?_)
          refine pf_ltE ?_
          exact cf_Face_rest_49 hW _ _ _ _ _ _ hs_41
theorem cf_Face_take {W : Nat → Prop} (hW : gb_sc W) {n : Nat} {σ0 : gb_S} {σ : gb_S} {p1 : Int32} {p2 : Int32} {p3 : Int32} {p4 : Int32} (h : gb_fs W σ0 σ) : gb_pf W σ0 (cs_Face_take n σ p1 p2 p3 p4) := by
  unfold cs_Face_take
  refine pf_cd (cf_Face_borderAt hW h) (fun s_1 r_2 hs_1 => ?_)
  refine pf_if ?_ ?_
  · exact pf_some hs_1
  · refine pf_kk (fun ck_r_2 => ?_)
    refine pf_cd (cf_Border_hasPath_B hW hs_1) (fun s_7 r_8 hs_7 => ?_)
    refine pf_if ?_ ?_
    · exact pf_some hs_7
    · refine pf_if ?_ ?_
      · exact pf_some hs_7
      · refine pf_cd (cf_Border_paths_B hW hs_7) (fun s_13 r_14 hs_13 => ?_)
        refine pf_if ?_ ?_
        · refine pf_cd (cf_Face_nightAt hW hs_13) (fun s_18 r_19 hs_18 => ?_)
          refine pf_if ?_ ?_
          · refine pf_cd (cf_Face_playedOut_B_n hW hs_18) (fun s_23 r_24 hs_23 => ?_)
            refine pf_if ?_ ?_
            · exact pf_some hs_23
            · refine pf_cd (cf_Play_taken hW hs_23) (fun s_28 r_29 hs_28 => ?_)
              exact pf_some hs_28
          · refine pf_kk (fun ck_r_19 => ?_)
            refine pf_cd (cf_Face_playedOut_B_N hW hs_18) (fun s_33 r_34 hs_33 => ?_)
            refine pf_if ?_ ?_
            · exact pf_some hs_33
            · refine pf_cd (cf_Play_taken hW hs_33) (fun s_38 r_39 hs_38 => ?_)
              exact pf_some hs_38
        · exact pf_some hs_13
theorem cf_Face_honest {W : Nat → Prop} (hW : gb_sc W) {n : Nat} {σ0 : gb_S} {σ : gb_S} {p1 : Int32} {p2 : Int32} {p3 : Int32} (h : gb_fs W σ0 σ) : gb_pf W σ0 (cs_Face_honest n σ p1 p2 p3) := by
  unfold cs_Face_honest
  refine pf_cd (cf_Face_borderAt hW h) (fun s_1 r_2 hs_1 => ?_)
  refine pf_if ?_ ?_
  · exact pf_some hs_1
  · refine pf_kk (fun ck_r_2 => ?_)
    refine pf_cd (cf_Border_hasPath_B hW hs_1) (fun s_7 r_8 hs_7 => ?_)
    refine pf_if ?_ ?_
    · exact pf_some hs_7
    · refine pf_cd (cf_Face_nightAt hW hs_7) (fun s_12 r_13 hs_12 => ?_)
      refine pf_if ?_ ?_
      · refine pf_cd (cf_Face_playedOut_B_n hW hs_12) (fun s_17 r_18 hs_17 => ?_)
        refine pf_if ?_ ?_
        · exact pf_some hs_17
        · refine pf_cd (cf_Play_tally hW hs_17) (fun s_22 r_23 hs_22 => ?_)
          refine pf_cd (cf_Border_payOf_B hW hs_22) (fun s_26 r_27 hs_26 => ?_)
          refine pf_cd (cf_Border_rate_B hW hs_26) (fun s_30 r_31 hs_30 => ?_)
          exact pf_some hs_30
      · refine pf_kk (fun ck_r_13 => ?_)
        refine pf_cd (cf_Face_playedOut_B_N hW hs_12) (fun s_35 r_36 hs_35 => ?_)
        refine pf_if ?_ ?_
        · exact pf_some hs_35
        · refine pf_cd (cf_Play_tally hW hs_35) (fun s_40 r_41 hs_40 => ?_)
          refine pf_cd (cf_Border_payOf_B hW hs_40) (fun s_44 r_45 hs_44 => ?_)
          refine pf_cd (cf_Border_rate_B hW hs_44) (fun s_48 r_49 hs_48 => ?_)
          exact pf_some hs_48
theorem cf_Dawn_marksSeen_D {W : Nat → Prop} (hW : gb_sc W) {n : Nat} {σ0 : gb_S} {σ : gb_S} {k0 : Nat} {p1 : Int32} (h : gb_fs W σ0 σ) : gb_pf W σ0 (cs_Dawn_marksSeen_D n σ k0 p1) := by
  unfold cs_Dawn_marksSeen_D
  refine pf_kk (fun ck_k0 => ?_)
  refine pf_cd (cf_Lines_cell_D hW h) (fun s_2 r_3 hs_2 => ?_)
  exact pf_some hs_2
theorem cf_Dawn_leftOn_D_2 {W : Nat → Prop} (hW : gb_sc W) {n : Nat} {σ0 : gb_S} : ∀ (mm : Nat) (σ : gb_S) (v0 : Nat) (v1 : Int32) (v2 : Int32), gb_fs W σ0 σ → gb_pf W σ0 (cs_Dawn_leftOn_D_2 n mm σ v0 v1 v2) := by
  intro mm
  induction mm with
  | zero =>
    intros
    exact pf_none
  | succ mm ih =>
    intro σ v0 v1 v2  h
    unfold cs_Dawn_leftOn_D_2
    refine pf_kk (fun ck_v0 => ?_)
    refine pf_cd (cf_Lines_size_D hW h) (fun s_3 r_4 hs_3 => ?_)
    refine pf_if ?_ ?_
    · exact pf_some hs_3
    · refine pf_cd (cf_Dawn_pathSeen_D hW hs_3) (fun s_8 r_9 hs_8 => ?_)
      refine pf_if ?_ ?_
      · refine pf_cd (cf_Dawn_marksSeen_D hW hs_8) (fun s_14 r_15 hs_14 => ?_)
        exact pf_some hs_14
      · refine pf_ltE ?_
        exact ih _ _ _ _ hs_8
theorem cf_Dawn_leftOn_D {W : Nat → Prop} (hW : gb_sc W) {n : Nat} {σ0 : gb_S} {σ : gb_S} {k0 : Nat} {p1 : Int32} (h : gb_fs W σ0 σ) : gb_pf W σ0 (cs_Dawn_leftOn_D n σ k0 p1) := by
  unfold cs_Dawn_leftOn_D
  refine pf_kk (fun ck_k0 => ?_)
  exact cf_Dawn_leftOn_D_2 hW _ _ _ _ _ h
theorem cf_Face_lacks_46 {W : Nat → Prop} (hW : gb_sc W) {n : Nat} {σ0 : gb_S} : ∀ (mm : Nat) (σ : gb_S) (v4 : Nat) (v5 : Nat) (v6 : Int32) (v7 : Int32), gb_fs W σ0 σ → gb_pf W σ0 (cs_Face_lacks_46 n mm σ v4 v5 v6 v7) := by
  intro mm
  induction mm with
  | zero =>
    intros
    exact pf_none
  | succ mm ih =>
    intro σ v4 v5 v6 v7  h
    unfold cs_Face_lacks_46
    refine pf_kk (fun ck_v4 => ?_)
    refine pf_kk (fun ck_v5 => ?_)
    refine pf_cd (cf_Border_paths_B hW h) (fun s_31 r_32 hs_31 => ?_)
    refine pf_if ?_ ?_
    · exact pf_some hs_31
    · refine pf_cd (cf_Dawn_leftOn_D hW hs_31) (fun s_36 r_37 hs_36 => ?_)
      refine pf_cd (cf_Play_tally hW hs_36) (fun s_40 r_41 hs_40 => ?_)
      refine pf_if ?_ ?_
      · refine pf_ltE ?_
        exact ih _ _ _ _ _ hs_40
      · refine pf_ltE ?_
        refine pf_ltE ?_
        exact ih _ _ _ _ _ hs_40
theorem cf_Face_lacks {W : Nat → Prop} (hW : gb_sc W) {n : Nat} {σ0 : gb_S} {σ : gb_S} {p1 : Int32} {p2 : Int32} {p3 : Int32} (h : gb_fs W σ0 σ) : gb_pf W σ0 (cs_Face_lacks n σ p1 p2 p3) := by
  unfold cs_Face_lacks
  refine pf_cd (cf_Face_borderAt hW h) (fun s_1 r_2 hs_1 => ?_)
  refine pf_if ?_ ?_
  · refine pf_cd (cf_Face_dawnAt hW hs_1) (fun s_6 r_7 hs_6 => ?_)
    refine pf_if ?_ ?_
    · exact pf_some hs_6
    · refine pf_kk (fun ck_r_7 => ?_)
      exact pf_some hs_6
  · refine pf_kk (fun ck_r_2 => ?_)
    refine pf_cd (cf_Face_dawnAt hW hs_1) (fun s_13 r_14 hs_13 => ?_)
    refine pf_if ?_ ?_
    · exact pf_some hs_13
    · refine pf_kk (fun ck_r_14 => ?_)
      refine pf_cd (cf_Face_nightAt hW hs_13) (fun s_19 r_20 hs_19 => ?_)
      refine pf_if ?_ ?_
      · refine pf_cd (cf_Face_playedOut_B_n hW hs_19) (fun s_24 r_25 hs_24 => ?_)
        refine pf_if ?_ ?_
        · exact pf_some hs_24
        · exact cf_Face_lacks_46 hW _ _ _ _ _ _ hs_24
      · refine pf_kk (fun ck_r_20 => ?_)
        refine pf_cd (cf_Face_playedOut_B_N hW hs_19) (fun s_49 r_50 hs_49 => ?_)
        refine pf_if ?_ ?_
        · exact pf_some hs_49
        · exact cf_Face_lacks_46 hW _ _ _ _ _ _ hs_49
theorem cf_Face_who_58 {W : Nat → Prop} (hW : gb_sc W) {n : Nat} {σ0 : gb_S} : ∀ (mm : Nat) (σ : gb_S) (v3 : Int32) (v4 : Int32) (v5 : Nat) (v6 : Nat) (v7 : Int32) (v8 : Int32), gb_fs W σ0 σ → gb_pf W σ0 (cs_Face_who_58 n mm σ v3 v4 v5 v6 v7 v8) := by
  intro mm
  induction mm with
  | zero =>
    intros
    exact pf_none
  | succ mm ih =>
    intro σ v3 v4 v5 v6 v7 v8  h
    unfold cs_Face_who_58
    refine pf_kk (fun ck_v5 => ?_)
    refine pf_kk (fun ck_v6 => ?_)
    refine pf_if ?_ ?_
    · exact pf_some h
    · refine pf_cd (cf_Lines_kind_N hW h) (fun s_33 r_34 hs_33 => ?_)
      refine pf_if ?_ ?_
      · refine pf_cd (cf_Lines_cell_N hW hs_33) (fun s_39 r_40 hs_39 => ?_)
        refine pf_if ?_ ?_
        · refine pf_cd (cf_Play_run_B_N hW hs_39) (fun s_45 _ hs_45 => ?_)
          refine pf_cd (cf_Play_tally hW hs_45) (fun s_49 r_50 hs_49 => ?_)
          refine pf_if ?_ ?_
          · exact pf_some hs_49
          · refine pf_ltE ?_
            exact ih _ _ _ _ _ _ _ hs_49
        · refine pf_ltE ?_
          exact ih _ _ _ _ _ _ _ hs_39
      · refine pf_ltE ?_
        exact ih _ _ _ _ _ _ _ hs_33
theorem cf_Face_who {W : Nat → Prop} (hW : gb_sc W) {n : Nat} {σ0 : gb_S} {σ : gb_S} {p1 : Int32} {p2 : Int32} {p3 : Int32} {p4 : Int32} (h : gb_fs W σ0 σ) : gb_pf W σ0 (cs_Face_who n σ p1 p2 p3 p4) := by
  unfold cs_Face_who
  refine pf_cd (cf_Face_borderAt hW h) (fun s_1 r_2 hs_1 => ?_)
  refine pf_if ?_ ?_
  · refine pf_cd (cf_Face_nightAt hW hs_1) (fun s_6 r_7 hs_6 => ?_)
    refine pf_if ?_ ?_
    · exact pf_some hs_6
    · refine pf_kk (fun ck_r_7 => ?_)
      exact pf_some hs_6
  · refine pf_kk (fun ck_r_2 => ?_)
    refine pf_cd (cf_Face_nightAt hW hs_1) (fun s_13 r_14 hs_13 => ?_)
    refine pf_if ?_ ?_
    · exact pf_some hs_13
    · refine pf_kk (fun ck_r_14 => ?_)
      refine pf_cd (cf_Border_hasPath_B hW hs_13) (fun s_19 r_20 hs_19 => ?_)
      refine pf_if ?_ ?_
      · exact pf_some hs_19
      · refine pf_cd (cf_Face_playedOut_B_N hW hs_19) (fun s_24 r_25 hs_24 => ?_)
        refine pf_if ?_ ?_
        · exact pf_some hs_24
        · refine pf_ltV (fun x_29 => ?_)
          exact cf_Face_who_58 hW _ _ _ _ _ _ _ _ hs_24
theorem cf_Lines_size {W : Nat → Prop} (hW : gb_sc W) {n : Nat} {σ0 : gb_S} {σ : gb_S} (h : gb_fs W σ0 σ) : gb_pf W σ0 (cs_Lines_size n σ) := by
  unfold cs_Lines_size
  refine pf_ltV (fun x_1 => ?_)
  exact pf_some h
theorem cf_Night_changeWithNext_31 {W : Nat → Prop} (hW : gb_sc W) {n : Nat} {σ0 : gb_S} : ∀ (mm : Nat) (σ : gb_S) (v2 : Int32) (v3 : Int32) (v4 : Int32), gb_fs W σ0 σ → gb_pf W σ0 (cs_Night_changeWithNext_31 n mm σ v2 v3 v4) := by
  intro mm
  induction mm with
  | zero =>
    intros
    exact pf_none
  | succ mm ih =>
    intro σ v2 v3 v4  h
    unfold cs_Night_changeWithNext_31
    refine pf_if ?_ ?_
    · exact pf_some h
    · refine pf_ck ?_
      refine pf_ltV (fun x_11 => ?_)
      refine pf_ck ?_
      refine pf_ltV (fun x_13 => ?_)
      refine pf_ck ?_
      refine pf_ltS (fs_su (hW.2 _ (by decide)) h) (fun s_15 hs_15 => ?_)
      refine pf_ck ?_
      refine pf_ltS (fs_su (hW.2 _ (by decide)) hs_15) (fun s_17 hs_17 => ?_)
      refine pf_ltE ?_
      exact ih _ _ _ _ hs_17
theorem cf_Night_changeWithNext {W : Nat → Prop} (hW : gb_sc W) {n : Nat} {σ0 : gb_S} {σ : gb_S} {p1 : Int32} (h : gb_fs W σ0 σ) : gb_pf W σ0 (cs_Night_changeWithNext n σ p1) := by
  unfold cs_Night_changeWithNext
  refine pf_if ?_ ?_
  · exact pf_some h
  · refine pf_cd (cf_Lines_size hW h) (fun s_2 r_3 hs_2 => ?_)
    refine pf_if ?_ ?_
    · refine pf_ltE ?_
      refine pf_ltE ?_
      exact cf_Night_changeWithNext_31 hW _ _ _ _ _ hs_2
    · exact pf_some hs_2
theorem cf_Lines_cell {W : Nat → Prop} (hW : gb_sc W) {n : Nat} {σ0 : gb_S} {σ : gb_S} {p1 : Int32} {p2 : Int32} (h : gb_fs W σ0 σ) : gb_pf W σ0 (cs_Lines_cell n σ p1 p2) := by
  unfold cs_Lines_cell
  refine pf_ck ?_
  refine pf_ltV (fun x_2 => ?_)
  exact pf_some h
theorem cf_Lines_kind {W : Nat → Prop} (hW : gb_sc W) {n : Nat} {σ0 : gb_S} {σ : gb_S} {p1 : Int32} (h : gb_fs W σ0 σ) : gb_pf W σ0 (cs_Lines_kind n σ p1) := by
  unfold cs_Lines_kind
  refine pf_cd (cf_Lines_cell hW h) (fun s_1 r_2 hs_1 => ?_)
  exact pf_some hs_1
theorem cf_Play_canBe_c104 {W : Nat → Prop} (hW : gb_sc W) {n : Nat} {σ0 : gb_S} {σ : gb_S} {p2 : Int32} (h : gb_fs W σ0 σ) : gb_pf W σ0 (cs_Play_canBe_c104 n σ p2) := by
  unfold cs_Play_canBe_c104
  refine pf_cd (cf_Lines_cell hW h) (fun s_1 r_2 hs_1 => ?_)
  refine pf_cd (cf_Lines_cell hW hs_1) (fun s_5 r_6 hs_5 => ?_)
  refine pf_cd (cf_Lines_kind hW hs_5) (fun s_9 r_10 hs_9 => ?_)
  refine pf_if ?_ ?_
  · refine pf_cd (cf_Play_stands hW hs_9) (fun s_14 r_15 hs_14 => ?_)
    refine pf_if ?_ ?_
    · exact pf_some hs_14
    · refine pf_kk (fun _ => ?_)
      refine pf_cd (cf_Border_hasPath_B hW hs_14) (fun s_20 r_21 hs_20 => ?_)
      refine pf_if ?_ ?_
      · exact pf_some hs_20
      · exact pf_some hs_20
  · refine pf_if ?_ ?_
    · refine pf_cd (cf_Play_stands hW hs_9) (fun s_26 r_27 hs_26 => ?_)
      refine pf_if ?_ ?_
      · exact pf_some hs_26
      · refine pf_kk (fun _ => ?_)
        refine pf_cd (cf_Border_hasPath_B hW hs_26) (fun s_32 r_33 hs_32 => ?_)
        refine pf_if ?_ ?_
        · exact pf_some hs_32
        · exact pf_some hs_32
    · refine pf_if ?_ ?_
      · refine pf_cd (cf_Play_stands hW hs_9) (fun s_38 r_39 hs_38 => ?_)
        refine pf_if ?_ ?_
        · exact pf_some hs_38
        · refine pf_kk (fun _ => ?_)
          refine pf_cd (cf_Border_hasPath_B hW hs_38) (fun s_44 r_45 hs_44 => ?_)
          refine pf_if ?_ ?_
          · exact pf_some hs_44
          · exact pf_some hs_44
      · refine pf_if ?_ ?_
        · refine pf_cd (cf_Play_stands hW hs_9) (fun s_50 r_51 hs_50 => ?_)
          refine pf_if ?_ ?_
          · exact pf_some hs_50
          · refine pf_cd (cf_Play_stands hW hs_50) (fun s_55 r_56 hs_55 => ?_)
            refine pf_if ?_ ?_
            · exact pf_some hs_55
            · refine pf_kk (fun _ => ?_)
              refine pf_cd (cf_Lines_cell hW hs_55) (fun s_61 r_62 hs_61 => ?_)
              refine pf_cd (cf_Border_hasPath_B hW hs_61) (fun s_65 r_66 hs_65 => ?_)
              refine pf_if ?_ ?_
              · exact pf_some hs_65
              · exact pf_some hs_65
        · refine pf_if ?_ ?_
          · refine pf_cd (cf_Play_stands hW hs_9) (fun s_71 r_72 hs_71 => ?_)
            refine pf_if ?_ ?_
            · refine pf_cd (cf_Play_stands hW hs_71) (fun s_76 r_77 hs_76 => ?_)
              refine pf_if ?_ ?_
              · exact pf_some hs_76
              · exact pf_some hs_76
            · exact pf_some hs_71
          · refine pf_if ?_ ?_
            · exact pf_some hs_9
            · refine pf_if ?_ ?_
              · exact pf_some hs_9
              · refine pf_if ?_ ?_
                · exact pf_some hs_9
                · refine pf_if ?_ ?_
                  · refine pf_kk (fun _ => ?_)
                    refine pf_cd (cf_Border_hasPath_B hW hs_9) (fun s_86 r_87 hs_86 => ?_)
                    refine pf_if ?_ ?_
                    · exact pf_some hs_86
                    · refine pf_cd (cf_Play_latestGoer hW hs_86) (fun s_91 r_92 hs_91 => ?_)
                      refine pf_if ?_ ?_
                      · exact pf_some hs_91
                      · exact pf_some hs_91
                  · exact pf_some hs_9
theorem cf_Play_doDeed_c104 {W : Nat → Prop} (hW : gb_sc W) {n : Nat} {σ0 : gb_S} {σ : gb_S} {p2 : Int32} {p3 : Int32} (h : gb_fs W σ0 σ) : gb_pf W σ0 (cs_Play_doDeed_c104 n σ p2 p3) := by
  unfold cs_Play_doDeed_c104
  refine pf_cd (cf_Lines_cell hW h) (fun s_1 r_2 hs_1 => ?_)
  refine pf_cd (cf_Lines_cell hW hs_1) (fun s_5 r_6 hs_5 => ?_)
  refine pf_cd (cf_Lines_kind hW hs_5) (fun s_9 r_10 hs_9 => ?_)
  refine pf_if ?_ ?_
  · refine pf_if ?_ ?_
    · refine pf_cd (cf_Play_go_n hW hs_9) (fun s_15 _ hs_15 => ?_)
      exact pf_some hs_15
    · refine pf_cd (cf_Play_go_c116 hW hs_9) (fun s_19 _ hs_19 => ?_)
      exact pf_some hs_19
  · refine pf_if ?_ ?_
    · refine pf_cd (cf_Play_go_c117 hW hs_9) (fun s_24 _ hs_24 => ?_)
      exact pf_some hs_24
    · refine pf_if ?_ ?_
      · refine pf_cd (cf_Play_go_c117 hW hs_9) (fun s_29 _ hs_29 => ?_)
        exact pf_some hs_29
      · refine pf_if ?_ ?_
        · refine pf_cd (cf_Lines_cell hW hs_9) (fun s_34 r_35 hs_34 => ?_)
          refine pf_cd (cf_Play_go_c116 hW hs_34) (fun s_38 _ hs_38 => ?_)
          refine pf_ck ?_
          refine pf_ltS (fs_su (hW.2 _ (by decide)) hs_38) (fun s_43 hs_43 => ?_)
          refine pf_cd (cf_Lines_cell hW hs_43) (fun s_44 r_45 hs_44 => ?_)
          refine pf_ck ?_
          refine pf_ltS (fs_su (hW.2 _ (by decide)) hs_44) (fun s_49 hs_49 => ?_)
          exact pf_some hs_49
        · refine pf_if ?_ ?_
          · refine pf_ck ?_
            refine pf_ltS (fs_su (hW.2 _ (by decide)) hs_9) (fun s_52 hs_52 => ?_)
            refine pf_ltS (fs_su (hW.2 _ (by decide)) hs_52) (fun s_53 hs_53 => ?_)
            exact pf_some hs_53
          · refine pf_if ?_ ?_
            · refine pf_cd (cf_Play_rainDown hW hs_9) (fun s_55 _ hs_55 => ?_)
              exact pf_some hs_55
            · refine pf_if ?_ ?_
              · refine pf_ltS (fs_su (hW.2 _ (by decide)) hs_9) (fun s_60 hs_60 => ?_)
                exact pf_some hs_60
              · refine pf_if ?_ ?_
                · refine pf_ltS (fs_su (hW.2 _ (by decide)) hs_9) (fun s_62 hs_62 => ?_)
                  exact pf_some hs_62
                · refine pf_if ?_ ?_
                  · refine pf_cd (cf_Play_latestGoer hW hs_9) (fun s_64 r_65 hs_64 => ?_)
                    refine pf_cd (cf_Play_eat hW hs_64) (fun s_68 _ hs_68 => ?_)
                    exact pf_some hs_68
                  · exact pf_some hs_9
theorem cf_Play_run_B_c104_18 {W : Nat → Prop} (hW : gb_sc W) {n : Nat} {σ0 : gb_S} : ∀ (mm : Nat) (σ : gb_S) (v4 : Int32) (v5 : Int32) (v6 : Int32), gb_fs W σ0 σ → gb_pf W σ0 (cs_Play_run_B_c104_18 n mm σ v4 v5 v6) := by
  intro mm
  induction mm with
  | zero =>
    intros
    exact pf_none
  | succ mm ih =>
    intro σ v4 v5 v6  h
    unfold cs_Play_run_B_c104_18
    refine pf_if ?_ ?_
    · exact pf_some h
    · refine pf_cd (cf_Play_canBe_c104 hW h) (fun s_12 r_13 hs_12 => ?_)
      refine pf_if ?_ ?_
      · exact pf_some hs_12
      · refine pf_if ?_ ?_
        · refine pf_cd (cf_Play_doDeed_c104 hW hs_12) (fun s_18 _ hs_18 => ?_)
          refine pf_ltS (fs_su (hW.2 _ (by decide)) hs_18) (fun s_22 hs_22 => ?_)
          refine pf_ltE ?_
          exact ih _ _ _ _ hs_22
        · refine pf_cd (cf_Play_doDeed_c104 hW hs_12) (fun s_24 _ hs_24 => ?_)
          refine pf_ltS (fs_su (hW.2 _ (by decide)) hs_24) (fun s_28 hs_28 => ?_)
          refine pf_ltE ?_
          exact ih _ _ _ _ hs_28
theorem cf_Play_run_B_c104 {W : Nat → Prop} (hW : gb_sc W) {n : Nat} {σ0 : gb_S} {σ : gb_S} {p1 : Nat} {p3 : Int32} {p4 : Int32} (h : gb_fs W σ0 σ) : gb_pf W σ0 (cs_Play_run_B_c104 n σ p1 p3 p4) := by
  unfold cs_Play_run_B_c104
  refine pf_kk (fun ck_p1 => ?_)
  refine pf_cd (cf_Play_begin_B hW h) (fun s_2 _ hs_2 => ?_)
  refine pf_cd (cf_Lines_size hW hs_2) (fun s_6 r_7 hs_6 => ?_)
  refine pf_ltV (fun x_10 => ?_)
  exact cf_Play_run_B_c104_18 hW _ _ _ _ _ hs_6
theorem cf_Face_shift_61 {W : Nat → Prop} (hW : gb_sc W) {n : Nat} {σ0 : gb_S} : ∀ (mm : Nat) (σ : gb_S) (v3 : Int32) (v4 : Nat) (v5 : Nat) (v6 : Int32) (v7 : Int32) (v8 : Int32) (v9 : Int32), gb_fs W σ0 σ → gb_pf W σ0 (cs_Face_shift_61 n mm σ v3 v4 v5 v6 v7 v8 v9) := by
  intro mm
  induction mm with
  | zero =>
    intros
    exact pf_none
  | succ mm ih =>
    intro σ v3 v4 v5 v6 v7 v8 v9  h
    unfold cs_Face_shift_61
    refine pf_kk (fun ck_v4 => ?_)
    refine pf_kk (fun ck_v5 => ?_)
    refine pf_if ?_ ?_
    · refine pf_if ?_ ?_
      · exact pf_some h
      · refine pf_if ?_ ?_
        · exact pf_some h
        · exact pf_some h
    · refine pf_cd (cf_Sheet_copyFrom_N_N hW (hW.2 _ (by decide)) h) (fun s_34 _ hs_34 => ?_)
      refine pf_cd (cf_Night_changeWithNext hW hs_34) (fun s_38 _ hs_38 => ?_)
      refine pf_cd (cf_Lines_size hW hs_38) (fun s_42 r_43 hs_42 => ?_)
      refine pf_cd (cf_Play_run_B_c104 hW hs_42) (fun s_46 _ hs_46 => ?_)
      refine pf_if ?_ ?_
      · refine pf_ltE ?_
        exact ih _ _ _ _ _ _ _ _ hs_46
      · refine pf_cd (cf_Play_allPay hW hs_46) (fun s_52 r_53 hs_52 => ?_)
        refine pf_if ?_ ?_
        · refine pf_ltE ?_
          exact ih _ _ _ _ _ _ _ _ hs_52
        · refine pf_cd (cf_Play_allPay hW hs_52) (fun s_58 r_59 hs_58 => ?_)
          refine pf_ltE ?_
          exact ih _ _ _ _ _ _ _ _ hs_58
theorem cf_Face_shift {W : Nat → Prop} (hW : gb_sc W) {n : Nat} {σ0 : gb_S} {σ : gb_S} {p1 : Int32} {p2 : Int32} {p3 : Int32} (h : gb_fs W σ0 σ) : gb_pf W σ0 (cs_Face_shift n σ p1 p2 p3) := by
  unfold cs_Face_shift
  refine pf_cd (cf_Face_borderAt hW h) (fun s_1 r_2 hs_1 => ?_)
  refine pf_if ?_ ?_
  · refine pf_cd (cf_Face_nightAt hW hs_1) (fun s_6 r_7 hs_6 => ?_)
    refine pf_if ?_ ?_
    · exact pf_some hs_6
    · refine pf_kk (fun ck_r_7 => ?_)
      exact pf_some hs_6
  · refine pf_kk (fun ck_r_2 => ?_)
    refine pf_cd (cf_Face_nightAt hW hs_1) (fun s_13 r_14 hs_13 => ?_)
    refine pf_if ?_ ?_
    · exact pf_some hs_13
    · refine pf_kk (fun ck_r_14 => ?_)
      refine pf_cd (cf_Face_playedOut_B_N hW hs_13) (fun s_19 r_20 hs_19 => ?_)
      refine pf_if ?_ ?_
      · exact pf_some hs_19
      · refine pf_ltV (fun x_24 => ?_)
        refine pf_cd (cf_Play_allPay hW hs_19) (fun s_25 r_26 hs_25 => ?_)
        exact cf_Face_shift_61 hW _ _ _ _ _ _ _ _ _ hs_25
theorem cf_Sharing_canShare_B {W : Nat → Prop} (hW : gb_sc W) {n : Nat} {σ0 : gb_S} {σ : gb_S} {p1 : Nat} (h : gb_fs W σ0 σ) : gb_pf W σ0 (cs_Sharing_canShare_B n σ p1) := by
  unfold cs_Sharing_canShare_B
  refine pf_kk (fun ck_p1 => ?_)
  refine pf_cd (cf_Border_paths_B hW h) (fun s_2 r_3 hs_2 => ?_)
  refine pf_if ?_ ?_
  · exact pf_some hs_2
  · refine pf_cd (cf_Border_geese_B hW hs_2) (fun s_7 r_8 hs_7 => ?_)
    refine pf_if ?_ ?_
    · exact pf_some hs_7
    · exact pf_some hs_7
theorem cf_Sharing_payAnew {W : Nat → Prop} (hW : gb_sc W) {n : Nat} {σ0 : gb_S} {σ : gb_S} {p1 : Int32} (h : gb_fs W σ0 σ) : gb_pf W σ0 (cs_Sharing_payAnew n σ p1) := by
  unfold cs_Sharing_payAnew
  refine pf_if ?_ ?_
  · refine pf_kk (fun _ => ?_)
    refine pf_ck ?_
    refine pf_ltV (fun x_4 => ?_)
    refine pf_cd (cf_Border_payOf_B hW h) (fun s_5 r_6 hs_5 => ?_)
    refine pf_ck ?_
    refine pf_ltS (fs_su (hW.2 _ (by decide)) hs_5) (fun s_10 hs_10 => ?_)
    exact pf_some hs_10
  · refine pf_kk (fun _ => ?_)
    refine pf_if ?_ ?_
    · refine pf_kk (fun _ => ?_)
      refine pf_ck ?_
      refine pf_ltV (fun x_15 => ?_)
      refine pf_cd (cf_Border_padded_B hW h) (fun s_16 r_17 hs_16 => ?_)
      exact pf_none
    · refine pf_kk (fun _ => ?_)
      refine pf_kk (fun _ => ?_)
      refine pf_ck ?_
      refine pf_ltV (fun x_23 => ?_)
      refine pf_cd (cf_Border_padded_B hW h) (fun s_24 r_25 hs_24 => ?_)
      refine pf_cd (cf_Law_payFor_L hW hs_24) (fun s_28 r_29 hs_28 => ?_)
      refine pf_ck ?_
      refine pf_ltS (fs_su (hW.2 _ (by decide)) hs_28) (fun s_33 hs_33 => ?_)
      exact pf_some hs_33
theorem cf_Sharing_begin_B_n_177 {W : Nat → Prop} (hW : gb_sc W) {n : Nat} {σ0 : gb_S} : ∀ (mm : Nat) (σ : gb_S) (v4 : Int32), gb_fs W σ0 σ → gb_pf W σ0 (cs_Sharing_begin_B_n_177 n mm σ v4) := by
  intro mm
  induction mm with
  | zero =>
    intros
    exact pf_none
  | succ mm ih =>
    intro σ v4  h
    unfold cs_Sharing_begin_B_n_177
    refine pf_if ?_ ?_
    · exact pf_some h
    · refine pf_ck ?_
      refine pf_ltV (fun x_19 => ?_)
      refine pf_cd (cf_Sharing_payAnew hW h) (fun s_20 _ hs_20 => ?_)
      refine pf_ltE ?_
      exact ih _ _ hs_20
theorem cf_Sharing_begin_B_n_97 {W : Nat → Prop} (hW : gb_sc W) {n : Nat} {σ0 : gb_S} {k74 : gb_S → Int32 → gb_CR Unit} (h_k74 : ∀ (s : gb_S) (x1 : Int32), gb_fs W σ0 s → gb_pf W σ0 (k74 s x1)) : ∀ (mm : Nat) (σ : gb_S) (v4 : Int32) (v5 : Int32), gb_fs W σ0 σ → gb_pf W σ0 (cs_Sharing_begin_B_n_97 n k74 mm σ v4 v5) := by
  intro mm
  induction mm with
  | zero =>
    intros
    exact pf_none
  | succ mm ih =>
    intro σ v4 v5  h
    unfold cs_Sharing_begin_B_n_97
    refine pf_kk (fun _ => ?_)
    refine pf_cd (cf_Border_paths_B hW h) (fun s_28 r_29 hs_28 => ?_)
    refine pf_if ?_ ?_
    · refine pf_ltV (fun x_33 => ?_)
      refine pf_ck ?_
      refine pf_ltV (fun x_35 => ?_)
      refine pf_ltV (fun x_36 => ?_)
      refine pf_ck ?_
      refine pf_ltV (fun x_38 => ?_)
      refine pf_ck ?_
      refine pf_ltS (fs_su (hW.2 _ (by decide)) hs_28) (fun s_40 hs_40 => ?_)
      refine pf_ltE ?_
      exact h_k74 _ _ hs_40
    · refine pf_kk (fun _ => ?_)
      refine pf_cd (cf_Border_marksFirst_B hW hs_28) (fun s_43 r_44 hs_43 => ?_)
      refine pf_ck ?_
      refine pf_ltS (fs_su (hW.2 _ (by decide)) hs_43) (fun s_48 hs_48 => ?_)
      refine pf_ltE ?_
      exact ih _ _ _ hs_48
theorem cf_Sharing_begin_B_n_74 {W : Nat → Prop} (hW : gb_sc W) {n : Nat} {σ0 : gb_S} : ∀ (mm : Nat) (σ : gb_S) (v4 : Int32), gb_fs W σ0 σ → gb_pf W σ0 (cs_Sharing_begin_B_n_74 n mm σ v4) := by
  intro mm
  induction mm with
  | zero =>
    intros
    exact pf_none
  | succ mm ih =>
    intro σ v4  h
    unfold cs_Sharing_begin_B_n_74
    refine pf_kk (fun _ => ?_)
    refine pf_cd (cf_Border_geese_B hW h) (fun s_12 r_13 hs_12 => ?_)
    refine pf_if ?_ ?_
    · exact cf_Sharing_begin_B_n_177 hW _ _ _ hs_12
    · refine pf_ck ?_
      refine pf_ltS (fs_su (hW.2 _ (by decide)) hs_12) (fun s_26 hs_26 => ?_)
      refine cf_Sharing_begin_B_n_97 hW ?_ _ _ _ _ hs_26
      · intro σ v4 hσ
        exact ih _ _ hσ
theorem cf_Sharing_begin_B_n_18 {W : Nat → Prop} (hW : gb_sc W) {n : Nat} {σ0 : gb_S} : ∀ (mm : Nat) (σ : gb_S) (v3 : Int32) (v4 : Int32), gb_fs W σ0 σ → gb_pf W σ0 (cs_Sharing_begin_B_n_18 n mm σ v3 v4) := by
  intro mm
  induction mm with
  | zero =>
    intros
    exact pf_none
  | succ mm ih =>
    intro σ v3 v4  h
    unfold cs_Sharing_begin_B_n_18
    refine pf_kk (fun _ => ?_)
    refine pf_cd (cf_Border_paths_B hW h) (fun s_6 r_7 hs_6 => ?_)
    refine pf_if ?_ ?_
    · exact cf_Sharing_begin_B_n_74 hW _ _ _ hs_6
    · refine pf_ck ?_
      refine pf_ltS (fs_su (hW.2 _ (by decide)) hs_6) (fun s_51 hs_51 => ?_)
      refine pf_if ?_ ?_
      · refine pf_ltE ?_
        exact ih _ _ _ hs_51
      · refine pf_ck ?_
        refine pf_ltS (fs_su (hW.2 _ (by decide)) hs_51) (fun s_55 hs_55 => ?_)
        refine pf_ltS (fs_su (hW.2 _ (by decide)) hs_55) (fun s_56 hs_56 => ?_)
        refine pf_ltE ?_
        exact ih _ _ _ hs_56
theorem cf_Sharing_begin_B_n {W : Nat → Prop} (hW : gb_sc W) {n : Nat} {σ0 : gb_S} {σ : gb_S} {p1 : Nat} {p3 : Int32} (h : gb_fs W σ0 σ) : gb_pf W σ0 (cs_Sharing_begin_B_n n σ p1 p3) := by
  unfold cs_Sharing_begin_B_n
  refine pf_kk (fun ck_p1 => ?_)
  refine pf_ltS (fs_sq h) (fun s_2 hs_2 => ?_)
  refine pf_ltS (fs_sq hs_2) (fun s_3 hs_3 => ?_)
  refine pf_ltS (fs_su (hW.2 _ (by decide)) hs_3) (fun s_4 hs_4 => ?_)
  exact cf_Sharing_begin_B_n_18 hW _ _ _ _ hs_4
theorem cf_Sharing_spread_16 {W : Nat → Prop} (hW : gb_sc W) {n : Nat} {σ0 : gb_S} : ∀ (mm : Nat) (σ : gb_S) (v1 : Int32) (v2 : Int32) (v3 : Int32), gb_fs W σ0 σ → gb_pf W σ0 (cs_Sharing_spread_16 n mm σ v1 v2 v3) := by
  intro mm
  induction mm with
  | zero =>
    intros
    exact pf_none
  | succ mm ih =>
    intro σ v1 v2 v3  h
    unfold cs_Sharing_spread_16
    refine pf_if ?_ ?_
    · exact pf_some h
    · refine pf_ck ?_
      refine pf_ltV (fun x_6 => ?_)
      refine pf_ck ?_
      refine pf_ltV (fun x_8 => ?_)
      refine pf_ltV (fun x_9 => ?_)
      refine pf_ck ?_
      refine pf_ltV (fun x_11 => ?_)
      refine pf_ck ?_
      refine pf_ltV (fun x_13 => ?_)
      refine pf_ltV (fun x_14 => ?_)
      refine pf_ltE ?_
      exact ih _ _ _ _ h
theorem cf_Sharing_spread {W : Nat → Prop} (hW : gb_sc W) {n : Nat} {σ0 : gb_S} {σ : gb_S} (h : gb_fs W σ0 σ) : gb_pf W σ0 (cs_Sharing_spread n σ) := by
  unfold cs_Sharing_spread
  refine pf_ltV (fun x_1 => ?_)
  refine pf_ck ?_
  refine pf_ltV (fun x_3 => ?_)
  exact cf_Sharing_spread_16 hW _ _ _ _ _ h
theorem cf_Sharing_keepRow_2 {W : Nat → Prop} (hW : gb_sc W) {n : Nat} {σ0 : gb_S} : ∀ (mm : Nat) (σ : gb_S) (v1 : Int32), gb_fs W σ0 σ → gb_pf W σ0 (cs_Sharing_keepRow_2 n mm σ v1) := by
  intro mm
  induction mm with
  | zero =>
    intros
    exact pf_none
  | succ mm ih =>
    intro σ v1  h
    unfold cs_Sharing_keepRow_2
    refine pf_kk (fun _ => ?_)
    refine pf_cd (cf_Border_geese_B hW h) (fun s_2 r_3 hs_2 => ?_)
    refine pf_if ?_ ?_
    · refine pf_ac ?_
      refine pf_ltS (fs_su (hW.2 _ (by decide)) hs_2) (fun s_8 hs_8 => ?_)
      exact pf_some hs_8
    · refine pf_ck ?_
      refine pf_ltV (fun x_10 => ?_)
      refine pf_ck ?_
      refine pf_ltV (fun x_12 => ?_)
      refine pf_ck ?_
      refine pf_ltS (fs_su (hW.2 _ (by decide)) hs_2) (fun s_14 hs_14 => ?_)
      refine pf_ltE ?_
      exact ih _ _ hs_14
theorem cf_Sharing_keepRow {W : Nat → Prop} (hW : gb_sc W) {n : Nat} {σ0 : gb_S} {σ : gb_S} (h : gb_fs W σ0 σ) : gb_pf W σ0 (cs_Sharing_keepRow n σ) := by
  unfold cs_Sharing_keepRow
  exact cf_Sharing_keepRow_2 hW _ _ _ h
theorem cf_Sharing_advance_68 {W : Nat → Prop} (hW : gb_sc W) {n : Nat} {σ0 : gb_S} {k10 : gb_S → Int32 → gb_CR Unit} {σ : gb_S} {v1 : Int32} {v2 : Int32} {v3 : Int32} {t0 : Int32} {t1 : Int32} (h_k10 : ∀ (s : gb_S) (x1 : Int32), gb_fs W σ0 s → gb_pf W σ0 (k10 s x1)) (h : gb_fs W σ0 σ) : gb_pf W σ0 (cs_Sharing_advance_68 n k10 σ v1 v2 v3 t0 t1) := by
  unfold cs_Sharing_advance_68
  refine pf_ck ?_
  refine pf_ltS (fs_su (hW.2 _ (by decide)) h) (fun s_19 hs_19 => ?_)
  refine pf_ck ?_
  refine pf_ltV (fun x_21 => ?_)
  refine pf_ck ?_
  refine pf_ltV (fun x_23 => ?_)
  refine pf_ck ?_
  refine pf_ltV (fun x_25 => ?_)
  refine pf_ck ?_
  refine pf_ltV (fun x_27 => ?_)
  refine pf_ck ?_
  refine pf_ltS (fs_su (hW.2 _ (by decide)) hs_19) (fun s_29 hs_29 => ?_)
  refine pf_ck ?_
  refine pf_ltV (fun x_31 => ?_)
  refine pf_ck ?_
  refine pf_ltV (fun x_33 => ?_)
  refine pf_ck ?_
  refine pf_ltS (fs_su (hW.2 _ (by decide)) hs_29) (fun s_35 hs_35 => ?_)
  refine pf_cd (cf_Sharing_payAnew hW hs_35) (fun s_36 _ hs_36 => ?_)
  refine pf_cd (cf_Sharing_payAnew hW hs_36) (fun s_40 _ hs_40 => ?_)
  refine pf_if ?_ ?_
  · exact pf_some hs_40
  · refine pf_ltE ?_
    exact h_k10 _ _ hs_40
theorem cf_Sharing_advance_46 {W : Nat → Prop} (hW : gb_sc W) {n : Nat} {σ0 : gb_S} {k10 : gb_S → Int32 → gb_CR Unit} {σ : gb_S} {v1 : Int32} {v2 : Int32} {t0 : Int32} (h_k10 : ∀ (s : gb_S) (x1 : Int32), gb_fs W σ0 s → gb_pf W σ0 (k10 s x1)) (h : gb_fs W σ0 σ) : gb_pf W σ0 (cs_Sharing_advance_46 n k10 σ v1 v2 t0) := by
  unfold cs_Sharing_advance_46
  refine pf_if ?_ ?_
  · refine pf_ck ?_
    refine pf_ltV (fun x_17 => ?_)
    exact cf_Sharing_advance_68 hW h_k10 h
  · exact cf_Sharing_advance_68 hW h_k10 h
theorem cf_Sharing_advance_10 {W : Nat → Prop} (hW : gb_sc W) {n : Nat} {σ0 : gb_S} : ∀ (mm : Nat) (σ : gb_S) (v1 : Int32), gb_fs W σ0 σ → gb_pf W σ0 (cs_Sharing_advance_10 n mm σ v1) := by
  intro mm
  induction mm with
  | zero =>
    intros
    exact pf_none
  | succ mm ih =>
    intro σ v1  h
    unfold cs_Sharing_advance_10
    refine pf_if ?_ ?_
    · exact pf_some h
    · refine pf_ck ?_
      refine pf_ltV (fun x_9 => ?_)
      refine pf_ck ?_
      refine pf_ltV (fun x_11 => ?_)
      refine pf_ck ?_
      refine pf_ltV (fun x_13 => ?_)
      refine pf_if ?_ ?_
      · refine cf_Sharing_advance_46 hW ?_ h
        · intro σ v1 hσ
          exact ih _ _ hσ
      · refine cf_Sharing_advance_46 hW ?_ h
        · intro σ v1 hσ
          exact ih _ _ hσ
theorem cf_Sharing_advance {W : Nat → Prop} (hW : gb_sc W) {n : Nat} {σ0 : gb_S} {σ : gb_S} (h : gb_fs W σ0 σ) : gb_pf W σ0 (cs_Sharing_advance n σ) := by
  unfold cs_Sharing_advance
  refine pf_kk (fun _ => ?_)
  refine pf_cd (cf_Border_geese_B hW h) (fun s_2 r_3 hs_2 => ?_)
  refine pf_ltE ?_
  exact cf_Sharing_advance_10 hW _ _ _ hs_2
theorem cf_Sharing_together_4 {W : Nat → Prop} (hW : gb_sc W) {n : Nat} {σ0 : gb_S} : ∀ (mm : Nat) (σ : gb_S) (v1 : Int32) (v2 : Int32), gb_fs W σ0 σ → gb_pf W σ0 (cs_Sharing_together_4 n mm σ v1 v2) := by
  intro mm
  induction mm with
  | zero =>
    intros
    exact pf_none
  | succ mm ih =>
    intro σ v1 v2  h
    unfold cs_Sharing_together_4
    refine pf_if ?_ ?_
    · exact pf_some h
    · refine pf_ck ?_
      refine pf_ltV (fun x_3 => ?_)
      refine pf_ck ?_
      refine pf_ltV (fun x_5 => ?_)
      refine pf_ltE ?_
      refine pf_ltE ?_
      exact ih _ _ _ h
theorem cf_Sharing_together {W : Nat → Prop} (hW : gb_sc W) {n : Nat} {σ0 : gb_S} {σ : gb_S} (h : gb_fs W σ0 σ) : gb_pf W σ0 (cs_Sharing_together n σ) := by
  unfold cs_Sharing_together
  exact cf_Sharing_together_4 hW _ _ _ _ h
theorem cf_Sharing_solve_B_n_74 {W : Nat → Prop} (hW : gb_sc W) {n : Nat} {σ0 : gb_S} {k48 : gb_S → Int32 → Int32 → gb_CR Unit} {σ : gb_S} {v4 : Int32} {v5 : Int32} {t0 : Int32} (h_k48 : ∀ (s : gb_S) (x1 : Int32) (x2 : Int32), gb_fs W σ0 s → gb_pf W σ0 (k48 s x1 x2)) (h : gb_fs W σ0 σ) : gb_pf W σ0 (cs_Sharing_solve_B_n_74 n k48 σ v4 v5 t0) := by
  unfold cs_Sharing_solve_B_n_74
  refine pf_if ?_ ?_
  · refine pf_ltS (fs_su (hW.2 _ (by decide)) h) (fun s_20 hs_20 => ?_)
    refine pf_cd (cf_Sharing_keepRow hW hs_20) (fun s_21 _ hs_21 => ?_)
    refine pf_cd (cf_Sharing_advance hW hs_21) (fun s_25 _ hs_25 => ?_)
    refine pf_ltE ?_
    exact h_k48 _ _ _ hs_25
  · refine pf_if ?_ ?_
    · refine pf_cd (cf_Sharing_advance hW h) (fun s_31 _ hs_31 => ?_)
      refine pf_ltE ?_
      exact h_k48 _ _ _ hs_31
    · refine pf_ltS (fs_su (hW.2 _ (by decide)) h) (fun s_36 hs_36 => ?_)
      refine pf_cd (cf_Sharing_keepRow hW hs_36) (fun s_37 _ hs_37 => ?_)
      refine pf_cd (cf_Sharing_advance hW hs_37) (fun s_41 _ hs_41 => ?_)
      refine pf_ltE ?_
      exact h_k48 _ _ _ hs_41
theorem cf_Sharing_solve_B_n_48 {W : Nat → Prop} (hW : gb_sc W) {n : Nat} {σ0 : gb_S} : ∀ (mm : Nat) (σ : gb_S) (v4 : Int32) (v5 : Int32), gb_fs W σ0 σ → gb_pf W σ0 (cs_Sharing_solve_B_n_48 n mm σ v4 v5) := by
  intro mm
  induction mm with
  | zero =>
    intros
    exact pf_none
  | succ mm ih =>
    intro σ v4 v5  h
    unfold cs_Sharing_solve_B_n_48
    refine pf_if ?_ ?_
    · exact pf_some h
    · refine pf_if ?_ ?_
      · refine pf_cd (cf_Sharing_spread hW h) (fun s_15 r_16 hs_15 => ?_)
        refine cf_Sharing_solve_B_n_74 hW ?_ hs_15
        · intro σ v4 v5 hσ
          exact ih _ _ _ hσ
      · refine pf_kk (fun _ => ?_)
        refine pf_cd (cf_Sharing_together hW h) (fun s_47 r_48 hs_47 => ?_)
        refine cf_Sharing_solve_B_n_74 hW ?_ hs_47
        · intro σ v4 v5 hσ
          exact ih _ _ _ hσ
theorem cf_Sharing_solve_B_n_18 {W : Nat → Prop} (hW : gb_sc W) {n : Nat} {σ0 : gb_S} : ∀ (mm : Nat) (σ : gb_S) (v4 : Int32) (v5 : Int32), gb_fs W σ0 σ → gb_pf W σ0 (cs_Sharing_solve_B_n_18 n mm σ v4 v5) := by
  intro mm
  induction mm with
  | zero =>
    intros
    exact pf_none
  | succ mm ih =>
    intro σ v4 v5  h
    unfold cs_Sharing_solve_B_n_18
    refine pf_kk (fun _ => ?_)
    refine pf_cd (cf_Border_geese_B hW h) (fun s_8 r_9 hs_8 => ?_)
    refine pf_if ?_ ?_
    · exact cf_Sharing_solve_B_n_48 hW _ _ _ _ hs_8
    · refine pf_ltE ?_
      refine pf_ltE ?_
      exact ih _ _ _ hs_8
theorem cf_Sharing_solve_B_n {W : Nat → Prop} (hW : gb_sc W) {n : Nat} {σ0 : gb_S} {σ : gb_S} {p1 : Nat} {p3 : Int32} (h : gb_fs W σ0 σ) : gb_pf W σ0 (cs_Sharing_solve_B_n n σ p1 p3) := by
  unfold cs_Sharing_solve_B_n
  refine pf_kk (fun ck_p1 => ?_)
  refine pf_cd (cf_Sharing_begin_B_n hW h) (fun s_2 _ hs_2 => ?_)
  refine pf_ltS (fs_su (hW.2 _ (by decide)) hs_2) (fun s_6 hs_6 => ?_)
  exact cf_Sharing_solve_B_n_18 hW _ _ _ _ hs_6
theorem cf_Sharing_difference {W : Nat → Prop} (hW : gb_sc W) {n : Nat} {σ0 : gb_S} {σ : gb_S} (h : gb_fs W σ0 σ) : gb_pf W σ0 (cs_Sharing_difference n σ) := by
  unfold cs_Sharing_difference
  exact pf_some h
theorem cf_Face_even_82 {W : Nat → Prop} (hW : gb_sc W) {n : Nat} {σ0 : gb_S} {σ : gb_S} {v2 : Int32} {v3 : Nat} (h : gb_fs W σ0 σ) : gb_pf W σ0 (cs_Face_even_82 n σ v2 v3) := by
  unfold cs_Face_even_82
  refine pf_kk (fun ck_v3 => ?_)
  refine pf_cd (cf_Sharing_solve_B_n hW h) (fun s_16 _ hs_16 => ?_)
  refine pf_if ?_ ?_
  · refine pf_cd (cf_Sharing_difference hW hs_16) (fun s_23 r_24 hs_23 => ?_)
    exact pf_some hs_23
  · refine pf_ck ?_
    refine pf_ltV (fun x_22 => ?_)
    exact pf_some hs_16
theorem cf_Face_even_59 {W : Nat → Prop} (hW : gb_sc W) {n : Nat} {σ0 : gb_S} {σ : gb_S} {v2 : Int32} {v3 : Nat} (h : gb_fs W σ0 σ) : gb_pf W σ0 (cs_Face_even_59 n σ v2 v3) := by
  unfold cs_Face_even_59
  refine pf_kk (fun ck_v3 => ?_)
  refine pf_if ?_ ?_
  · exact cf_Face_even_82 hW h
  · refine pf_if ?_ ?_
    · exact pf_some h
    · refine pf_cd (cf_Border_geese_B hW h) (fun s_28 r_29 hs_28 => ?_)
      refine pf_if ?_ ?_
      · exact cf_Face_even_82 hW hs_28
      · exact pf_some hs_28
theorem cf_Face_even {W : Nat → Prop} (hW : gb_sc W) {n : Nat} {σ0 : gb_S} {σ : gb_S} {p1 : Int32} {p2 : Int32} (h : gb_fs W σ0 σ) : gb_pf W σ0 (cs_Face_even n σ p1 p2) := by
  unfold cs_Face_even
  refine pf_cd (cf_Face_borderAt hW h) (fun s_1 r_2 hs_1 => ?_)
  refine pf_if ?_ ?_
  · exact pf_some hs_1
  · refine pf_kk (fun ck_r_2 => ?_)
    refine pf_cd (cf_Sharing_canShare_B hW hs_1) (fun s_7 r_8 hs_7 => ?_)
    refine pf_if ?_ ?_
    · exact pf_some hs_7
    · refine pf_if ?_ ?_
      · exact cf_Face_even_59 hW hs_7
      · refine pf_cd (cf_Border_paths_B hW hs_7) (fun s_33 r_34 hs_33 => ?_)
        refine pf_if ?_ ?_
        · exact cf_Face_even_59 hW hs_33
        · refine pf_cd (cf_Sharing_solve_B_n hW hs_33) (fun s_38 _ hs_38 => ?_)
          refine pf_ck ?_
          refine pf_ltV (fun x_43 => ?_)
          exact pf_some hs_38
theorem cf_Sharing_begin_B_L_177 {W : Nat → Prop} (hW : gb_sc W) {n : Nat} {σ0 : gb_S} : ∀ (mm : Nat) (σ : gb_S) (v4 : Int32), gb_fs W σ0 σ → gb_pf W σ0 (cs_Sharing_begin_B_L_177 n mm σ v4) := by
  intro mm
  induction mm with
  | zero =>
    intros
    exact pf_none
  | succ mm ih =>
    intro σ v4  h
    unfold cs_Sharing_begin_B_L_177
    refine pf_if ?_ ?_
    · exact pf_some h
    · refine pf_ck ?_
      refine pf_ltV (fun x_20 => ?_)
      refine pf_cd (cf_Sharing_payAnew hW h) (fun s_21 _ hs_21 => ?_)
      refine pf_ltE ?_
      exact ih _ _ hs_21
theorem cf_Sharing_begin_B_L_97 {W : Nat → Prop} (hW : gb_sc W) {n : Nat} {σ0 : gb_S} {k74 : gb_S → Int32 → gb_CR Unit} (h_k74 : ∀ (s : gb_S) (x1 : Int32), gb_fs W σ0 s → gb_pf W σ0 (k74 s x1)) : ∀ (mm : Nat) (σ : gb_S) (v4 : Int32) (v5 : Int32), gb_fs W σ0 σ → gb_pf W σ0 (cs_Sharing_begin_B_L_97 n k74 mm σ v4 v5) := by
  intro mm
  induction mm with
  | zero =>
    intros
    exact pf_none
  | succ mm ih =>
    intro σ v4 v5  h
    unfold cs_Sharing_begin_B_L_97
    refine pf_kk (fun _ => ?_)
    refine pf_cd (cf_Border_paths_B hW h) (fun s_29 r_30 hs_29 => ?_)
    refine pf_if ?_ ?_
    · refine pf_ltV (fun x_34 => ?_)
      refine pf_ck ?_
      refine pf_ltV (fun x_36 => ?_)
      refine pf_ltV (fun x_37 => ?_)
      refine pf_ck ?_
      refine pf_ltV (fun x_39 => ?_)
      refine pf_ck ?_
      refine pf_ltS (fs_su (hW.2 _ (by decide)) hs_29) (fun s_41 hs_41 => ?_)
      refine pf_ltE ?_
      exact h_k74 _ _ hs_41
    · refine pf_kk (fun _ => ?_)
      refine pf_cd (cf_Border_marksFirst_B hW hs_29) (fun s_44 r_45 hs_44 => ?_)
      refine pf_ck ?_
      refine pf_ltS (fs_su (hW.2 _ (by decide)) hs_44) (fun s_49 hs_49 => ?_)
      refine pf_ltE ?_
      exact ih _ _ _ hs_49
theorem cf_Sharing_begin_B_L_74 {W : Nat → Prop} (hW : gb_sc W) {n : Nat} {σ0 : gb_S} : ∀ (mm : Nat) (σ : gb_S) (v4 : Int32), gb_fs W σ0 σ → gb_pf W σ0 (cs_Sharing_begin_B_L_74 n mm σ v4) := by
  intro mm
  induction mm with
  | zero =>
    intros
    exact pf_none
  | succ mm ih =>
    intro σ v4  h
    unfold cs_Sharing_begin_B_L_74
    refine pf_kk (fun _ => ?_)
    refine pf_cd (cf_Border_geese_B hW h) (fun s_13 r_14 hs_13 => ?_)
    refine pf_if ?_ ?_
    · exact cf_Sharing_begin_B_L_177 hW _ _ _ hs_13
    · refine pf_ck ?_
      refine pf_ltS (fs_su (hW.2 _ (by decide)) hs_13) (fun s_27 hs_27 => ?_)
      refine cf_Sharing_begin_B_L_97 hW ?_ _ _ _ _ hs_27
      · intro σ v4 hσ
        exact ih _ _ hσ
theorem cf_Sharing_begin_B_L_18 {W : Nat → Prop} (hW : gb_sc W) {n : Nat} {σ0 : gb_S} : ∀ (mm : Nat) (σ : gb_S) (v3 : Int32) (v4 : Int32), gb_fs W σ0 σ → gb_pf W σ0 (cs_Sharing_begin_B_L_18 n mm σ v3 v4) := by
  intro mm
  induction mm with
  | zero =>
    intros
    exact pf_none
  | succ mm ih =>
    intro σ v3 v4  h
    unfold cs_Sharing_begin_B_L_18
    refine pf_kk (fun _ => ?_)
    refine pf_cd (cf_Border_paths_B hW h) (fun s_7 r_8 hs_7 => ?_)
    refine pf_if ?_ ?_
    · exact cf_Sharing_begin_B_L_74 hW _ _ _ hs_7
    · refine pf_ck ?_
      refine pf_ltS (fs_su (hW.2 _ (by decide)) hs_7) (fun s_52 hs_52 => ?_)
      refine pf_if ?_ ?_
      · refine pf_ltE ?_
        exact ih _ _ _ hs_52
      · refine pf_ck ?_
        refine pf_ltS (fs_su (hW.2 _ (by decide)) hs_52) (fun s_56 hs_56 => ?_)
        refine pf_ltS (fs_su (hW.2 _ (by decide)) hs_56) (fun s_57 hs_57 => ?_)
        refine pf_ltE ?_
        exact ih _ _ _ hs_57
theorem cf_Sharing_begin_B_L {W : Nat → Prop} (hW : gb_sc W) {n : Nat} {σ0 : gb_S} {σ : gb_S} {p1 : Nat} {p2 : Nat} {p3 : Int32} (h : gb_fs W σ0 σ) : gb_pf W σ0 (cs_Sharing_begin_B_L n σ p1 p2 p3) := by
  unfold cs_Sharing_begin_B_L
  refine pf_kk (fun ck_p1 => ?_)
  refine pf_kk (fun ck_p2 => ?_)
  refine pf_ltS (fs_sq h) (fun s_3 hs_3 => ?_)
  refine pf_ltS (fs_sq hs_3) (fun s_4 hs_4 => ?_)
  refine pf_ltS (fs_su (hW.2 _ (by decide)) hs_4) (fun s_5 hs_5 => ?_)
  exact cf_Sharing_begin_B_L_18 hW _ _ _ _ hs_5
theorem cf_Sharing_solve_B_L_74 {W : Nat → Prop} (hW : gb_sc W) {n : Nat} {σ0 : gb_S} {k48 : gb_S → Int32 → Int32 → gb_CR Unit} {σ : gb_S} {v4 : Int32} {v5 : Int32} {t0 : Int32} (h_k48 : ∀ (s : gb_S) (x1 : Int32) (x2 : Int32), gb_fs W σ0 s → gb_pf W σ0 (k48 s x1 x2)) (h : gb_fs W σ0 σ) : gb_pf W σ0 (cs_Sharing_solve_B_L_74 n k48 σ v4 v5 t0) := by
  unfold cs_Sharing_solve_B_L_74
  refine pf_if ?_ ?_
  · refine pf_ltS (fs_su (hW.2 _ (by decide)) h) (fun s_21 hs_21 => ?_)
    refine pf_cd (cf_Sharing_keepRow hW hs_21) (fun s_22 _ hs_22 => ?_)
    refine pf_cd (cf_Sharing_advance hW hs_22) (fun s_26 _ hs_26 => ?_)
    refine pf_ltE ?_
    exact h_k48 _ _ _ hs_26
  · refine pf_if ?_ ?_
    · refine pf_cd (cf_Sharing_advance hW h) (fun s_32 _ hs_32 => ?_)
      refine pf_ltE ?_
      exact h_k48 _ _ _ hs_32
    · refine pf_ltS (fs_su (hW.2 _ (by decide)) h) (fun s_37 hs_37 => ?_)
      refine pf_cd (cf_Sharing_keepRow hW hs_37) (fun s_38 _ hs_38 => ?_)
      refine pf_cd (cf_Sharing_advance hW hs_38) (fun s_42 _ hs_42 => ?_)
      refine pf_ltE ?_
      exact h_k48 _ _ _ hs_42
theorem cf_Sharing_solve_B_L_48 {W : Nat → Prop} (hW : gb_sc W) {n : Nat} {σ0 : gb_S} : ∀ (mm : Nat) (σ : gb_S) (v4 : Int32) (v5 : Int32), gb_fs W σ0 σ → gb_pf W σ0 (cs_Sharing_solve_B_L_48 n mm σ v4 v5) := by
  intro mm
  induction mm with
  | zero =>
    intros
    exact pf_none
  | succ mm ih =>
    intro σ v4 v5  h
    unfold cs_Sharing_solve_B_L_48
    refine pf_if ?_ ?_
    · exact pf_some h
    · refine pf_if ?_ ?_
      · refine pf_cd (cf_Sharing_spread hW h) (fun s_16 r_17 hs_16 => ?_)
        refine cf_Sharing_solve_B_L_74 hW ?_ hs_16
        · intro σ v4 v5 hσ
          exact ih _ _ _ hσ
      · refine pf_kk (fun _ => ?_)
        refine pf_cd (cf_Sharing_together hW h) (fun s_48 r_49 hs_48 => ?_)
        refine cf_Sharing_solve_B_L_74 hW ?_ hs_48
        · intro σ v4 v5 hσ
          exact ih _ _ _ hσ
theorem cf_Sharing_solve_B_L_18 {W : Nat → Prop} (hW : gb_sc W) {n : Nat} {σ0 : gb_S} : ∀ (mm : Nat) (σ : gb_S) (v4 : Int32) (v5 : Int32), gb_fs W σ0 σ → gb_pf W σ0 (cs_Sharing_solve_B_L_18 n mm σ v4 v5) := by
  intro mm
  induction mm with
  | zero =>
    intros
    exact pf_none
  | succ mm ih =>
    intro σ v4 v5  h
    unfold cs_Sharing_solve_B_L_18
    refine pf_kk (fun _ => ?_)
    refine pf_cd (cf_Border_geese_B hW h) (fun s_9 r_10 hs_9 => ?_)
    refine pf_if ?_ ?_
    · exact cf_Sharing_solve_B_L_48 hW _ _ _ _ hs_9
    · refine pf_ltE ?_
      refine pf_ltE ?_
      exact ih _ _ _ hs_9
theorem cf_Sharing_solve_B_L {W : Nat → Prop} (hW : gb_sc W) {n : Nat} {σ0 : gb_S} {σ : gb_S} {p1 : Nat} {p2 : Nat} {p3 : Int32} (h : gb_fs W σ0 σ) : gb_pf W σ0 (cs_Sharing_solve_B_L n σ p1 p2 p3) := by
  unfold cs_Sharing_solve_B_L
  refine pf_kk (fun ck_p1 => ?_)
  refine pf_kk (fun ck_p2 => ?_)
  refine pf_cd (cf_Sharing_begin_B_L hW h) (fun s_3 _ hs_3 => ?_)
  refine pf_ltS (fs_su (hW.2 _ (by decide)) hs_3) (fun s_7 hs_7 => ?_)
  exact cf_Sharing_solve_B_L_18 hW _ _ _ _ hs_7
theorem cf_Face_richest_58 {W : Nat → Prop} (hW : gb_sc W) {n : Nat} {σ0 : gb_S} {σ : gb_S} {v3 : Int32} {v4 : Nat} {v5 : Nat} (h : gb_fs W σ0 σ) : gb_pf W σ0 (cs_Face_richest_58 n σ v3 v4 v5) := by
  unfold cs_Face_richest_58
  refine pf_kk (fun ck_v4 => ?_)
  refine pf_kk (fun ck_v5 => ?_)
  refine pf_cd (cf_Sharing_solve_B_L hW h) (fun s_27 _ hs_27 => ?_)
  refine pf_if ?_ ?_
  · exact pf_some hs_27
  · refine pf_ck ?_
    refine pf_ltV (fun x_33 => ?_)
    exact pf_some hs_27
theorem cf_Face_richest {W : Nat → Prop} (hW : gb_sc W) {n : Nat} {σ0 : gb_S} {σ : gb_S} {p1 : Int32} {p2 : Int32} {p3 : Int32} (h : gb_fs W σ0 σ) : gb_pf W σ0 (cs_Face_richest n σ p1 p2 p3) := by
  unfold cs_Face_richest
  refine pf_cd (cf_Face_borderAt hW h) (fun s_1 r_2 hs_1 => ?_)
  refine pf_if ?_ ?_
  · refine pf_cd (cf_Face_lawAt hW hs_1) (fun s_6 r_7 hs_6 => ?_)
    refine pf_if ?_ ?_
    · exact pf_some hs_6
    · refine pf_kk (fun ck_r_7 => ?_)
      exact pf_some hs_6
  · refine pf_kk (fun ck_r_2 => ?_)
    refine pf_cd (cf_Face_lawAt hW hs_1) (fun s_13 r_14 hs_13 => ?_)
    refine pf_if ?_ ?_
    · exact pf_some hs_13
    · refine pf_kk (fun ck_r_14 => ?_)
      refine pf_cd (cf_Sharing_canShare_B hW hs_13) (fun s_19 r_20 hs_19 => ?_)
      refine pf_if ?_ ?_
      · exact pf_some hs_19
      · refine pf_if ?_ ?_
        · exact cf_Face_richest_58 hW hs_19
        · refine pf_if ?_ ?_
          · exact pf_some hs_19
          · refine pf_cd (cf_Border_geese_B hW hs_19) (fun s_35 r_36 hs_35 => ?_)
            refine pf_if ?_ ?_
            · exact cf_Face_richest_58 hW hs_35
            · exact pf_some hs_35
theorem cf_Face_close_36 {W : Nat → Prop} (hW : gb_sc W) {n : Nat} {σ0 : gb_S} : ∀ (mm : Nat) (σ : gb_S) (v2 : Int32) (v3 : Nat) (v4 : Int32) (v5 : Int32) (v6 : Int32), gb_fs W σ0 σ → gb_pf W σ0 (cs_Face_close_36 n mm σ v2 v3 v4 v5 v6) := by
  intro mm
  induction mm with
  | zero =>
    intros
    exact pf_none
  | succ mm ih =>
    intro σ v2 v3 v4 v5 v6  h
    unfold cs_Face_close_36
    refine pf_kk (fun ck_v3 => ?_)
    refine pf_cd (cf_Border_paths_B hW h) (fun s_18 r_19 hs_18 => ?_)
    refine pf_if ?_ ?_
    · refine pf_if ?_ ?_
      · exact pf_some hs_18
      · exact pf_some hs_18
    · refine pf_cd (cf_Sharing_solve_B_n hW hs_18) (fun s_24 _ hs_24 => ?_)
      refine pf_if ?_ ?_
      · refine pf_cd (cf_Sharing_difference hW hs_24) (fun s_29 r_30 hs_29 => ?_)
        refine pf_ltE ?_
        exact ih _ _ _ _ _ _ hs_29
      · refine pf_cd (cf_Sharing_difference hW hs_24) (fun s_34 r_35 hs_34 => ?_)
        refine pf_if ?_ ?_
        · refine pf_ltE ?_
          exact ih _ _ _ _ _ _ hs_34
        · refine pf_cd (cf_Sharing_difference hW hs_34) (fun s_40 r_41 hs_40 => ?_)
          refine pf_ltE ?_
          exact ih _ _ _ _ _ _ hs_40
theorem cf_Face_close {W : Nat → Prop} (hW : gb_sc W) {n : Nat} {σ0 : gb_S} {σ : gb_S} {p1 : Int32} {p2 : Int32} (h : gb_fs W σ0 σ) : gb_pf W σ0 (cs_Face_close n σ p1 p2) := by
  unfold cs_Face_close
  refine pf_cd (cf_Face_borderAt hW h) (fun s_1 r_2 hs_1 => ?_)
  refine pf_if ?_ ?_
  · exact pf_some hs_1
  · refine pf_kk (fun ck_r_2 => ?_)
    refine pf_cd (cf_Sharing_canShare_B hW hs_1) (fun s_7 r_8 hs_7 => ?_)
    refine pf_if ?_ ?_
    · exact pf_some hs_7
    · refine pf_cd (cf_Border_paths_B hW hs_7) (fun s_12 r_13 hs_12 => ?_)
      refine pf_if ?_ ?_
      · exact cf_Face_close_36 hW _ _ _ _ _ _ _ hs_12
      · exact pf_some hs_12
theorem cf_Face_tar_51 {W : Nat → Prop} (hW : gb_sc W) {n : Nat} {σ0 : gb_S} : ∀ (mm : Nat) (σ : gb_S) (v2 : Int32) (v4 : Nat) (v5 : Int32) (v6 : Int32) (v7 : Int32), gb_fs W σ0 σ → gb_pf W σ0 (cs_Face_tar_51 n mm σ v2 v4 v5 v6 v7) := by
  intro mm
  induction mm with
  | zero =>
    intros
    exact pf_none
  | succ mm ih =>
    intro σ v2 v4 v5 v6 v7  h
    unfold cs_Face_tar_51
    refine pf_kk (fun ck_v4 => ?_)
    refine pf_if ?_ ?_
    · refine pf_if ?_ ?_
      · exact pf_some h
      · exact pf_some h
    · refine pf_if ?_ ?_
      · refine pf_if ?_ ?_
        · exact pf_some h
        · exact pf_some h
      · refine pf_cd (cf_Border_milesThatSpare_B hW h) (fun s_24 r_25 hs_24 => ?_)
        refine pf_nz ?_
        refine pf_ltE ?_
        refine pf_ltV (fun x_30 => ?_)
        refine pf_ltE ?_
        refine pf_ltE ?_
        refine pf_ltE ?_
        exact ih _ _ _ _ _ _ hs_24
theorem cf_Face_tar {W : Nat → Prop} (hW : gb_sc W) {n : Nat} {σ0 : gb_S} {σ : gb_S} {p1 : Int32} {p2 : Int32} {p3 : Int32} (h : gb_fs W σ0 σ) : gb_pf W σ0 (cs_Face_tar n σ p1 p2 p3) := by
  unfold cs_Face_tar
  refine pf_cd (cf_Face_borderAt hW h) (fun s_1 r_2 hs_1 => ?_)
  refine pf_if ?_ ?_
  · exact pf_some hs_1
  · refine pf_kk (fun ck_r_2 => ?_)
    refine pf_cd (cf_Border_hasPath_B hW hs_1) (fun s_7 r_8 hs_7 => ?_)
    refine pf_if ?_ ?_
    · exact pf_some hs_7
    · refine pf_if ?_ ?_
      · exact pf_some hs_7
      · refine pf_if ?_ ?_
        · refine pf_cd (cf_Border_barefoot_B hW hs_7) (fun s_14 r_15 hs_14 => ?_)
          refine pf_ltE ?_
          exact cf_Face_tar_51 hW _ _ _ _ _ _ _ hs_14
        · exact pf_some hs_7
theorem cf_Face_bestPath_B_7 {W : Nat → Prop} (hW : gb_sc W) {n : Nat} {σ0 : gb_S} : ∀ (mm : Nat) (σ : gb_S) (v0 : Nat) (v1 : Int32) (v2 : Int32) (v3 : Int32) (v4 : Int32), gb_fs W σ0 σ → gb_pf W σ0 (cs_Face_bestPath_B_7 n mm σ v0 v1 v2 v3 v4) := by
  intro mm
  induction mm with
  | zero =>
    intros
    exact pf_none
  | succ mm ih =>
    intro σ v0 v1 v2 v3 v4  h
    unfold cs_Face_bestPath_B_7
    refine pf_kk (fun ck_v0 => ?_)
    refine pf_cd (cf_Border_paths_B hW h) (fun s_3 r_4 hs_3 => ?_)
    refine pf_if ?_ ?_
    · exact pf_some hs_3
    · refine pf_cd (cf_Border_marksFirst_B hW hs_3) (fun s_8 r_9 hs_8 => ?_)
      refine pf_cd (cf_Border_payOf_B hW hs_8) (fun s_12 r_13 hs_12 => ?_)
      refine pf_if ?_ ?_
      · refine pf_ltE ?_
        exact ih _ _ _ _ _ _ hs_12
      · refine pf_ltE ?_
        exact ih _ _ _ _ _ _ hs_12
theorem cf_Face_bestPath_B {W : Nat → Prop} (hW : gb_sc W) {n : Nat} {σ0 : gb_S} {σ : gb_S} {p1 : Nat} {p2 : Int32} (h : gb_fs W σ0 σ) : gb_pf W σ0 (cs_Face_bestPath_B n σ p1 p2) := by
  unfold cs_Face_bestPath_B
  refine pf_kk (fun ck_p1 => ?_)
  exact cf_Face_bestPath_B_7 hW _ _ _ _ _ _ _ h
theorem cf_Face_lame_64 {W : Nat → Prop} (hW : gb_sc W) {n : Nat} {σ0 : gb_S} : ∀ (mm : Nat) (σ : gb_S) (v2 : Int32) (v4 : Nat) (v5 : Int32) (v6 : Int32) (v7 : Int32), gb_fs W σ0 σ → gb_pf W σ0 (cs_Face_lame_64 n mm σ v2 v4 v5 v6 v7) := by
  intro mm
  induction mm with
  | zero =>
    intros
    exact pf_none
  | succ mm ih =>
    intro σ v2 v4 v5 v6 v7  h
    unfold cs_Face_lame_64
    refine pf_kk (fun ck_v4 => ?_)
    refine pf_cd (cf_Border_geese_B hW h) (fun s_14 r_15 hs_14 => ?_)
    refine pf_if ?_ ?_
    · refine pf_cd (cf_Border_payOf_B hW hs_14) (fun s_19 r_20 hs_19 => ?_)
      refine pf_cd (cf_Border_payOf_B hW hs_19) (fun s_23 r_24 hs_23 => ?_)
      exact pf_some hs_23
    · refine pf_cd (cf_Border_marksFirst_B hW hs_14) (fun s_27 r_28 hs_27 => ?_)
      refine pf_ltE ?_
      refine pf_cd (cf_Border_limps_B hW hs_27) (fun s_32 r_33 hs_32 => ?_)
      refine pf_if ?_ ?_
      · refine pf_ltE ?_
        refine pf_ltE ?_
        exact ih _ _ _ _ _ _ hs_32
      · refine pf_ltE ?_
        refine pf_ltE ?_
        refine pf_ltE ?_
        exact ih _ _ _ _ _ _ hs_32
theorem cf_Face_lame {W : Nat → Prop} (hW : gb_sc W) {n : Nat} {σ0 : gb_S} {σ : gb_S} {p1 : Int32} {p2 : Int32} {p3 : Int32} (h : gb_fs W σ0 σ) : gb_pf W σ0 (cs_Face_lame n σ p1 p2 p3) := by
  unfold cs_Face_lame
  refine pf_cd (cf_Face_borderAt hW h) (fun s_1 r_2 hs_1 => ?_)
  refine pf_if ?_ ?_
  · exact pf_some hs_1
  · refine pf_kk (fun ck_r_2 => ?_)
    refine pf_if ?_ ?_
    · refine pf_cd (cf_Border_hasPath_B hW hs_1) (fun s_8 r_9 hs_8 => ?_)
      refine pf_if ?_ ?_
      · exact pf_some hs_8
      · exact cf_Face_lame_64 hW _ _ _ _ _ _ _ hs_8
    · refine pf_if ?_ ?_
      · refine pf_cd (cf_Border_hasPath_B hW hs_1) (fun s_43 r_44 hs_43 => ?_)
        refine pf_if ?_ ?_
        · exact pf_some hs_43
        · exact cf_Face_lame_64 hW _ _ _ _ _ _ _ hs_43
      · refine pf_cd (cf_Border_hasGoose_B hW hs_1) (fun s_48 r_49 hs_48 => ?_)
        refine pf_if ?_ ?_
        · exact pf_some hs_48
        · refine pf_cd (cf_Face_bestPath_B hW hs_48) (fun s_53 r_54 hs_53 => ?_)
          exact pf_some hs_53
theorem cf_Face_two_108 {W : Nat → Prop} (hW : gb_sc W) {n : Nat} {σ0 : gb_S} {k58 : gb_S → Int32 → Int32 → Nat → Nat → Int32 → Int32 → Int32 → Int32 → gb_CR Int32} (h_k58 : ∀ (s : gb_S) (x1 : Int32) (x2 : Int32) (x3 : Nat) (x4 : Nat) (x5 : Int32) (x6 : Int32) (x7 : Int32) (x8 : Int32), gb_fs W σ0 s → gb_pf W σ0 (k58 s x1 x2 x3 x4 x5 x6 x7 x8)) : ∀ (mm : Nat) (σ : gb_S) (v2 : Int32) (v4 : Int32) (v5 : Nat) (v6 : Nat) (v7 : Int32) (v8 : Int32) (v9 : Int32) (v10 : Int32) (v11 : Int32) (v12 : Int32) (v13 : Int32), gb_fs W σ0 σ → gb_pf W σ0 (cs_Face_two_108 n k58 mm σ v2 v4 v5 v6 v7 v8 v9 v10 v11 v12 v13) := by
  intro mm
  induction mm with
  | zero =>
    intros
    exact pf_none
  | succ mm ih =>
    intro σ v2 v4 v5 v6 v7 v8 v9 v10 v11 v12 v13  h
    unfold cs_Face_two_108
    refine pf_kk (fun ck_v5 => ?_)
    refine pf_kk (fun ck_v6 => ?_)
    refine pf_cd (cf_Border_paths_B hW h) (fun s_54 r_55 hs_54 => ?_)
    refine pf_if ?_ ?_
    · refine pf_ltE ?_
      exact h_k58 _ _ _ _ _ _ _ _ _ hs_54
    · refine pf_cd (cf_Border_miles_B hW hs_54) (fun s_60 r_61 hs_60 => ?_)
      refine pf_cd (cf_Border_marksOver_B hW hs_60) (fun s_64 r_65 hs_64 => ?_)
      refine pf_cd (cf_Border_payOf_B hW hs_64) (fun s_68 r_69 hs_68 => ?_)
      refine pf_ltE ?_
      refine pf_if ?_ ?_
      · refine pf_ltE ?_
        exact ih _ _ _ _ _ _ _ _ _ _ _ _ hs_68
      · refine pf_ltE ?_
        exact ih _ _ _ _ _ _ _ _ _ _ _ _ hs_68
theorem cf_Face_two_58 {W : Nat → Prop} (hW : gb_sc W) {n : Nat} {σ0 : gb_S} : ∀ (mm : Nat) (σ : gb_S) (v2 : Int32) (v4 : Int32) (v5 : Nat) (v6 : Nat) (v7 : Int32) (v8 : Int32) (v9 : Int32) (v10 : Int32), gb_fs W σ0 σ → gb_pf W σ0 (cs_Face_two_58 n mm σ v2 v4 v5 v6 v7 v8 v9 v10) := by
  intro mm
  induction mm with
  | zero =>
    intros
    exact pf_none
  | succ mm ih =>
    intro σ v2 v4 v5 v6 v7 v8 v9 v10  h
    unfold cs_Face_two_58
    refine pf_kk (fun ck_v5 => ?_)
    refine pf_kk (fun ck_v6 => ?_)
    refine pf_cd (cf_Border_paths_B hW h) (fun s_28 r_29 hs_28 => ?_)
    refine pf_if ?_ ?_
    · refine pf_if ?_ ?_
      · exact pf_some hs_28
      · refine pf_if ?_ ?_
        · exact pf_some hs_28
        · exact pf_some hs_28
    · refine pf_cd (cf_Border_boots_B hW hs_28) (fun s_35 r_36 hs_35 => ?_)
      refine pf_cd (cf_Border_miles_B hW hs_35) (fun s_39 r_40 hs_39 => ?_)
      refine pf_ltV (fun x_43 => ?_)
      refine pf_cd (cf_Border_marksFirst_B hW hs_39) (fun s_44 r_45 hs_44 => ?_)
      refine pf_cd (cf_Border_payOf_B hW hs_44) (fun s_48 r_49 hs_48 => ?_)
      refine cf_Face_two_108 hW ?_ _ _ _ _ _ _ _ _ _ _ _ _ _ hs_48
      · intro σ v2 v4 v5 v6 v7 v8 v9 v10 hσ
        exact ih _ _ _ _ _ _ _ _ _ hσ
theorem cf_Face_two {W : Nat → Prop} (hW : gb_sc W) {n : Nat} {σ0 : gb_S} {σ : gb_S} {p1 : Int32} {p2 : Int32} {p3 : Int32} {p4 : Int32} (h : gb_fs W σ0 σ) : gb_pf W σ0 (cs_Face_two n σ p1 p2 p3 p4) := by
  unfold cs_Face_two
  refine pf_cd (cf_Face_borderAt hW h) (fun s_1 r_2 hs_1 => ?_)
  refine pf_if ?_ ?_
  · refine pf_cd (cf_Face_borderAt hW hs_1) (fun s_6 r_7 hs_6 => ?_)
    refine pf_if ?_ ?_
    · exact pf_some hs_6
    · refine pf_kk (fun ck_r_7 => ?_)
      exact pf_some hs_6
  · refine pf_kk (fun ck_r_2 => ?_)
    refine pf_cd (cf_Face_borderAt hW hs_1) (fun s_13 r_14 hs_13 => ?_)
    refine pf_if ?_ ?_
    · exact pf_some hs_13
    · refine pf_kk (fun ck_r_14 => ?_)
      refine pf_cd (cf_Border_hasGoose_B hW hs_13) (fun s_19 r_20 hs_19 => ?_)
      refine pf_if ?_ ?_
      · exact pf_some hs_19
      · refine pf_if ?_ ?_
        · exact pf_some hs_19
        · refine pf_if ?_ ?_
          · exact cf_Face_two_58 hW _ _ _ _ _ _ _ _ _ _ hs_19
          · exact pf_some hs_19
theorem cf_Face_alike_43 {W : Nat → Prop} (hW : gb_sc W) {n : Nat} {σ0 : gb_S} : ∀ (mm : Nat) (σ : gb_S) (v2 : Int32) (v3 : Int32) (v4 : Nat) (v5 : Int32) (v6 : Int32), gb_fs W σ0 σ → gb_pf W σ0 (cs_Face_alike_43 n mm σ v2 v3 v4 v5 v6) := by
  intro mm
  induction mm with
  | zero =>
    intros
    exact pf_none
  | succ mm ih =>
    intro σ v2 v3 v4 v5 v6  h
    unfold cs_Face_alike_43
    refine pf_kk (fun ck_v4 => ?_)
    refine pf_cd (cf_Border_paths_B hW h) (fun s_19 r_20 hs_19 => ?_)
    refine pf_if ?_ ?_
    · exact pf_some hs_19
    · refine pf_cd (cf_Border_marksFirst_B hW hs_19) (fun s_24 r_25 hs_24 => ?_)
      refine pf_cd (cf_Border_marksFirst_B hW hs_24) (fun s_28 r_29 hs_28 => ?_)
      refine pf_if ?_ ?_
      · refine pf_ltE ?_
        refine pf_ltE ?_
        exact ih _ _ _ _ _ _ hs_28
      · refine pf_ltE ?_
        exact ih _ _ _ _ _ _ hs_28
theorem cf_Face_alike {W : Nat → Prop} (hW : gb_sc W) {n : Nat} {σ0 : gb_S} {σ : gb_S} {p1 : Int32} {p2 : Int32} {p3 : Int32} (h : gb_fs W σ0 σ) : gb_pf W σ0 (cs_Face_alike n σ p1 p2 p3) := by
  unfold cs_Face_alike
  refine pf_cd (cf_Face_borderAt hW h) (fun s_1 r_2 hs_1 => ?_)
  refine pf_if ?_ ?_
  · exact pf_some hs_1
  · refine pf_kk (fun ck_r_2 => ?_)
    refine pf_if ?_ ?_
    · exact pf_some hs_1
    · refine pf_cd (cf_Border_hasGoose_B hW hs_1) (fun s_8 r_9 hs_8 => ?_)
      refine pf_if ?_ ?_
      · exact pf_some hs_8
      · refine pf_cd (cf_Border_hasGoose_B hW hs_8) (fun s_13 r_14 hs_13 => ?_)
        refine pf_if ?_ ?_
        · exact pf_some hs_13
        · exact cf_Face_alike_43 hW _ _ _ _ _ _ _ hs_13
theorem cf_Flocks_sumUp_B_c131_44 {W : Nat → Prop} (hW : gb_sc W) {n : Nat} {σ0 : gb_S} {k17 : gb_S → Nat → Int32 → Int32 → gb_CR Unit} (h_k17 : ∀ (s : gb_S) (x1 : Nat) (x2 : Int32) (x3 : Int32), gb_fs W σ0 s → gb_pf W σ0 (k17 s x1 x2 x3)) : ∀ (mm : Nat) (σ : gb_S) (v1 : Nat) (v2 : Int32) (v4 : Int32) (v5 : Int32) (v6 : Int32) (v7 : Int32), gb_fs W σ0 σ → gb_pf W σ0 (cs_Flocks_sumUp_B_c131_44 n k17 mm σ v1 v2 v4 v5 v6 v7) := by
  intro mm
  induction mm with
  | zero =>
    intros
    exact pf_none
  | succ mm ih =>
    intro σ v1 v2 v4 v5 v6 v7  h
    unfold cs_Flocks_sumUp_B_c131_44
    refine pf_kk (fun ck_v1 => ?_)
    refine pf_if ?_ ?_
    · refine pf_ltE ?_
      exact h_k17 _ _ _ _ h
    · refine pf_ck ?_
      refine pf_ltV (fun x_23 => ?_)
      refine pf_ck ?_
      refine pf_ltS (fs_su (hW.2 _ (by decide)) h) (fun s_25 hs_25 => ?_)
      refine pf_ltE ?_
      exact ih _ _ _ _ _ _ _ hs_25
theorem cf_Flocks_sumUp_B_c131_17 {W : Nat → Prop} (hW : gb_sc W) {n : Nat} {σ0 : gb_S} : ∀ (mm : Nat) (σ : gb_S) (v1 : Nat) (v2 : Int32) (v4 : Int32), gb_fs W σ0 σ → gb_pf W σ0 (cs_Flocks_sumUp_B_c131_17 n mm σ v1 v2 v4) := by
  intro mm
  induction mm with
  | zero =>
    intros
    exact pf_none
  | succ mm ih =>
    intro σ v1 v2 v4  h
    unfold cs_Flocks_sumUp_B_c131_17
    refine pf_kk (fun ck_v1 => ?_)
    refine pf_cd (cf_Border_geese_B hW h) (fun s_9 r_10 hs_9 => ?_)
    refine pf_if ?_ ?_
    · exact pf_some hs_9
    · refine pf_cd (cf_Border_marksFirst_B hW hs_9) (fun s_14 r_15 hs_14 => ?_)
      refine pf_ltE ?_
      refine cf_Flocks_sumUp_B_c131_44 hW ?_ _ _ _ _ _ _ _ _ hs_14
      · intro σ v1 v2 v4 hσ
        exact ih _ _ _ _ hσ
theorem cf_Flocks_sumUp_B_c131 {W : Nat → Prop} (hW : gb_sc W) {n : Nat} {σ0 : gb_S} {σ : gb_S} {p1 : Nat} {p2 : Int32} (h : gb_fs W σ0 σ) : gb_pf W σ0 (cs_Flocks_sumUp_B_c131 n σ p1 p2) := by
  unfold cs_Flocks_sumUp_B_c131
  refine pf_kk (fun ck_p1 => ?_)
  refine pf_cd (cf_Border_geese_B hW h) (fun s_2 r_3 hs_2 => ?_)
  refine pf_ltS (fs_su (hW.2 _ (by decide)) hs_2) (fun s_6 hs_6 => ?_)
  refine pf_ltS (fs_su (hW.2 _ (by decide)) hs_6) (fun s_7 hs_7 => ?_)
  exact cf_Flocks_sumUp_B_c131_17 hW _ _ _ _ _ hs_7
theorem cf_java_lang_Integer_bitCount {W : Nat → Prop} (hW : gb_sc W) {n : Nat} {σ0 : gb_S} {σ : gb_S} {p1 : Int32} (h : gb_fs W σ0 σ) : gb_pf W σ0 (cs_java_lang_Integer_bitCount n σ p1) := by
  unfold cs_java_lang_Integer_bitCount
  refine pf_ltE ?_
  refine pf_ltE ?_
  refine pf_ltE ?_
  refine pf_ltE ?_
  refine pf_ltE ?_
  exact pf_some h
theorem cf_Flocks_marksOfAny_B_76 {W : Nat → Prop} (hW : gb_sc W) {n : Nat} {σ0 : gb_S} {k16 : gb_S → Int32 → Int32 → Int32 → Int32 → gb_CR Int32} {σ : gb_S} {v3 : Int32} {v4 : Int32} {v5 : Int32} {v6 : Int32} {t0 : Int32} (h_k16 : ∀ (s : gb_S) (x1 : Int32) (x2 : Int32) (x3 : Int32) (x4 : Int32), gb_fs W σ0 s → gb_pf W σ0 (k16 s x1 x2 x3 x4)) (h : gb_fs W σ0 σ) : gb_pf W σ0 (cs_Flocks_marksOfAny_B_76 n k16 σ v3 v4 v5 v6 t0) := by
  unfold cs_Flocks_marksOfAny_B_76
  refine pf_if ?_ ?_
  · refine pf_ck ?_
    refine pf_ltV (fun x_19 => ?_)
    refine pf_ltE ?_
    exact h_k16 _ _ _ _ _ h
  · refine pf_if ?_ ?_
    · refine pf_ltE ?_
      exact h_k16 _ _ _ _ _ h
    · refine pf_ck ?_
      refine pf_ltV (fun x_24 => ?_)
      refine pf_ltE ?_
      exact h_k16 _ _ _ _ _ h
theorem cf_Flocks_marksOfAny_B_16 {W : Nat → Prop} (hW : gb_sc W) {n : Nat} {σ0 : gb_S} : ∀ (mm : Nat) (σ : gb_S) (v3 : Int32) (v4 : Int32) (v5 : Int32) (v6 : Int32), gb_fs W σ0 σ → gb_pf W σ0 (cs_Flocks_marksOfAny_B_16 n mm σ v3 v4 v5 v6) := by
  intro mm
  induction mm with
  | zero =>
    intros
    exact pf_none
  | succ mm ih =>
    intro σ v3 v4 v5 v6  h
    unfold cs_Flocks_marksOfAny_B_16
    refine pf_if ?_ ?_
    · exact pf_some h
    · refine pf_cd (cf_java_lang_Integer_bitCount hW h) (fun s_7 r_8 hs_7 => ?_)
      refine pf_if ?_ ?_
      · refine pf_if ?_ ?_
        · refine pf_ck ?_
          refine pf_ltV (fun x_15 => ?_)
          refine pf_if ?_ ?_
          · refine cf_Flocks_marksOfAny_B_76 hW ?_ hs_7
            · intro σ v3 v4 v5 v6 hσ
              exact ih _ _ _ _ _ hσ
          · refine cf_Flocks_marksOfAny_B_76 hW ?_ hs_7
            · intro σ v3 v4 v5 v6 hσ
              exact ih _ _ _ _ _ hσ
        · refine pf_ck ?_
          refine pf_ltV (fun x_27 => ?_)
          refine pf_if ?_ ?_
          · refine cf_Flocks_marksOfAny_B_76 hW ?_ hs_7
            · intro σ v3 v4 v5 v6 hσ
              exact ih _ _ _ _ _ hσ
          · refine cf_Flocks_marksOfAny_B_76 hW ?_ hs_7
            · intro σ v3 v4 v5 v6 hσ
              exact ih _ _ _ _ _ hσ
      · refine pf_ltE ?_
        exact ih _ _ _ _ _ hs_7
theorem cf_Flocks_marksOfAny_B {W : Nat → Prop} (hW : gb_sc W) {n : Nat} {σ0 : gb_S} {σ : gb_S} {p1 : Nat} {p2 : Int32} {p3 : Int32} {p4 : Int32} (h : gb_fs W σ0 σ) : gb_pf W σ0 (cs_Flocks_marksOfAny_B n σ p1 p2 p3 p4) := by
  unfold cs_Flocks_marksOfAny_B
  refine pf_kk (fun ck_p1 => ?_)
  refine pf_cd (cf_Flocks_sumUp_B_c131 hW h) (fun s_2 _ hs_2 => ?_)
  exact cf_Flocks_marksOfAny_B_16 hW _ _ _ _ _ _ hs_2
theorem cf_Face_span {W : Nat → Prop} (hW : gb_sc W) {n : Nat} {σ0 : gb_S} {σ : gb_S} {p1 : Int32} {p2 : Int32} {p3 : Int32} {p4 : Int32} (h : gb_fs W σ0 σ) : gb_pf W σ0 (cs_Face_span n σ p1 p2 p3 p4) := by
  unfold cs_Face_span
  refine pf_cd (cf_Face_borderAt hW h) (fun s_1 r_2 hs_1 => ?_)
  refine pf_if ?_ ?_
  · exact pf_some hs_1
  · refine pf_kk (fun ck_r_2 => ?_)
    refine pf_cd (cf_Border_hasPath_B hW hs_1) (fun s_7 r_8 hs_7 => ?_)
    refine pf_if ?_ ?_
    · exact pf_some hs_7
    · refine pf_if ?_ ?_
      · exact pf_some hs_7
      · refine pf_cd (cf_Border_geese_B hW hs_7) (fun s_13 r_14 hs_13 => ?_)
        refine pf_if ?_ ?_
        · refine pf_cd (cf_Flocks_marksOfAny_B hW hs_13) (fun s_18 r_19 hs_18 => ?_)
          exact pf_some hs_18
        · exact pf_some hs_13
theorem cf_Flocks_sumUp_B_c132_44 {W : Nat → Prop} (hW : gb_sc W) {n : Nat} {σ0 : gb_S} {k17 : gb_S → Nat → Int32 → Int32 → gb_CR Unit} (h_k17 : ∀ (s : gb_S) (x1 : Nat) (x2 : Int32) (x3 : Int32), gb_fs W σ0 s → gb_pf W σ0 (k17 s x1 x2 x3)) : ∀ (mm : Nat) (σ : gb_S) (v1 : Nat) (v2 : Int32) (v4 : Int32) (v5 : Int32) (v6 : Int32) (v7 : Int32), gb_fs W σ0 σ → gb_pf W σ0 (cs_Flocks_sumUp_B_c132_44 n k17 mm σ v1 v2 v4 v5 v6 v7) := by
  intro mm
  induction mm with
  | zero =>
    intros
    exact pf_none
  | succ mm ih =>
    intro σ v1 v2 v4 v5 v6 v7  h
    unfold cs_Flocks_sumUp_B_c132_44
    refine pf_kk (fun ck_v1 => ?_)
    refine pf_if ?_ ?_
    · refine pf_ltE ?_
      exact h_k17 _ _ _ _ h
    · refine pf_ck ?_
      refine pf_ltV (fun x_23 => ?_)
      refine pf_ck ?_
      refine pf_ltS (fs_su (hW.2 _ (by decide)) h) (fun s_25 hs_25 => ?_)
      refine pf_ltE ?_
      exact ih _ _ _ _ _ _ _ hs_25
theorem cf_Flocks_sumUp_B_c132_17 {W : Nat → Prop} (hW : gb_sc W) {n : Nat} {σ0 : gb_S} : ∀ (mm : Nat) (σ : gb_S) (v1 : Nat) (v2 : Int32) (v4 : Int32), gb_fs W σ0 σ → gb_pf W σ0 (cs_Flocks_sumUp_B_c132_17 n mm σ v1 v2 v4) := by
  intro mm
  induction mm with
  | zero =>
    intros
    exact pf_none
  | succ mm ih =>
    intro σ v1 v2 v4  h
    unfold cs_Flocks_sumUp_B_c132_17
    refine pf_kk (fun ck_v1 => ?_)
    refine pf_cd (cf_Border_geese_B hW h) (fun s_9 r_10 hs_9 => ?_)
    refine pf_if ?_ ?_
    · exact pf_some hs_9
    · refine pf_cd (cf_Border_marksFirst_B hW hs_9) (fun s_14 r_15 hs_14 => ?_)
      refine pf_ltE ?_
      refine cf_Flocks_sumUp_B_c132_44 hW ?_ _ _ _ _ _ _ _ _ hs_14
      · intro σ v1 v2 v4 hσ
        exact ih _ _ _ _ hσ
theorem cf_Flocks_sumUp_B_c132 {W : Nat → Prop} (hW : gb_sc W) {n : Nat} {σ0 : gb_S} {σ : gb_S} {p1 : Nat} {p2 : Int32} (h : gb_fs W σ0 σ) : gb_pf W σ0 (cs_Flocks_sumUp_B_c132 n σ p1 p2) := by
  unfold cs_Flocks_sumUp_B_c132
  refine pf_kk (fun ck_p1 => ?_)
  refine pf_cd (cf_Border_geese_B hW h) (fun s_2 r_3 hs_2 => ?_)
  refine pf_ltS (fs_su (hW.2 _ (by decide)) hs_2) (fun s_6 hs_6 => ?_)
  refine pf_ltS (fs_su (hW.2 _ (by decide)) hs_6) (fun s_7 hs_7 => ?_)
  exact cf_Flocks_sumUp_B_c132_17 hW _ _ _ _ _ hs_7
theorem cf_Flocks_evenest_B_41 {W : Nat → Prop} (hW : gb_sc W) {n : Nat} {σ0 : gb_S} : ∀ (mm : Nat) (σ : gb_S) (v4 : Int32) (v5 : Int32), gb_fs W σ0 σ → gb_pf W σ0 (cs_Flocks_evenest_B_41 n mm σ v4 v5) := by
  intro mm
  induction mm with
  | zero =>
    intros
    exact pf_none
  | succ mm ih =>
    intro σ v4 v5  h
    unfold cs_Flocks_evenest_B_41
    refine pf_if ?_ ?_
    · exact pf_some h
    · refine pf_ck ?_
      refine pf_ltV (fun x_15 => ?_)
      refine pf_ck ?_
      refine pf_ltV (fun x_17 => ?_)
      refine pf_ltV (fun x_18 => ?_)
      refine pf_if ?_ ?_
      · refine pf_ltE ?_
        exact ih _ _ _ h
      · refine pf_ltS (fs_su (hW.2 _ (by decide)) h) (fun s_21 hs_21 => ?_)
        refine pf_ltE ?_
        exact ih _ _ _ hs_21
theorem cf_Flocks_evenest_B {W : Nat → Prop} (hW : gb_sc W) {n : Nat} {σ0 : gb_S} {σ : gb_S} {p1 : Nat} {p2 : Int32} {p3 : Int32} (h : gb_fs W σ0 σ) : gb_pf W σ0 (cs_Flocks_evenest_B n σ p1 p2 p3) := by
  unfold cs_Flocks_evenest_B
  refine pf_kk (fun ck_p1 => ?_)
  refine pf_cd (cf_Flocks_sumUp_B_c131 hW h) (fun s_2 _ hs_2 => ?_)
  refine pf_cd (cf_Flocks_sumUp_B_c132 hW hs_2) (fun s_6 _ hs_6 => ?_)
  refine pf_ck ?_
  refine pf_ltV (fun x_11 => ?_)
  refine pf_ltS (fs_su (hW.2 _ (by decide)) hs_6) (fun s_12 hs_12 => ?_)
  exact cf_Flocks_evenest_B_41 hW _ _ _ _ hs_12
theorem cf_Face_split {W : Nat → Prop} (hW : gb_sc W) {n : Nat} {σ0 : gb_S} {σ : gb_S} {p1 : Int32} {p2 : Int32} {p3 : Int32} {p4 : Int32} (h : gb_fs W σ0 σ) : gb_pf W σ0 (cs_Face_split n σ p1 p2 p3 p4) := by
  unfold cs_Face_split
  refine pf_cd (cf_Face_borderAt hW h) (fun s_1 r_2 hs_1 => ?_)
  refine pf_if ?_ ?_
  · exact pf_some hs_1
  · refine pf_kk (fun ck_r_2 => ?_)
    refine pf_if ?_ ?_
    · exact pf_some hs_1
    · refine pf_cd (cf_Border_hasPath_B hW hs_1) (fun s_8 r_9 hs_8 => ?_)
      refine pf_if ?_ ?_
      · exact pf_some hs_8
      · refine pf_cd (cf_Border_hasPath_B hW hs_8) (fun s_13 r_14 hs_13 => ?_)
        refine pf_if ?_ ?_
        · exact pf_some hs_13
        · refine pf_cd (cf_Flocks_evenest_B hW hs_13) (fun s_18 r_19 hs_18 => ?_)
          refine pf_if ?_ ?_
          · exact pf_some hs_18
          · exact pf_some hs_18
theorem cf_Flocks_fewestBackwards_B_21 {W : Nat → Prop} (hW : gb_sc W) {n : Nat} {σ0 : gb_S} : ∀ (mm : Nat) (σ : gb_S) (v3 : Int32) (v4 : Int32) (v5 : Int32), gb_fs W σ0 σ → gb_pf W σ0 (cs_Flocks_fewestBackwards_B_21 n mm σ v3 v4 v5) := by
  intro mm
  induction mm with
  | zero =>
    intros
    exact pf_none
  | succ mm ih =>
    intro σ v3 v4 v5  h
    unfold cs_Flocks_fewestBackwards_B_21
    refine pf_if ?_ ?_
    · exact pf_some h
    · refine pf_ck ?_
      refine pf_ltV (fun x_9 => ?_)
      refine pf_ck ?_
      refine pf_ltV (fun x_11 => ?_)
      refine pf_if ?_ ?_
      · refine pf_if ?_ ?_
        · refine pf_ltE ?_
          exact ih _ _ _ _ h
        · refine pf_cd (cf_java_lang_Integer_bitCount hW h) (fun s_15 r_16 hs_15 => ?_)
          refine pf_cd (cf_java_lang_Integer_bitCount hW hs_15) (fun s_19 r_20 hs_19 => ?_)
          refine pf_if ?_ ?_
          · refine pf_ltE ?_
            exact ih _ _ _ _ hs_19
          · refine pf_ltE ?_
            exact ih _ _ _ _ hs_19
      · refine pf_if ?_ ?_
        · refine pf_ltE ?_
          exact ih _ _ _ _ h
        · refine pf_cd (cf_java_lang_Integer_bitCount hW h) (fun s_28 r_29 hs_28 => ?_)
          refine pf_cd (cf_java_lang_Integer_bitCount hW hs_28) (fun s_32 r_33 hs_32 => ?_)
          refine pf_if ?_ ?_
          · refine pf_ltE ?_
            exact ih _ _ _ _ hs_32
          · refine pf_ltE ?_
            exact ih _ _ _ _ hs_32
theorem cf_Flocks_fewestBackwards_B {W : Nat → Prop} (hW : gb_sc W) {n : Nat} {σ0 : gb_S} {σ : gb_S} {p1 : Nat} {p2 : Int32} {p3 : Int32} (h : gb_fs W σ0 σ) : gb_pf W σ0 (cs_Flocks_fewestBackwards_B n σ p1 p2 p3) := by
  unfold cs_Flocks_fewestBackwards_B
  refine pf_kk (fun ck_p1 => ?_)
  refine pf_cd (cf_Flocks_sumUp_B_c131 hW h) (fun s_2 _ hs_2 => ?_)
  refine pf_ltE ?_
  exact cf_Flocks_fewestBackwards_B_21 hW _ _ _ _ _ hs_2
theorem cf_Face_backs {W : Nat → Prop} (hW : gb_sc W) {n : Nat} {σ0 : gb_S} {σ : gb_S} {p1 : Int32} {p2 : Int32} {p3 : Int32} {p4 : Int32} (h : gb_fs W σ0 σ) : gb_pf W σ0 (cs_Face_backs n σ p1 p2 p3 p4) := by
  unfold cs_Face_backs
  refine pf_cd (cf_Face_borderAt hW h) (fun s_1 r_2 hs_1 => ?_)
  refine pf_if ?_ ?_
  · exact pf_some hs_1
  · refine pf_kk (fun ck_r_2 => ?_)
    refine pf_cd (cf_Border_hasPath_B hW hs_1) (fun s_7 r_8 hs_7 => ?_)
    refine pf_if ?_ ?_
    · exact pf_some hs_7
    · refine pf_if ?_ ?_
      · exact pf_some hs_7
      · refine pf_if ?_ ?_
        · refine pf_cd (cf_Flocks_fewestBackwards_B hW hs_7) (fun s_14 r_15 hs_14 => ?_)
          refine pf_if ?_ ?_
          · exact pf_some hs_14
          · refine pf_cd (cf_java_lang_Integer_bitCount hW hs_14) (fun s_19 r_20 hs_19 => ?_)
            exact pf_some hs_19
        · exact pf_some hs_7
theorem cf_Flocks_nearest_B_16 {W : Nat → Prop} (hW : gb_sc W) {n : Nat} {σ0 : gb_S} : ∀ (mm : Nat) (σ : gb_S) (v3 : Int32) (v4 : Int32) (v5 : Int32), gb_fs W σ0 σ → gb_pf W σ0 (cs_Flocks_nearest_B_16 n mm σ v3 v4 v5) := by
  intro mm
  induction mm with
  | zero =>
    intros
    exact pf_none
  | succ mm ih =>
    intro σ v3 v4 v5  h
    unfold cs_Flocks_nearest_B_16
    refine pf_if ?_ ?_
    · exact pf_some h
    · refine pf_ck ?_
      refine pf_ltV (fun x_8 => ?_)
      refine pf_ltV (fun x_9 => ?_)
      refine pf_ck ?_
      refine pf_ltV (fun x_11 => ?_)
      refine pf_ltV (fun x_12 => ?_)
      refine pf_if ?_ ?_
      · refine pf_ltE ?_
        exact ih _ _ _ _ h
      · refine pf_ltE ?_
        exact ih _ _ _ _ h
theorem cf_Flocks_nearest_B {W : Nat → Prop} (hW : gb_sc W) {n : Nat} {σ0 : gb_S} {σ : gb_S} {p1 : Nat} {p2 : Int32} {p3 : Int32} (h : gb_fs W σ0 σ) : gb_pf W σ0 (cs_Flocks_nearest_B n σ p1 p2 p3) := by
  unfold cs_Flocks_nearest_B
  refine pf_kk (fun ck_p1 => ?_)
  refine pf_cd (cf_Flocks_sumUp_B_c131 hW h) (fun s_2 _ hs_2 => ?_)
  exact cf_Flocks_nearest_B_16 hW _ _ _ _ _ hs_2
theorem cf_Face_near {W : Nat → Prop} (hW : gb_sc W) {n : Nat} {σ0 : gb_S} {σ : gb_S} {p1 : Int32} {p2 : Int32} {p3 : Int32} (h : gb_fs W σ0 σ) : gb_pf W σ0 (cs_Face_near n σ p1 p2 p3) := by
  unfold cs_Face_near
  refine pf_cd (cf_Face_borderAt hW h) (fun s_1 r_2 hs_1 => ?_)
  refine pf_if ?_ ?_
  · refine pf_cd (cf_Face_dawnAt hW hs_1) (fun s_6 r_7 hs_6 => ?_)
    refine pf_if ?_ ?_
    · exact pf_some hs_6
    · refine pf_kk (fun ck_r_7 => ?_)
      exact pf_some hs_6
  · refine pf_kk (fun ck_r_2 => ?_)
    refine pf_cd (cf_Face_dawnAt hW hs_1) (fun s_13 r_14 hs_13 => ?_)
    refine pf_if ?_ ?_
    · exact pf_some hs_13
    · refine pf_kk (fun ck_r_14 => ?_)
      refine pf_if ?_ ?_
      · exact pf_some hs_13
      · refine pf_cd (cf_Lines_size_D hW hs_13) (fun s_20 r_21 hs_20 => ?_)
        refine pf_if ?_ ?_
        · exact pf_some hs_20
        · refine pf_cd (cf_Dawn_pathSeen_D hW hs_20) (fun s_25 r_26 hs_25 => ?_)
          refine pf_cd (cf_Border_hasPath_B hW hs_25) (fun s_29 r_30 hs_29 => ?_)
          refine pf_if ?_ ?_
          · exact pf_some hs_29
          · refine pf_cd (cf_Dawn_pathSeen_D hW hs_29) (fun s_34 r_35 hs_34 => ?_)
            refine pf_cd (cf_Dawn_marksSeen_D hW hs_34) (fun s_38 r_39 hs_38 => ?_)
            refine pf_cd (cf_Flocks_nearest_B hW hs_38) (fun s_42 r_43 hs_42 => ?_)
            exact pf_some hs_42
theorem cf_Flocks_paysAll_B_3 {W : Nat → Prop} (hW : gb_sc W) {n : Nat} {σ0 : gb_S} : ∀ (mm : Nat) (σ : gb_S) (v1 : Nat) (v2 : Int32) (v3 : Int32) (v4 : Int32), gb_fs W σ0 σ → gb_pf W σ0 (cs_Flocks_paysAll_B_3 n mm σ v1 v2 v3 v4) := by
  intro mm
  induction mm with
  | zero =>
    intros
    exact pf_none
  | succ mm ih =>
    intro σ v1 v2 v3 v4  h
    unfold cs_Flocks_paysAll_B_3
    refine pf_kk (fun ck_v1 => ?_)
    refine pf_cd (cf_Border_geese_B hW h) (fun s_3 r_4 hs_3 => ?_)
    refine pf_if ?_ ?_
    · exact pf_some hs_3
    · refine pf_ltE ?_
      refine pf_if ?_ ?_
      · refine pf_ltE ?_
        exact ih _ _ _ _ _ hs_3
      · refine pf_kk (fun _ => ?_)
        refine pf_ck ?_
        refine pf_ltV (fun x_13 => ?_)
        refine pf_if ?_ ?_
        · refine pf_cd (cf_Border_marksFirst_B hW hs_3) (fun s_16 r_17 hs_16 => ?_)
          refine pf_cd (cf_Border_payOf_B hW hs_16) (fun s_20 r_21 hs_20 => ?_)
          refine pf_if ?_ ?_
          · refine pf_ltE ?_
            exact ih _ _ _ _ _ hs_20
          · exact pf_some hs_20
        · refine pf_ltE ?_
          exact ih _ _ _ _ _ hs_3
theorem cf_Flocks_paysAll_B {W : Nat → Prop} (hW : gb_sc W) {n : Nat} {σ0 : gb_S} {σ : gb_S} {p1 : Nat} {p2 : Int32} {p3 : Int32} (h : gb_fs W σ0 σ) : gb_pf W σ0 (cs_Flocks_paysAll_B n σ p1 p2 p3) := by
  unfold cs_Flocks_paysAll_B
  refine pf_kk (fun ck_p1 => ?_)
  exact cf_Flocks_paysAll_B_3 hW _ _ _ _ _ _ h
theorem cf_Flocks_thriftiest_B_71 {W : Nat → Prop} (hW : gb_sc W) {n : Nat} {σ0 : gb_S} {k28 : gb_S → Nat → Int32 → gb_CR Int32} {σ : gb_S} {v1 : Nat} {v2 : Int32} {v3 : Int32} {t0 : Int64} {t1 : Int32} {t2 : Nat} (h_k28 : ∀ (s : gb_S) (x1 : Nat) (x2 : Int32), gb_fs W σ0 s → gb_pf W σ0 (k28 s x1 x2)) (h : gb_fs W σ0 σ) : gb_pf W σ0 (cs_Flocks_thriftiest_B_71 n k28 σ v1 v2 v3 t0 t1 t2) := by
  unfold cs_Flocks_thriftiest_B_71
  refine pf_kk (fun ck_v1 => ?_)
  refine pf_kk (fun ck_t2 => ?_)
  refine pf_ck ?_
  refine pf_ltS (fs_sg h) (fun s_32 hs_32 => ?_)
  refine pf_kk (fun _ => ?_)
  refine pf_ck ?_
  refine pf_ltV (fun x_35 => ?_)
  refine pf_if ?_ ?_
  · refine pf_cd (cf_Border_paths_B hW hs_32) (fun s_38 r_39 hs_38 => ?_)
    refine pf_if ?_ ?_
    · exact pf_some hs_38
    · refine pf_ltE ?_
      exact h_k28 _ _ _ hs_38
  · refine pf_ltE ?_
    exact h_k28 _ _ _ hs_32
theorem cf_Flocks_thriftiest_B_70 {W : Nat → Prop} (hW : gb_sc W) {n : Nat} {σ0 : gb_S} {k28 : gb_S → Nat → Int32 → gb_CR Int32} {σ : gb_S} {v1 : Nat} {v2 : Int32} {v3 : Int32} {t0 : Int32} {t1 : Nat} (h_k28 : ∀ (s : gb_S) (x1 : Nat) (x2 : Int32), gb_fs W σ0 s → gb_pf W σ0 (k28 s x1 x2)) (h : gb_fs W σ0 σ) : gb_pf W σ0 (cs_Flocks_thriftiest_B_70 n k28 σ v1 v2 v3 t0 t1) := by
  unfold cs_Flocks_thriftiest_B_70
  refine pf_kk (fun ck_v1 => ?_)
  refine pf_kk (fun ck_t1 => ?_)
  exact cf_Flocks_thriftiest_B_71 hW h_k28 h
theorem cf_Flocks_thriftiest_B_28 {W : Nat → Prop} (hW : gb_sc W) {n : Nat} {σ0 : gb_S} : ∀ (mm : Nat) (σ : gb_S) (v1 : Nat) (v2 : Int32), gb_fs W σ0 σ → gb_pf W σ0 (cs_Flocks_thriftiest_B_28 n mm σ v1 v2) := by
  intro mm
  induction mm with
  | zero =>
    intros
    exact pf_none
  | succ mm ih =>
    intro σ v1 v2  h
    unfold cs_Flocks_thriftiest_B_28
    refine pf_kk (fun ck_v1 => ?_)
    refine pf_if ?_ ?_
    · exact pf_some h
    · refine pf_cd (cf_java_lang_Integer_bitCount hW h) (fun s_16 r_17 hs_16 => ?_)
      refine pf_ltE ?_
      refine pf_kk (fun _ => ?_)
      refine pf_cd (cf_Border_paths_B hW hs_16) (fun s_22 r_23 hs_22 => ?_)
      refine pf_if ?_ ?_
      · refine cf_Flocks_thriftiest_B_70 hW ?_ hs_22
        · intro σ v1 v2 hσ
          exact ih _ _ _ hσ
      · refine pf_cd (cf_Flocks_paysAll_B hW hs_22) (fun s_44 r_45 hs_44 => ?_)
        refine pf_if ?_ ?_
        · refine cf_Flocks_thriftiest_B_70 hW ?_ hs_44
          · intro σ v1 v2 hσ
            exact ih _ _ _ hσ
        · refine cf_Flocks_thriftiest_B_71 hW ?_ hs_44
          · intro σ v1 v2 hσ
            exact ih _ _ _ hσ
theorem cf_Flocks_thriftiest_B {W : Nat → Prop} (hW : gb_sc W) {n : Nat} {σ0 : gb_S} {σ : gb_S} {p1 : Nat} (h : gb_fs W σ0 σ) : gb_pf W σ0 (cs_Flocks_thriftiest_B n σ p1) := by
  unfold cs_Flocks_thriftiest_B
  refine pf_kk (fun ck_p1 => ?_)
  refine pf_cd (cf_Border_geese_B hW h) (fun s_2 r_3 hs_2 => ?_)
  refine pf_ltS (fs_su (hW.2 _ (by decide)) hs_2) (fun s_6 hs_6 => ?_)
  refine pf_kk (fun _ => ?_)
  refine pf_ltS (fs_sg hs_6) (fun s_8 hs_8 => ?_)
  refine pf_cd (cf_Border_paths_B hW hs_8) (fun s_9 r_10 hs_9 => ?_)
  refine pf_if ?_ ?_
  · exact pf_some hs_9
  · exact cf_Flocks_thriftiest_B_28 hW _ _ _ _ hs_9
theorem cf_Face_thrift {W : Nat → Prop} (hW : gb_sc W) {n : Nat} {σ0 : gb_S} {σ : gb_S} {p1 : Int32} (h : gb_fs W σ0 σ) : gb_pf W σ0 (cs_Face_thrift n σ p1) := by
  unfold cs_Face_thrift
  refine pf_cd (cf_Face_borderAt hW h) (fun s_1 r_2 hs_1 => ?_)
  refine pf_if ?_ ?_
  · exact pf_some hs_1
  · refine pf_kk (fun ck_r_2 => ?_)
    refine pf_cd (cf_Flocks_thriftiest_B hW hs_1) (fun s_7 r_8 hs_7 => ?_)
    exact pf_some hs_7
theorem cf_java_util_Arrays_fillJ_J_6 {W : Nat → Prop} (hW : gb_sc W) {n : Nat} {σ0 : gb_S} : ∀ (mm : Nat) (σ : gb_S) (v0 : Nat) (v1 : Int64) (v3 : Int32) (v4 : Int32), gb_fs W σ0 σ → gb_pf W σ0 (cs_java_util_Arrays_fillJ_J_6 n mm σ v0 v1 v3 v4) := by
  intro mm
  induction mm with
  | zero =>
    intros
    exact pf_none
  | succ mm ih =>
    intro σ v0 v1 v3 v4  h
    unfold cs_java_util_Arrays_fillJ_J_6
    refine pf_kk (fun ck_v0 => ?_)
    refine pf_if ?_ ?_
    · exact pf_some h
    · refine pf_ck ?_
      refine pf_ltS (fs_sg h) (fun s_5 hs_5 => ?_)
      refine pf_ltE ?_
      exact ih _ _ _ _ _ hs_5
theorem cf_java_util_Arrays_fillJ_J {W : Nat → Prop} (hW : gb_sc W) {n : Nat} {σ0 : gb_S} {σ : gb_S} {p1 : Nat} {p2 : Int64} (h : gb_fs W σ0 σ) : gb_pf W σ0 (cs_java_util_Arrays_fillJ_J n σ p1 p2) := by
  unfold cs_java_util_Arrays_fillJ_J
  refine pf_kk (fun ck_p1 => ?_)
  exact cf_java_util_Arrays_fillJ_J_6 hW _ _ _ _ _ _ h
theorem cf_Flocks_addGoing_13 {W : Nat → Prop} (hW : gb_sc W) {n : Nat} {σ0 : gb_S} : ∀ (mm : Nat) (σ : gb_S) (v1 : Int32) (v2 : Int32) (v3 : Int32), gb_fs W σ0 σ → gb_pf W σ0 (cs_Flocks_addGoing_13 n mm σ v1 v2 v3) := by
  intro mm
  induction mm with
  | zero =>
    intros
    exact pf_none
  | succ mm ih =>
    intro σ v1 v2 v3  h
    unfold cs_Flocks_addGoing_13
    refine pf_if ?_ ?_
    · refine pf_kk (fun _ => ?_)
      refine pf_ck ?_
      refine pf_ltV (fun x_5 => ?_)
      refine pf_kk (fun _ => ?_)
      refine pf_ltV (fun x_7 => ?_)
      refine pf_ck ?_
      refine pf_ltS (fs_sg h) (fun s_9 hs_9 => ?_)
      exact pf_some hs_9
    · refine pf_kk (fun _ => ?_)
      refine pf_ck ?_
      refine pf_ltV (fun x_12 => ?_)
      refine pf_kk (fun _ => ?_)
      refine pf_ck ?_
      refine pf_ltV (fun x_15 => ?_)
      refine pf_ck ?_
      refine pf_ltS (fs_sg h) (fun s_17 hs_17 => ?_)
      refine pf_ltE ?_
      exact ih _ _ _ _ hs_17
theorem cf_Flocks_addGoing {W : Nat → Prop} (hW : gb_sc W) {n : Nat} {σ0 : gb_S} {σ : gb_S} {p1 : Int32} (h : gb_fs W σ0 σ) : gb_pf W σ0 (cs_Flocks_addGoing n σ p1) := by
  unfold cs_Flocks_addGoing
  refine pf_ltE ?_
  exact cf_Flocks_addGoing_13 hW _ _ _ _ _ h
theorem cf_Flocks_goBy_10 {W : Nat → Prop} (hW : gb_sc W) {n : Nat} {σ0 : gb_S} : ∀ (mm : Nat) (σ : gb_S) (v1 : Int32) (v2 : Int32) (v3 : Int32), gb_fs W σ0 σ → gb_pf W σ0 (cs_Flocks_goBy_10 n mm σ v1 v2 v3) := by
  intro mm
  induction mm with
  | zero =>
    intros
    exact pf_none
  | succ mm ih =>
    intro σ v1 v2 v3  h
    unfold cs_Flocks_goBy_10
    refine pf_if ?_ ?_
    · refine pf_kk (fun _ => ?_)
      refine pf_kk (fun _ => ?_)
      refine pf_ltS (fs_sq h) (fun s_9 hs_9 => ?_)
      refine pf_ltS (fs_sq hs_9) (fun s_10 hs_10 => ?_)
      exact pf_some hs_10
    · refine pf_ck ?_
      refine pf_ltV (fun x_12 => ?_)
      refine pf_if ?_ ?_
      · refine pf_if ?_ ?_
        · refine pf_cd (cf_Flocks_addGoing hW h) (fun s_17 _ hs_17 => ?_)
          refine pf_ltE ?_
          exact ih _ _ _ _ hs_17
        · refine pf_ltE ?_
          exact ih _ _ _ _ h
      · refine pf_ltE ?_
        exact ih _ _ _ _ h
theorem cf_Flocks_goBy {W : Nat → Prop} (hW : gb_sc W) {n : Nat} {σ0 : gb_S} {σ : gb_S} {p1 : Int32} {p2 : Int32} (h : gb_fs W σ0 σ) : gb_pf W σ0 (cs_Flocks_goBy n σ p1 p2) := by
  unfold cs_Flocks_goBy
  refine pf_kk (fun _ => ?_)
  refine pf_cd (cf_java_util_Arrays_fillJ_J hW h) (fun s_2 _ hs_2 => ?_)
  exact cf_Flocks_goBy_10 hW _ _ _ _ _ hs_2
theorem cf_Flocks_findWays_B_D_28 {W : Nat → Prop} (hW : gb_sc W) {n : Nat} {σ0 : gb_S} : ∀ (mm : Nat) (σ : gb_S) (v1 : Nat) (v2 : Nat) (v3 : Int32) (v4 : Int32) (v5 : Int32), gb_fs W σ0 σ → gb_pf W σ0 (cs_Flocks_findWays_B_D_28 n mm σ v1 v2 v3 v4 v5) := by
  intro mm
  induction mm with
  | zero =>
    intros
    exact pf_none
  | succ mm ih =>
    intro σ v1 v2 v3 v4 v5  h
    unfold cs_Flocks_findWays_B_D_28
    refine pf_kk (fun ck_v1 => ?_)
    refine pf_kk (fun ck_v2 => ?_)
    refine pf_cd (cf_Lines_size_D hW h) (fun s_17 r_18 hs_17 => ?_)
    refine pf_if ?_ ?_
    · exact pf_some hs_17
    · refine pf_cd (cf_Dawn_pathSeen_D hW hs_17) (fun s_22 r_23 hs_22 => ?_)
      refine pf_cd (cf_Border_hasPath_B hW hs_22) (fun s_26 r_27 hs_26 => ?_)
      refine pf_if ?_ ?_
      · refine pf_cd (cf_Dawn_marksSeen_D hW hs_26) (fun s_31 r_32 hs_31 => ?_)
        refine pf_if ?_ ?_
        · refine pf_if ?_ ?_
          · refine pf_kk (fun _ => ?_)
            refine pf_cd (cf_java_util_Arrays_fillJ_J hW hs_31) (fun s_45 _ hs_45 => ?_)
            refine pf_ltE ?_
            exact ih _ _ _ _ _ _ hs_45
          · refine pf_ltE ?_
            exact ih _ _ _ _ _ _ hs_31
        · refine pf_kk (fun _ => ?_)
          refine pf_cd (cf_java_util_Arrays_fillJ_J hW hs_31) (fun s_37 _ hs_37 => ?_)
          refine pf_ltE ?_
          exact ih _ _ _ _ _ _ hs_37
      · refine pf_cd (cf_Flocks_sumUp_B_c131 hW hs_26) (fun s_50 _ hs_50 => ?_)
        refine pf_cd (cf_Dawn_marksSeen_D hW hs_50) (fun s_54 r_55 hs_54 => ?_)
        refine pf_if ?_ ?_
        · refine pf_cd (cf_Flocks_goBy hW hs_54) (fun s_59 _ hs_59 => ?_)
          refine pf_ltE ?_
          exact ih _ _ _ _ _ _ hs_59
        · refine pf_if ?_ ?_
          · refine pf_cd (cf_Flocks_goBy hW hs_54) (fun s_70 _ hs_70 => ?_)
            refine pf_ltE ?_
            exact ih _ _ _ _ _ _ hs_70
          · refine pf_cd (cf_Flocks_goBy hW hs_54) (fun s_65 _ hs_65 => ?_)
            refine pf_ltE ?_
            exact ih _ _ _ _ _ _ hs_65
theorem cf_Flocks_findWays_B_D {W : Nat → Prop} (hW : gb_sc W) {n : Nat} {σ0 : gb_S} {σ : gb_S} {p1 : Nat} {p2 : Nat} {p3 : Int32} {p4 : Int32} (h : gb_fs W σ0 σ) : gb_pf W σ0 (cs_Flocks_findWays_B_D n σ p1 p2 p3 p4) := by
  unfold cs_Flocks_findWays_B_D
  refine pf_kk (fun ck_p1 => ?_)
  refine pf_kk (fun ck_p2 => ?_)
  refine pf_cd (cf_Border_geese_B hW h) (fun s_3 r_4 hs_3 => ?_)
  refine pf_ltS (fs_su (hW.2 _ (by decide)) hs_3) (fun s_7 hs_7 => ?_)
  refine pf_kk (fun _ => ?_)
  refine pf_cd (cf_java_util_Arrays_fillJ_J hW hs_7) (fun s_9 _ hs_9 => ?_)
  refine pf_kk (fun _ => ?_)
  refine pf_ltS (fs_sg hs_9) (fun s_14 hs_14 => ?_)
  exact cf_Flocks_findWays_B_D_28 hW _ _ _ _ _ _ _ hs_14
theorem cf_Flocks_allWays_4 {W : Nat → Prop} (hW : gb_sc W) {n : Nat} {σ0 : gb_S} : ∀ (mm : Nat) (σ : gb_S) (v1 : Int64) (v3 : Int32), gb_fs W σ0 σ → gb_pf W σ0 (cs_Flocks_allWays_4 n mm σ v1 v3) := by
  intro mm
  induction mm with
  | zero =>
    intros
    exact pf_none
  | succ mm ih =>
    intro σ v1 v3  h
    unfold cs_Flocks_allWays_4
    refine pf_if ?_ ?_
    · exact pf_some h
    · refine pf_kk (fun _ => ?_)
      refine pf_ck ?_
      refine pf_ltV (fun x_4 => ?_)
      refine pf_ltE ?_
      refine pf_ltE ?_
      exact ih _ _ _ h
theorem cf_Flocks_allWays {W : Nat → Prop} (hW : gb_sc W) {n : Nat} {σ0 : gb_S} {σ : gb_S} (h : gb_fs W σ0 σ) : gb_pf W σ0 (cs_Flocks_allWays n σ) := by
  unfold cs_Flocks_allWays
  exact cf_Flocks_allWays_4 hW _ _ _ _ h
theorem cf_Face_fits {W : Nat → Prop} (hW : gb_sc W) {n : Nat} {σ0 : gb_S} {σ : gb_S} {p1 : Int32} {p2 : Int32} (h : gb_fs W σ0 σ) : gb_pf W σ0 (cs_Face_fits n σ p1 p2) := by
  unfold cs_Face_fits
  refine pf_cd (cf_Face_borderAt hW h) (fun s_1 r_2 hs_1 => ?_)
  refine pf_if ?_ ?_
  · refine pf_cd (cf_Face_dawnAt hW hs_1) (fun s_6 r_7 hs_6 => ?_)
    refine pf_if ?_ ?_
    · exact pf_some hs_6
    · refine pf_kk (fun ck_r_7 => ?_)
      exact pf_some hs_6
  · refine pf_kk (fun ck_r_2 => ?_)
    refine pf_cd (cf_Face_dawnAt hW hs_1) (fun s_13 r_14 hs_13 => ?_)
    refine pf_if ?_ ?_
    · exact pf_some hs_13
    · refine pf_kk (fun ck_r_14 => ?_)
      refine pf_cd (cf_Flocks_findWays_B_D hW hs_13) (fun s_19 _ hs_19 => ?_)
      refine pf_cd (cf_Flocks_allWays hW hs_19) (fun s_23 r_24 hs_23 => ?_)
      exact pf_some hs_23
theorem cf_Flocks_fewestGone_5 {W : Nat → Prop} (hW : gb_sc W) {n : Nat} {σ0 : gb_S} : ∀ (mm : Nat) (σ : gb_S) (v1 : Int32) (v2 : Int32), gb_fs W σ0 σ → gb_pf W σ0 (cs_Flocks_fewestGone_5 n mm σ v1 v2) := by
  intro mm
  induction mm with
  | zero =>
    intros
    exact pf_none
  | succ mm ih =>
    intro σ v1 v2  h
    unfold cs_Flocks_fewestGone_5
    refine pf_if ?_ ?_
    · exact pf_some h
    · refine pf_kk (fun _ => ?_)
      refine pf_ck ?_
      refine pf_ltV (fun x_4 => ?_)
      refine pf_if ?_ ?_
      · refine pf_ltE ?_
        exact ih _ _ _ h
      · refine pf_cd (cf_java_lang_Integer_bitCount hW h) (fun s_7 r_8 hs_7 => ?_)
        refine pf_ltV (fun x_11 => ?_)
        refine pf_ltE ?_
        exact ih _ _ _ hs_7
theorem cf_Flocks_fewestGone {W : Nat → Prop} (hW : gb_sc W) {n : Nat} {σ0 : gb_S} {σ : gb_S} (h : gb_fs W σ0 σ) : gb_pf W σ0 (cs_Flocks_fewestGone n σ) := by
  unfold cs_Flocks_fewestGone
  exact cf_Flocks_fewestGone_5 hW _ _ _ _ h
theorem cf_Flocks_mostGone_4 {W : Nat → Prop} (hW : gb_sc W) {n : Nat} {σ0 : gb_S} : ∀ (mm : Nat) (σ : gb_S) (v1 : Int32) (v2 : Int32), gb_fs W σ0 σ → gb_pf W σ0 (cs_Flocks_mostGone_4 n mm σ v1 v2) := by
  intro mm
  induction mm with
  | zero =>
    intros
    exact pf_none
  | succ mm ih =>
    intro σ v1 v2  h
    unfold cs_Flocks_mostGone_4
    refine pf_if ?_ ?_
    · exact pf_some h
    · refine pf_kk (fun _ => ?_)
      refine pf_ck ?_
      refine pf_ltV (fun x_4 => ?_)
      refine pf_if ?_ ?_
      · refine pf_ltE ?_
        exact ih _ _ _ h
      · refine pf_cd (cf_java_lang_Integer_bitCount hW h) (fun s_7 r_8 hs_7 => ?_)
        refine pf_ltV (fun x_11 => ?_)
        refine pf_ltE ?_
        exact ih _ _ _ hs_7
theorem cf_Flocks_mostGone {W : Nat → Prop} (hW : gb_sc W) {n : Nat} {σ0 : gb_S} {σ : gb_S} (h : gb_fs W σ0 σ) : gb_pf W σ0 (cs_Flocks_mostGone n σ) := by
  unfold cs_Flocks_mostGone
  exact cf_Flocks_mostGone_4 hW _ _ _ _ h
theorem cf_Flocks_sureOnes_9 {W : Nat → Prop} (hW : gb_sc W) {n : Nat} {σ0 : gb_S} : ∀ (mm : Nat) (σ : gb_S) (v1 : Int32) (v2 : Int32), gb_fs W σ0 σ → gb_pf W σ0 (cs_Flocks_sureOnes_9 n mm σ v1 v2) := by
  intro mm
  induction mm with
  | zero =>
    intros
    exact pf_none
  | succ mm ih =>
    intro σ v1 v2  h
    unfold cs_Flocks_sureOnes_9
    refine pf_if ?_ ?_
    · exact pf_some h
    · refine pf_kk (fun _ => ?_)
      refine pf_ck ?_
      refine pf_ltV (fun x_5 => ?_)
      refine pf_if ?_ ?_
      · refine pf_ltE ?_
        exact ih _ _ _ h
      · refine pf_ltE ?_
        refine pf_ltE ?_
        exact ih _ _ _ h
theorem cf_Flocks_sureOnes {W : Nat → Prop} (hW : gb_sc W) {n : Nat} {σ0 : gb_S} {σ : gb_S} (h : gb_fs W σ0 σ) : gb_pf W σ0 (cs_Flocks_sureOnes n σ) := by
  unfold cs_Flocks_sureOnes
  refine pf_ltE ?_
  exact cf_Flocks_sureOnes_9 hW _ _ _ _ h
theorem cf_Flocks_pathsInAnyWay_B_D_6 {W : Nat → Prop} (hW : gb_sc W) {n : Nat} {σ0 : gb_S} : ∀ (mm : Nat) (σ : gb_S) (v1 : Nat) (v2 : Nat) (v3 : Int32) (v4 : Int32) (v5 : Int32), gb_fs W σ0 σ → gb_pf W σ0 (cs_Flocks_pathsInAnyWay_B_D_6 n mm σ v1 v2 v3 v4 v5) := by
  intro mm
  induction mm with
  | zero =>
    intros
    exact pf_none
  | succ mm ih =>
    intro σ v1 v2 v3 v4 v5  h
    unfold cs_Flocks_pathsInAnyWay_B_D_6
    refine pf_kk (fun ck_v1 => ?_)
    refine pf_kk (fun ck_v2 => ?_)
    refine pf_cd (cf_Lines_size_D hW h) (fun s_5 r_6 hs_5 => ?_)
    refine pf_if ?_ ?_
    · exact pf_some hs_5
    · refine pf_cd (cf_Flocks_findWays_B_D hW hs_5) (fun s_10 _ hs_10 => ?_)
      refine pf_cd (cf_Flocks_allWays hW hs_10) (fun s_14 r_15 hs_14 => ?_)
      refine pf_if ?_ ?_
      · refine pf_ltE ?_
        exact ih _ _ _ _ _ _ hs_14
      · refine pf_cd (cf_Dawn_pathSeen_D hW hs_14) (fun s_20 r_21 hs_20 => ?_)
        refine pf_ltE ?_
        refine pf_ltE ?_
        exact ih _ _ _ _ _ _ hs_20
theorem cf_Flocks_pathsInAnyWay_B_D {W : Nat → Prop} (hW : gb_sc W) {n : Nat} {σ0 : gb_S} {σ : gb_S} {p1 : Nat} {p2 : Nat} {p3 : Int32} (h : gb_fs W σ0 σ) : gb_pf W σ0 (cs_Flocks_pathsInAnyWay_B_D n σ p1 p2 p3) := by
  unfold cs_Flocks_pathsInAnyWay_B_D
  refine pf_kk (fun ck_p1 => ?_)
  refine pf_kk (fun ck_p2 => ?_)
  exact cf_Flocks_pathsInAnyWay_B_D_6 hW _ _ _ _ _ _ _ h
theorem cf_Face_toeOf_B_D_12 {W : Nat → Prop} (hW : gb_sc W) {n : Nat} {σ0 : gb_S} {k2 : gb_S → Nat → Nat → Int32 → gb_CR Int32} (h_k2 : ∀ (s : gb_S) (x1 : Nat) (x2 : Nat) (x3 : Int32), gb_fs W σ0 s → gb_pf W σ0 (k2 s x1 x2 x3)) : ∀ (mm : Nat) (σ : gb_S) (v0 : Nat) (v1 : Nat) (v2 : Int32) (v3 : Int32), gb_fs W σ0 σ → gb_pf W σ0 (cs_Face_toeOf_B_D_12 n k2 mm σ v0 v1 v2 v3) := by
  intro mm
  induction mm with
  | zero =>
    intros
    exact pf_none
  | succ mm ih =>
    intro σ v0 v1 v2 v3  h
    unfold cs_Face_toeOf_B_D_12
    refine pf_kk (fun ck_v0 => ?_)
    refine pf_kk (fun ck_v1 => ?_)
    refine pf_cd (cf_Lines_size_D hW h) (fun s_12 r_13 hs_12 => ?_)
    refine pf_if ?_ ?_
    · refine pf_ltE ?_
      exact h_k2 _ _ _ _ hs_12
    · refine pf_cd (cf_Dawn_pathSeen_D hW hs_12) (fun s_18 r_19 hs_18 => ?_)
      refine pf_cd (cf_Border_hasPath_B hW hs_18) (fun s_22 r_23 hs_22 => ?_)
      refine pf_if ?_ ?_
      · refine pf_ltE ?_
        exact ih _ _ _ _ _ hs_22
      · refine pf_cd (cf_Border_marksFirst_B hW hs_22) (fun s_28 r_29 hs_28 => ?_)
        refine pf_cd (cf_Dawn_marksSeen_D hW hs_28) (fun s_32 r_33 hs_32 => ?_)
        refine pf_if ?_ ?_
        · exact pf_some hs_32
        · refine pf_ltE ?_
          exact ih _ _ _ _ _ hs_32
theorem cf_Face_toeOf_B_D_2 {W : Nat → Prop} (hW : gb_sc W) {n : Nat} {σ0 : gb_S} : ∀ (mm : Nat) (σ : gb_S) (v0 : Nat) (v1 : Nat) (v2 : Int32), gb_fs W σ0 σ → gb_pf W σ0 (cs_Face_toeOf_B_D_2 n mm σ v0 v1 v2) := by
  intro mm
  induction mm with
  | zero =>
    intros
    exact pf_none
  | succ mm ih =>
    intro σ v0 v1 v2  h
    unfold cs_Face_toeOf_B_D_2
    refine pf_kk (fun ck_v0 => ?_)
    refine pf_kk (fun ck_v1 => ?_)
    refine pf_cd (cf_Border_geese_B hW h) (fun s_5 r_6 hs_5 => ?_)
    refine pf_if ?_ ?_
    · exact pf_some hs_5
    · refine cf_Face_toeOf_B_D_12 hW ?_ _ _ _ _ _ _ hs_5
      · intro σ v0 v1 v2 hσ
        exact ih _ _ _ _ hσ
theorem cf_Face_toeOf_B_D {W : Nat → Prop} (hW : gb_sc W) {n : Nat} {σ0 : gb_S} {σ : gb_S} {p1 : Nat} {p2 : Nat} (h : gb_fs W σ0 σ) : gb_pf W σ0 (cs_Face_toeOf_B_D n σ p1 p2) := by
  unfold cs_Face_toeOf_B_D
  refine pf_kk (fun ck_p1 => ?_)
  refine pf_kk (fun ck_p2 => ?_)
  exact cf_Face_toeOf_B_D_2 hW _ _ _ _ _ h
theorem cf_Face_told_82 {W : Nat → Prop} (hW : gb_sc W) {n : Nat} {σ0 : gb_S} {σ : gb_S} {v3 : Int32} {v4 : Nat} {v5 : Nat} (h : gb_fs W σ0 σ) : gb_pf W σ0 (cs_Face_told_82 n σ v3 v4 v5) := by
  unfold cs_Face_told_82
  refine pf_kk (fun ck_v4 => ?_)
  refine pf_kk (fun ck_v5 => ?_)
  refine pf_cd (cf_Flocks_findWays_B_D hW h) (fun s_28 _ hs_28 => ?_)
  refine pf_cd (cf_Flocks_allWays hW hs_28) (fun s_32 r_33 hs_32 => ?_)
  refine pf_if ?_ ?_
  · exact pf_some hs_32
  · refine pf_if ?_ ?_
    · refine pf_cd (cf_Flocks_fewestGone hW hs_32) (fun s_38 r_39 hs_38 => ?_)
      exact pf_some hs_38
    · refine pf_if ?_ ?_
      · refine pf_cd (cf_Flocks_mostGone hW hs_32) (fun s_43 r_44 hs_43 => ?_)
        exact pf_some hs_43
      · refine pf_if ?_ ?_
        · refine pf_cd (cf_Flocks_sureOnes hW hs_32) (fun s_48 r_49 hs_48 => ?_)
          exact pf_some hs_48
        · refine pf_cd (cf_Flocks_pathsInAnyWay_B_D hW hs_32) (fun s_52 r_53 hs_52 => ?_)
          exact pf_some hs_52
theorem cf_Face_told_63 {W : Nat → Prop} (hW : gb_sc W) {n : Nat} {σ0 : gb_S} {σ : gb_S} {v3 : Int32} {v4 : Nat} {v5 : Nat} {t0 : Int32} (h : gb_fs W σ0 σ) : gb_pf W σ0 (cs_Face_told_63 n σ v3 v4 v5 t0) := by
  unfold cs_Face_told_63
  refine pf_kk (fun ck_v4 => ?_)
  refine pf_kk (fun ck_v5 => ?_)
  refine pf_if ?_ ?_
  · refine pf_if ?_ ?_
    · exact pf_some h
    · refine pf_if ?_ ?_
      · exact cf_Face_told_82 hW h
      · exact pf_some h
  · exact cf_Face_told_82 hW h
theorem cf_Face_told_62 {W : Nat → Prop} (hW : gb_sc W) {n : Nat} {σ0 : gb_S} {σ : gb_S} {v3 : Int32} {v4 : Nat} {v5 : Nat} (h : gb_fs W σ0 σ) : gb_pf W σ0 (cs_Face_told_62 n σ v3 v4 v5) := by
  unfold cs_Face_told_62
  refine pf_kk (fun ck_v4 => ?_)
  refine pf_kk (fun ck_v5 => ?_)
  exact cf_Face_told_63 hW h
theorem cf_Face_told {W : Nat → Prop} (hW : gb_sc W) {n : Nat} {σ0 : gb_S} {σ : gb_S} {p1 : Int32} {p2 : Int32} {p3 : Int32} (h : gb_fs W σ0 σ) : gb_pf W σ0 (cs_Face_told n σ p1 p2 p3) := by
  unfold cs_Face_told
  refine pf_cd (cf_Face_borderAt hW h) (fun s_1 r_2 hs_1 => ?_)
  refine pf_if ?_ ?_
  · refine pf_cd (cf_Face_dawnAt hW hs_1) (fun s_6 r_7 hs_6 => ?_)
    refine pf_if ?_ ?_
    · exact pf_some hs_6
    · refine pf_kk (fun ck_r_7 => ?_)
      exact pf_some hs_6
  · refine pf_kk (fun ck_r_2 => ?_)
    refine pf_cd (cf_Face_dawnAt hW hs_1) (fun s_13 r_14 hs_13 => ?_)
    refine pf_if ?_ ?_
    · exact pf_some hs_13
    · refine pf_kk (fun ck_r_14 => ?_)
      refine pf_if ?_ ?_
      · refine pf_cd (cf_Face_toeOf_B_D hW hs_13) (fun s_63 r_64 hs_63 => ?_)
        exact pf_some hs_63
      · refine pf_if ?_ ?_
        · exact cf_Face_told_62 hW hs_13
        · refine pf_cd (cf_Border_hasGoose_B hW hs_13) (fun s_58 r_59 hs_58 => ?_)
          refine pf_if ?_ ?_
          · exact cf_Face_told_62 hW hs_58
          · exact cf_Face_told_63 hW hs_58
theorem cf_Face_isDrawnOf_B_9 {W : Nat → Prop} (hW : gb_sc W) {n : Nat} {σ0 : gb_S} {σ : gb_S} {v0 : Nat} {v1 : Int32} (h : gb_fs W σ0 σ) : gb_pf W σ0 (cs_Face_isDrawnOf_B_9 n σ v0 v1) := by
  unfold cs_Face_isDrawnOf_B_9
  refine pf_kk (fun ck_v0 => ?_)
  refine pf_if ?_ ?_
  · refine pf_if ?_ ?_
    · exact pf_some h
    · refine pf_cd (cf_Border_hasGoose_B hW h) (fun s_6 r_7 hs_6 => ?_)
      refine pf_if ?_ ?_
      · exact pf_some hs_6
      · exact pf_some hs_6
  · refine pf_if ?_ ?_
    · refine pf_if ?_ ?_
      · exact pf_some h
      · refine pf_cd (cf_Border_hasGoose_B hW h) (fun s_13 r_14 hs_13 => ?_)
        refine pf_if ?_ ?_
        · exact pf_some hs_13
        · exact pf_some hs_13
    · refine pf_cd (cf_Border_hasPath_B hW h) (fun s_18 r_19 hs_18 => ?_)
      refine pf_if ?_ ?_
      · refine pf_if ?_ ?_
        · exact pf_some hs_18
        · refine pf_cd (cf_Border_hasGoose_B hW hs_18) (fun s_24 r_25 hs_24 => ?_)
          refine pf_if ?_ ?_
          · exact pf_some hs_24
          · exact pf_some hs_24
      · exact pf_some hs_18
theorem cf_Face_isDrawnOf_B {W : Nat → Prop} (hW : gb_sc W) {n : Nat} {σ0 : gb_S} {σ : gb_S} {p1 : Nat} {p2 : Int32} (h : gb_fs W σ0 σ) : gb_pf W σ0 (cs_Face_isDrawnOf_B n σ p1 p2) := by
  unfold cs_Face_isDrawnOf_B
  refine pf_kk (fun ck_p1 => ?_)
  refine pf_if ?_ ?_
  · exact cf_Face_isDrawnOf_B_9 hW h
  · refine pf_if ?_ ?_
    · exact pf_some h
    · exact cf_Face_isDrawnOf_B_9 hW h
theorem cf_Face_numberBelow {W : Nat → Prop} (hW : gb_sc W) {n : Nat} {σ0 : gb_S} {σ : gb_S} {p1 : Int32} (hw_0 : W 0) (h : gb_fs W σ0 σ) : gb_pf W σ0 (cs_Face_numberBelow n σ p1) := by
  unfold cs_Face_numberBelow
  refine pf_ltS (fs_su hW.1 h) (fun s_1 hs_1 => ?_)
  refine pf_if ?_ ?_
  · exact pf_some hs_1
  · refine pf_nz ?_
    refine pf_ltE ?_
    exact pf_some hs_1
theorem cf_Play_allTallies_4 {W : Nat → Prop} (hW : gb_sc W) {n : Nat} {σ0 : gb_S} : ∀ (mm : Nat) (σ : gb_S) (v1 : Int32) (v2 : Int32), gb_fs W σ0 σ → gb_pf W σ0 (cs_Play_allTallies_4 n mm σ v1 v2) := by
  intro mm
  induction mm with
  | zero =>
    intros
    exact pf_none
  | succ mm ih =>
    intro σ v1 v2  h
    unfold cs_Play_allTallies_4
    refine pf_kk (fun _ => ?_)
    refine pf_cd (cf_Border_paths_B hW h) (fun s_2 r_3 hs_2 => ?_)
    refine pf_if ?_ ?_
    · exact pf_some hs_2
    · refine pf_cd (cf_Play_tally hW hs_2) (fun s_7 r_8 hs_7 => ?_)
      refine pf_ltE ?_
      refine pf_ltE ?_
      exact ih _ _ _ hs_7
theorem cf_Play_allTallies {W : Nat → Prop} (hW : gb_sc W) {n : Nat} {σ0 : gb_S} {σ : gb_S} (h : gb_fs W σ0 σ) : gb_pf W σ0 (cs_Play_allTallies n σ) := by
  unfold cs_Play_allTallies
  exact cf_Play_allTallies_4 hW _ _ _ _ h
theorem cf_Face_drawnNight_B_70 {W : Nat → Prop} (hW : gb_sc W) {n : Nat} {σ0 : gb_S} : ∀ (mm : Nat) (σ : gb_S) (v1 : Nat) (v2 : Int32) (v3 : Int32) (v4 : Int32), W 0 → gb_fs W σ0 σ → gb_pf W σ0 (cs_Face_drawnNight_B_70 n mm σ v1 v2 v3 v4) := by
  intro mm
  induction mm with
  | zero =>
    intros
    exact pf_none
  | succ mm ih =>
    intro σ v1 v2 v3 v4 hw_0 h
    unfold cs_Face_drawnNight_B_70
    refine pf_kk (fun ck_v1 => ?_)
    refine pf_cd (cf_Border_paths_B hW h) (fun s_21 r_22 hs_21 => ?_)
    refine pf_if ?_ ?_
    · refine pf_if ?_ ?_
      · refine pf_cd (cf_Play_allTallies hW hs_21) (fun s_27 r_28 hs_27 => ?_)
        exact pf_some hs_27
      · refine pf_if ?_ ?_
        · refine pf_cd (cf_Play_allPay hW hs_21) (fun s_32 r_33 hs_32 => ?_)
          exact pf_some hs_32
        · refine pf_if ?_ ?_
          · exact pf_some hs_21
          · refine pf_if ?_ ?_
            · refine pf_ck ?_
              refine pf_ltV (fun x_39 => ?_)
              exact pf_some hs_21
            · refine pf_cd (cf_Play_tally hW hs_21) (fun s_40 r_41 hs_40 => ?_)
              exact pf_some hs_40
    · refine pf_cd (cf_Face_numberBelow hW hW.1 hs_21) (fun s_44 r_45 hs_44 => ?_)
      refine pf_cd (cf_Border_pad_B hW hs_44) (fun s_48 r_49 hs_48 => ?_)
      refine pf_if ?_ ?_
      · refine pf_ltE ?_
        exact ih _ _ _ _ _ hW.1 hs_48
      · refine pf_ltE ?_
        refine pf_ltE ?_
        exact ih _ _ _ _ _ hW.1 hs_48
theorem cf_Face_drawnNight_B_10 {W : Nat → Prop} (hW : gb_sc W) {n : Nat} {σ0 : gb_S} : ∀ (mm : Nat) (σ : gb_S) (v1 : Nat) (v2 : Int32) (v3 : Int32), W 0 → gb_fs W σ0 σ → gb_pf W σ0 (cs_Face_drawnNight_B_10 n mm σ v1 v2 v3) := by
  intro mm
  induction mm with
  | zero =>
    intros
    exact pf_none
  | succ mm ih =>
    intro σ v1 v2 v3 hw_0 h
    unfold cs_Face_drawnNight_B_10
    refine pf_kk (fun ck_v1 => ?_)
    refine pf_cd (cf_Border_geese_B hW h) (fun s_7 r_8 hs_7 => ?_)
    refine pf_if ?_ ?_
    · refine pf_cd (cf_Face_numberBelow hW hW.1 hs_7) (fun s_12 r_13 hs_12 => ?_)
      refine pf_cd (cf_Play_rainDown hW hs_12) (fun s_16 _ hs_16 => ?_)
      exact cf_Face_drawnNight_B_70 hW _ _ _ _ _ _ hW.1 hs_16
    · refine pf_cd (cf_Border_paths_B hW hs_7) (fun s_56 r_57 hs_56 => ?_)
      refine pf_cd (cf_Face_numberBelow hW hW.1 hs_56) (fun s_60 r_61 hs_60 => ?_)
      refine pf_cd (cf_Play_go_c116 hW hs_60) (fun s_64 _ hs_64 => ?_)
      refine pf_ltE ?_
      exact ih _ _ _ _ hW.1 hs_64
theorem cf_Face_drawnNight_B {W : Nat → Prop} (hW : gb_sc W) {n : Nat} {σ0 : gb_S} {σ : gb_S} {p1 : Nat} {p2 : Int32} (hw_0 : W 0) (h : gb_fs W σ0 σ) : gb_pf W σ0 (cs_Face_drawnNight_B n σ p1 p2) := by
  unfold cs_Face_drawnNight_B
  refine pf_kk (fun ck_p1 => ?_)
  refine pf_cd (cf_Play_begin_B hW h) (fun s_2 _ hs_2 => ?_)
  exact cf_Face_drawnNight_B_10 hW _ _ _ _ _ hW.1 hs_2
theorem cf_Face_drawn_54 {W : Nat → Prop} (hW : gb_sc W) {n : Nat} {σ0 : gb_S} : ∀ (mm : Nat) (σ : gb_S) (v3 : Int32) (v4 : Int32) (v5 : Nat) (v6 : Int32) (v7 : Int32), W 0 → gb_fs W σ0 σ → gb_pf W σ0 (cs_Face_drawn_54 n mm σ v3 v4 v5 v6 v7) := by
  intro mm
  induction mm with
  | zero =>
    intros
    exact pf_none
  | succ mm ih =>
    intro σ v3 v4 v5 v6 v7 hw_0 h
    unfold cs_Face_drawn_54
    refine pf_kk (fun ck_v5 => ?_)
    refine pf_if ?_ ?_
    · exact pf_some h
    · refine pf_cd (cf_Face_drawnNight_B hW hW.1 h) (fun s_22 r_23 hs_22 => ?_)
      refine pf_ltE ?_
      refine pf_ltE ?_
      exact ih _ _ _ _ _ _ hW.1 hs_22
theorem cf_Face_drawn {W : Nat → Prop} (hW : gb_sc W) {n : Nat} {σ0 : gb_S} {σ : gb_S} {p1 : Int32} {p2 : Int32} {p3 : Int32} {p4 : Int32} (hw_0 : W 0) (h : gb_fs W σ0 σ) : gb_pf W σ0 (cs_Face_drawn n σ p1 p2 p3 p4) := by
  unfold cs_Face_drawn
  refine pf_cd (cf_Face_borderAt hW h) (fun s_1 r_2 hs_1 => ?_)
  refine pf_if ?_ ?_
  · exact pf_some hs_1
  · refine pf_kk (fun ck_r_2 => ?_)
    refine pf_cd (cf_Border_paths_B hW hs_1) (fun s_7 r_8 hs_7 => ?_)
    refine pf_if ?_ ?_
    · exact pf_some hs_7
    · refine pf_if ?_ ?_
      · exact pf_some hs_7
      · refine pf_if ?_ ?_
        · exact pf_some hs_7
        · refine pf_cd (cf_Face_isDrawnOf_B hW hs_7) (fun s_14 r_15 hs_14 => ?_)
          refine pf_if ?_ ?_
          · exact pf_some hs_14
          · refine pf_ltS (fs_su hW.1 hs_14) (fun s_19 hs_19 => ?_)
            exact cf_Face_drawn_54 hW _ _ _ _ _ _ _ hW.1 hs_19
theorem cf_Reader_wordOf {W : Nat → Prop} (hW : gb_sc W) {n : Nat} {σ0 : gb_S} {σ : gb_S} {p1 : Int32} (h : gb_fs W σ0 σ) : gb_pf W σ0 (cs_Reader_wordOf n σ p1) := by
  unfold cs_Reader_wordOf
  refine pf_if ?_ ?_
  · exact pf_some h
  · refine pf_if ?_ ?_
    · exact pf_some h
    · refine pf_if ?_ ?_
      · exact pf_some h
      · refine pf_if ?_ ?_
        · exact pf_some h
        · refine pf_if ?_ ?_
          · exact pf_some h
          · refine pf_if ?_ ?_
            · exact pf_some h
            · refine pf_if ?_ ?_
              · exact pf_some h
              · refine pf_if ?_ ?_
                · exact pf_some h
                · refine pf_if ?_ ?_
                  · exact pf_some h
                  · refine pf_if ?_ ?_
                    · exact pf_some h
                    · refine pf_if ?_ ?_
                      · exact pf_some h
                      · refine pf_if ?_ ?_
                        · exact pf_some h
                        · refine pf_if ?_ ?_
                          · exact pf_some h
                          · refine pf_if ?_ ?_
                            · exact pf_some h
                            · refine pf_if ?_ ?_
                              · exact pf_some h
                              · refine pf_if ?_ ?_
                                · exact pf_some h
                                · refine pf_if ?_ ?_
                                  · exact pf_some h
                                  · exact pf_some h
theorem cf_java_lang_String_coder_W {W : Nat → Prop} (hW : gb_sc W) {n : Nat} {σ0 : gb_S} {σ : gb_S} {k0 : Nat} (h : gb_fs W σ0 σ) : gb_pf W σ0 (cs_java_lang_String_coder_W n σ k0) := by
  unfold cs_java_lang_String_coder_W
  refine pf_kk (fun ck_k0 => ?_)
  refine pf_if ?_ ?_
  · exact pf_some h
  · exact pf_some h
theorem cf_java_lang_String_length_W {W : Nat → Prop} (hW : gb_sc W) {n : Nat} {σ0 : gb_S} {σ : gb_S} {k0 : Nat} (h : gb_fs W σ0 σ) : gb_pf W σ0 (cs_java_lang_String_length_W n σ k0) := by
  unfold cs_java_lang_String_length_W
  refine pf_kk (fun ck_k0 => ?_)
  refine pf_cd (cf_java_lang_String_coder_W hW h) (fun s_2 r_3 hs_2 => ?_)
  exact pf_some hs_2
theorem cf_java_lang_String_isLatin1_W {W : Nat → Prop} (hW : gb_sc W) {n : Nat} {σ0 : gb_S} {σ : gb_S} {k0 : Nat} (h : gb_fs W σ0 σ) : gb_pf W σ0 (cs_java_lang_String_isLatin1_W n σ k0) := by
  unfold cs_java_lang_String_isLatin1_W
  refine pf_kk (fun ck_k0 => ?_)
  refine pf_if ?_ ?_
  · exact pf_some h
  · refine pf_if ?_ ?_
    · exact pf_some h
    · exact pf_some h
theorem cf_jdk_internal_util_Preconditions_checkIndex_n {W : Nat → Prop} (hW : gb_sc W) {n : Nat} {σ0 : gb_S} {σ : gb_S} {p1 : Int32} {p2 : Int32} (h : gb_fs W σ0 σ) : gb_pf W σ0 (cs_jdk_internal_util_Preconditions_checkIndex_n n σ p1 p2) := by
  unfold cs_jdk_internal_util_Preconditions_checkIndex_n
  refine pf_if ?_ ?_
  · exact pf_none
  · refine pf_if ?_ ?_
    · exact pf_some h
    · exact pf_none
theorem cf_java_lang_String_checkIndex {W : Nat → Prop} (hW : gb_sc W) {n : Nat} {σ0 : gb_S} {σ : gb_S} {p1 : Int32} {p2 : Int32} (h : gb_fs W σ0 σ) : gb_pf W σ0 (cs_java_lang_String_checkIndex n σ p1 p2) := by
  unfold cs_java_lang_String_checkIndex
  refine pf_cd (cf_jdk_internal_util_Preconditions_checkIndex_n hW h) (fun s_1 r_2 hs_1 => ?_)
  exact pf_some hs_1
theorem cf_java_lang_StringLatin1_charAt_V {W : Nat → Prop} (hW : gb_sc W) {n : Nat} {σ0 : gb_S} {σ : gb_S} {p1 : Nat} {p2 : Int32} (h : gb_fs W σ0 σ) : gb_pf W σ0 (cs_java_lang_StringLatin1_charAt_V n σ p1 p2) := by
  unfold cs_java_lang_StringLatin1_charAt_V
  refine pf_kk (fun ck_p1 => ?_)
  refine pf_cd (cf_java_lang_String_checkIndex hW h) (fun s_2 _ hs_2 => ?_)
  refine pf_ck ?_
  exact pf_some hs_2
theorem cf_java_lang_String_charAt_W {W : Nat → Prop} (hW : gb_sc W) {n : Nat} {σ0 : gb_S} {σ : gb_S} {k0 : Nat} {p1 : Int32} (h : gb_fs W σ0 σ) : gb_pf W σ0 (cs_java_lang_String_charAt_W n σ k0 p1) := by
  unfold cs_java_lang_String_charAt_W
  refine pf_kk (fun ck_k0 => ?_)
  refine pf_cd (cf_java_lang_String_isLatin1_W hW h) (fun s_2 r_3 hs_2 => ?_)
  refine pf_if ?_ ?_
  · exact pf_none
  · refine pf_cd (cf_java_lang_StringLatin1_charAt_V hW hs_2) (fun s_7 r_8 hs_7 => ?_)
    refine pf_cc ?_
    exact pf_some hs_7
theorem cf_Reader_isWord_W_17 {W : Nat → Prop} (hW : gb_sc W) {n : Nat} {σ0 : gb_S} : ∀ (mm : Nat) (σ : gb_S) (v1 : Nat) (v3 : Int32), gb_fs W σ0 σ → gb_pf W σ0 (cs_Reader_isWord_W_17 n mm σ v1 v3) := by
  intro mm
  induction mm with
  | zero =>
    intros
    exact pf_none
  | succ mm ih =>
    intro σ v1 v3  h
    unfold cs_Reader_isWord_W_17
    refine pf_kk (fun ck_v1 => ?_)
    refine pf_cd (cf_java_lang_String_length_W hW h) (fun s_8 r_9 hs_8 => ?_)
    refine pf_if ?_ ?_
    · exact pf_some hs_8
    · refine pf_kk (fun _ => ?_)
      refine pf_ck ?_
      refine pf_ltV (fun x_15 => ?_)
      refine pf_cd (cf_java_lang_String_charAt_W hW hs_8) (fun s_16 r_17 hs_16 => ?_)
      refine pf_if ?_ ?_
      · refine pf_ltE ?_
        exact ih _ _ _ hs_16
      · exact pf_some hs_16
theorem cf_Reader_isWord_W {W : Nat → Prop} (hW : gb_sc W) {n : Nat} {σ0 : gb_S} {σ : gb_S} {p1 : Nat} {p2 : Int32} (h : gb_fs W σ0 σ) : gb_pf W σ0 (cs_Reader_isWord_W n σ p1 p2) := by
  unfold cs_Reader_isWord_W
  refine pf_kk (fun ck_p1 => ?_)
  refine pf_cd (cf_java_lang_String_length_W hW h) (fun s_2 r_3 hs_2 => ?_)
  refine pf_if ?_ ?_
  · exact cf_Reader_isWord_W_17 hW _ _ _ _ hs_2
  · exact pf_some hs_2
theorem cf_Reader_takeWord_47 {W : Nat → Prop} (hW : gb_sc W) {n : Nat} {σ0 : gb_S} : ∀ (mm : Nat) (σ : gb_S) (v1 : Int32) (v2 : Int32) (v3 : Int32), gb_fs W σ0 σ → gb_pf W σ0 (cs_Reader_takeWord_47 n mm σ v1 v2 v3) := by
  intro mm
  induction mm with
  | zero =>
    intros
    exact pf_none
  | succ mm ih =>
    intro σ v1 v2 v3  h
    unfold cs_Reader_takeWord_47
    refine pf_ck ?_
    refine pf_ltV (fun x_6 => ?_)
    refine pf_if ?_ ?_
    · exact pf_some h
    · refine pf_cd (cf_Reader_wordOf hW h) (fun s_8 r_9 hs_8 => ?_)
      refine pf_kk (fun ck_r_9 => ?_)
      refine pf_cd (cf_Reader_isWord_W hW hs_8) (fun s_13 r_14 hs_13 => ?_)
      refine pf_if ?_ ?_
      · refine pf_ltE ?_
        exact ih _ _ _ _ hs_13
      · refine pf_ltS (fs_su (hW.2 _ (by decide)) hs_13) (fun s_19 hs_19 => ?_)
        exact pf_some hs_19
theorem cf_Reader_takeWord_5 {W : Nat → Prop} (hW : gb_sc W) {n : Nat} {σ0 : gb_S} : ∀ (mm : Nat) (σ : gb_S) (v1 : Int32) (v2 : Int32), gb_fs W σ0 σ → gb_pf W σ0 (cs_Reader_takeWord_5 n mm σ v1 v2) := by
  intro mm
  induction mm with
  | zero =>
    intros
    exact pf_none
  | succ mm ih =>
    intro σ v1 v2  h
    unfold cs_Reader_takeWord_5
    refine pf_if ?_ ?_
    · refine pf_ck ?_
      refine pf_ltV (fun x_4 => ?_)
      exact cf_Reader_takeWord_47 hW _ _ _ _ _ h
    · refine pf_kk (fun _ => ?_)
      refine pf_ck ?_
      refine pf_ltV (fun x_22 => ?_)
      refine pf_if ?_ ?_
      · refine pf_ck ?_
        refine pf_ltV (fun x_25 => ?_)
        exact cf_Reader_takeWord_47 hW _ _ _ _ _ h
      · refine pf_kk (fun _ => ?_)
        refine pf_ck ?_
        refine pf_ltV (fun x_28 => ?_)
        refine pf_if ?_ ?_
        · refine pf_ck ?_
          refine pf_ltV (fun x_31 => ?_)
          exact cf_Reader_takeWord_47 hW _ _ _ _ _ h
        · refine pf_ltE ?_
          exact ih _ _ _ h
theorem cf_Reader_takeWord {W : Nat → Prop} (hW : gb_sc W) {n : Nat} {σ0 : gb_S} {σ : gb_S} {p1 : Int32} (h : gb_fs W σ0 σ) : gb_pf W σ0 (cs_Reader_takeWord n σ p1) := by
  unfold cs_Reader_takeWord
  refine pf_ltV (fun x_1 => ?_)
  exact cf_Reader_takeWord_5 hW _ _ _ _ h
theorem cf_Border_addLine_B_c107 {W : Nat → Prop} (hW : gb_sc W) {n : Nat} {σ0 : gb_S} {σ : gb_S} {k0 : Nat} {p1 : Int32} (hw_k0_1 : W (k0 + 1)) (h : gb_fs W σ0 σ) : gb_pf W σ0 (cs_Border_addLine_B_c107 n σ k0 p1) := by
  unfold cs_Border_addLine_B_c107
  refine pf_kk (fun ck_k0 => ?_)
  refine pf_cd (cf_Border_hasRoomFor_B hW h) (fun s_2 r_3 hs_2 => ?_)
  refine pf_if ?_ ?_
  · exact pf_some hs_2
  · refine pf_if ?_ ?_
    · refine pf_ltV (fun x_26 => ?_)
      refine pf_ltS (fs_su hw_k0_1 hs_2) (fun s_27 hs_27 => ?_)
      exact pf_some hs_27
    · refine pf_if ?_ ?_
      · refine pf_cd (cf_Border_paths_B hW hs_2) (fun s_18 r_19 hs_18 => ?_)
        refine pf_ac ?_
        refine pf_ltS (fs_su hw_k0_1 hs_18) (fun s_23 hs_23 => ?_)
        refine pf_ltV (fun x_24 => ?_)
        refine pf_ltS (fs_su hw_k0_1 hs_23) (fun s_25 hs_25 => ?_)
        exact pf_some hs_25
      · refine pf_if ?_ ?_
        · refine pf_cd (cf_Border_geese_B hW hs_2) (fun s_10 r_11 hs_10 => ?_)
          refine pf_ac ?_
          refine pf_ltS (fs_su hw_k0_1 hs_10) (fun s_15 hs_15 => ?_)
          refine pf_ltV (fun x_16 => ?_)
          refine pf_ltS (fs_su hw_k0_1 hs_15) (fun s_17 hs_17 => ?_)
          exact pf_some hs_17
        · exact pf_some hs_2
theorem cf_Lines_hasRoomFor_N {W : Nat → Prop} (hW : gb_sc W) {n : Nat} {σ0 : gb_S} {σ : gb_S} {k0 : Nat} {p1 : Int32} (h : gb_fs W σ0 σ) : gb_pf W σ0 (cs_Lines_hasRoomFor_N n σ k0 p1) := by
  unfold cs_Lines_hasRoomFor_N
  refine pf_kk (fun ck_k0 => ?_)
  refine pf_cd (cf_Lines_size_N hW h) (fun s_2 r_3 hs_2 => ?_)
  refine pf_if ?_ ?_
  · exact pf_some hs_2
  · exact pf_some hs_2
theorem cf_Lines_addLine_N_c107_48 {W : Nat → Prop} (hW : gb_sc W) {n : Nat} {σ0 : gb_S} : ∀ (mm : Nat) (σ : gb_S) (v0 : Nat) (v1 : Int32) (v3 : Int32) (v4 : Int32), W (v0 + 1) → gb_fs W σ0 σ → gb_pf W σ0 (cs_Lines_addLine_N_c107_48 n mm σ v0 v1 v3 v4) := by
  intro mm
  induction mm with
  | zero =>
    intros
    exact pf_none
  | succ mm ih =>
    intro σ v0 v1 v3 v4 hw_v0_1 h
    unfold cs_Lines_addLine_N_c107_48
    refine pf_kk (fun ck_v0 => ?_)
    refine pf_if ?_ ?_
    · refine pf_ltV (fun x_18 => ?_)
      refine pf_ltS (fs_su hw_v0_1 h) (fun s_19 hs_19 => ?_)
      exact pf_some hs_19
    · refine pf_ck ?_
      refine pf_ltV (fun x_21 => ?_)
      refine pf_if ?_ ?_
      · refine pf_ck ?_
        refine pf_ltS (fs_su hw_v0_1 h) (fun s_24 hs_24 => ?_)
        refine pf_ltE ?_
        exact ih _ _ _ _ _ hw_v0_1 hs_24
      · refine pf_ck ?_
        refine pf_ltV (fun x_27 => ?_)
        refine pf_ck ?_
        refine pf_ltS (fs_su hw_v0_1 h) (fun s_29 hs_29 => ?_)
        refine pf_ltE ?_
        exact ih _ _ _ _ _ hw_v0_1 hs_29
theorem cf_Lines_addLine_N_c107 {W : Nat → Prop} (hW : gb_sc W) {n : Nat} {σ0 : gb_S} {σ : gb_S} {k0 : Nat} {p1 : Int32} (hw_k0_1 : W (k0 + 1)) (h : gb_fs W σ0 σ) : gb_pf W σ0 (cs_Lines_addLine_N_c107 n σ k0 p1) := by
  unfold cs_Lines_addLine_N_c107
  refine pf_kk (fun ck_k0 => ?_)
  refine pf_cd (cf_Lines_hasRoomFor_N hW h) (fun s_2 r_3 hs_2 => ?_)
  refine pf_if ?_ ?_
  · exact pf_some hs_2
  · refine pf_if ?_ ?_
    · exact pf_some hs_2
    · refine pf_if ?_ ?_
      · refine pf_cd (cf_Lines_size_N hW hs_2) (fun s_9 r_10 hs_9 => ?_)
        refine pf_ltE ?_
        refine pf_ck ?_
        refine pf_ltS (fs_su hw_k0_1 hs_9) (fun s_15 hs_15 => ?_)
        exact cf_Lines_addLine_N_c107_48 hW _ _ _ _ _ _ hw_k0_1 hs_15
      · exact pf_some hs_2
theorem cf_Lines_hasRoomFor_L {W : Nat → Prop} (hW : gb_sc W) {n : Nat} {σ0 : gb_S} {σ : gb_S} {k0 : Nat} {p1 : Int32} (h : gb_fs W σ0 σ) : gb_pf W σ0 (cs_Lines_hasRoomFor_L n σ k0 p1) := by
  unfold cs_Lines_hasRoomFor_L
  refine pf_kk (fun ck_k0 => ?_)
  refine pf_cd (cf_Lines_size_L hW h) (fun s_2 r_3 hs_2 => ?_)
  refine pf_if ?_ ?_
  · exact pf_some hs_2
  · exact pf_some hs_2
theorem cf_Lines_addLine_L_c107_48 {W : Nat → Prop} (hW : gb_sc W) {n : Nat} {σ0 : gb_S} : ∀ (mm : Nat) (σ : gb_S) (v0 : Nat) (v1 : Int32) (v3 : Int32) (v4 : Int32), W (v0 + 1) → gb_fs W σ0 σ → gb_pf W σ0 (cs_Lines_addLine_L_c107_48 n mm σ v0 v1 v3 v4) := by
  intro mm
  induction mm with
  | zero =>
    intros
    exact pf_none
  | succ mm ih =>
    intro σ v0 v1 v3 v4 hw_v0_1 h
    unfold cs_Lines_addLine_L_c107_48
    refine pf_kk (fun ck_v0 => ?_)
    refine pf_if ?_ ?_
    · refine pf_ltV (fun x_18 => ?_)
      refine pf_ltS (fs_su hw_v0_1 h) (fun s_19 hs_19 => ?_)
      exact pf_some hs_19
    · refine pf_ck ?_
      refine pf_ltV (fun x_21 => ?_)
      refine pf_if ?_ ?_
      · refine pf_ck ?_
        refine pf_ltS (fs_su hw_v0_1 h) (fun s_24 hs_24 => ?_)
        refine pf_ltE ?_
        exact ih _ _ _ _ _ hw_v0_1 hs_24
      · refine pf_ck ?_
        refine pf_ltV (fun x_27 => ?_)
        refine pf_ck ?_
        refine pf_ltS (fs_su hw_v0_1 h) (fun s_29 hs_29 => ?_)
        refine pf_ltE ?_
        exact ih _ _ _ _ _ hw_v0_1 hs_29
theorem cf_Lines_addLine_L_c107 {W : Nat → Prop} (hW : gb_sc W) {n : Nat} {σ0 : gb_S} {σ : gb_S} {k0 : Nat} {p1 : Int32} (hw_k0_1 : W (k0 + 1)) (h : gb_fs W σ0 σ) : gb_pf W σ0 (cs_Lines_addLine_L_c107 n σ k0 p1) := by
  unfold cs_Lines_addLine_L_c107
  refine pf_kk (fun ck_k0 => ?_)
  refine pf_cd (cf_Lines_hasRoomFor_L hW h) (fun s_2 r_3 hs_2 => ?_)
  refine pf_if ?_ ?_
  · exact pf_some hs_2
  · refine pf_if ?_ ?_
    · exact pf_some hs_2
    · refine pf_if ?_ ?_
      · refine pf_cd (cf_Lines_size_L hW hs_2) (fun s_9 r_10 hs_9 => ?_)
        refine pf_ltE ?_
        refine pf_ck ?_
        refine pf_ltS (fs_su hw_k0_1 hs_9) (fun s_15 hs_15 => ?_)
        exact cf_Lines_addLine_L_c107_48 hW _ _ _ _ _ _ hw_k0_1 hs_15
      · exact pf_some hs_2
theorem cf_Lines_hasRoomFor_D {W : Nat → Prop} (hW : gb_sc W) {n : Nat} {σ0 : gb_S} {σ : gb_S} {k0 : Nat} {p1 : Int32} (h : gb_fs W σ0 σ) : gb_pf W σ0 (cs_Lines_hasRoomFor_D n σ k0 p1) := by
  unfold cs_Lines_hasRoomFor_D
  refine pf_kk (fun ck_k0 => ?_)
  refine pf_cd (cf_Lines_size_D hW h) (fun s_2 r_3 hs_2 => ?_)
  refine pf_if ?_ ?_
  · exact pf_some hs_2
  · exact pf_some hs_2
theorem cf_Lines_addLine_D_c107_48 {W : Nat → Prop} (hW : gb_sc W) {n : Nat} {σ0 : gb_S} : ∀ (mm : Nat) (σ : gb_S) (v0 : Nat) (v1 : Int32) (v3 : Int32) (v4 : Int32), W (v0 + 1) → gb_fs W σ0 σ → gb_pf W σ0 (cs_Lines_addLine_D_c107_48 n mm σ v0 v1 v3 v4) := by
  intro mm
  induction mm with
  | zero =>
    intros
    exact pf_none
  | succ mm ih =>
    intro σ v0 v1 v3 v4 hw_v0_1 h
    unfold cs_Lines_addLine_D_c107_48
    refine pf_kk (fun ck_v0 => ?_)
    refine pf_if ?_ ?_
    · refine pf_ltV (fun x_18 => ?_)
      refine pf_ltS (fs_su hw_v0_1 h) (fun s_19 hs_19 => ?_)
      exact pf_some hs_19
    · refine pf_ck ?_
      refine pf_ltV (fun x_21 => ?_)
      refine pf_if ?_ ?_
      · refine pf_ck ?_
        refine pf_ltS (fs_su hw_v0_1 h) (fun s_24 hs_24 => ?_)
        refine pf_ltE ?_
        exact ih _ _ _ _ _ hw_v0_1 hs_24
      · refine pf_ck ?_
        refine pf_ltV (fun x_27 => ?_)
        refine pf_ck ?_
        refine pf_ltS (fs_su hw_v0_1 h) (fun s_29 hs_29 => ?_)
        refine pf_ltE ?_
        exact ih _ _ _ _ _ hw_v0_1 hs_29
theorem cf_Lines_addLine_D_c107 {W : Nat → Prop} (hW : gb_sc W) {n : Nat} {σ0 : gb_S} {σ : gb_S} {k0 : Nat} {p1 : Int32} (hw_k0_1 : W (k0 + 1)) (h : gb_fs W σ0 σ) : gb_pf W σ0 (cs_Lines_addLine_D_c107 n σ k0 p1) := by
  unfold cs_Lines_addLine_D_c107
  refine pf_kk (fun ck_k0 => ?_)
  refine pf_cd (cf_Lines_hasRoomFor_D hW h) (fun s_2 r_3 hs_2 => ?_)
  refine pf_if ?_ ?_
  · exact pf_some hs_2
  · refine pf_if ?_ ?_
    · exact pf_some hs_2
    · refine pf_if ?_ ?_
      · refine pf_cd (cf_Lines_size_D hW hs_2) (fun s_9 r_10 hs_9 => ?_)
        refine pf_ltE ?_
        refine pf_ck ?_
        refine pf_ltS (fs_su hw_k0_1 hs_9) (fun s_15 hs_15 => ?_)
        exact cf_Lines_addLine_D_c107_48 hW _ _ _ _ _ _ hw_k0_1 hs_15
      · exact pf_some hs_2
theorem cf_Reader_canBe_36 {W : Nat → Prop} (hW : gb_sc W) {n : Nat} {σ0 : gb_S} {σ : gb_S} {v1 : Int32} {v2 : Int32} {v3 : Int32} {t0 : Int32} (h : gb_fs W σ0 σ) : gb_pf W σ0 (cs_Reader_canBe_36 n σ v1 v2 v3 t0) := by
  unfold cs_Reader_canBe_36
  refine pf_if ?_ ?_
  · exact pf_some h
  · refine pf_ck ?_
    refine pf_ltV (fun x_5 => ?_)
    refine pf_if ?_ ?_
    · exact pf_some h
    · exact pf_some h
theorem cf_Reader_canBe_35 {W : Nat → Prop} (hW : gb_sc W) {n : Nat} {σ0 : gb_S} {σ : gb_S} {v1 : Int32} {v2 : Int32} {v3 : Int32} (h : gb_fs W σ0 σ) : gb_pf W σ0 (cs_Reader_canBe_35 n σ v1 v2 v3) := by
  unfold cs_Reader_canBe_35
  exact cf_Reader_canBe_36 hW h
theorem cf_Reader_canBe_23 {W : Nat → Prop} (hW : gb_sc W) {n : Nat} {σ0 : gb_S} {σ : gb_S} {v1 : Int32} {v2 : Int32} {v3 : Int32} (h : gb_fs W σ0 σ) : gb_pf W σ0 (cs_Reader_canBe_23 n σ v1 v2 v3) := by
  unfold cs_Reader_canBe_23
  refine pf_if ?_ ?_
  · refine pf_if ?_ ?_
    · exact cf_Reader_canBe_36 hW h
    · exact cf_Reader_canBe_35 hW h
  · exact cf_Reader_canBe_35 hW h
theorem cf_Reader_canBe {W : Nat → Prop} (hW : gb_sc W) {n : Nat} {σ0 : gb_S} {σ : gb_S} {p1 : Int32} {p2 : Int32} {p3 : Int32} (h : gb_fs W σ0 σ) : gb_pf W σ0 (cs_Reader_canBe n σ p1 p2 p3) := by
  unfold cs_Reader_canBe
  refine pf_if ?_ ?_
  · refine pf_if ?_ ?_
    · refine pf_ltV (fun x_9 => ?_)
      refine pf_if ?_ ?_
      · exact pf_some h
      · exact cf_Reader_canBe_23 hW h
    · exact cf_Reader_canBe_23 hW h
  · exact cf_Reader_canBe_23 hW h
theorem cf_Reader_takeNumber_61 {W : Nat → Prop} (hW : gb_sc W) {n : Nat} {σ0 : gb_S} {σ : gb_S} {v1 : Int32} {v2 : Int32} {v3 : Int32} {v4 : Int32} (h : gb_fs W σ0 σ) : gb_pf W σ0 (cs_Reader_takeNumber_61 n σ v1 v2 v3 v4) := by
  unfold cs_Reader_takeNumber_61
  refine pf_if ?_ ?_
  · exact pf_some h
  · refine pf_if ?_ ?_
    · refine pf_ck ?_
      refine pf_ltS (fs_su (hW.2 _ (by decide)) h) (fun s_6 hs_6 => ?_)
      refine pf_cd (cf_Reader_canBe hW hs_6) (fun s_7 r_8 hs_7 => ?_)
      refine pf_if ?_ ?_
      · refine pf_cd (cf_Reader_note hW hs_7) (fun s_13 _ hs_13 => ?_)
        refine pf_ltS (fs_su (hW.2 _ (by decide)) hs_13) (fun s_17 hs_17 => ?_)
        exact pf_some hs_17
      · refine pf_ltS (fs_su (hW.2 _ (by decide)) hs_7) (fun s_12 hs_12 => ?_)
        exact pf_some hs_12
    · exact pf_some h
theorem cf_Reader_takeNumber_8 {W : Nat → Prop} (hW : gb_sc W) {n : Nat} {σ0 : gb_S} : ∀ (mm : Nat) (σ : gb_S) (v1 : Int32) (v2 : Int32) (v3 : Int32) (v4 : Int32), gb_fs W σ0 σ → gb_pf W σ0 (cs_Reader_takeNumber_8 n mm σ v1 v2 v3 v4) := by
  intro mm
  induction mm with
  | zero =>
    intros
    exact pf_none
  | succ mm ih =>
    intro σ v1 v2 v3 v4  h
    unfold cs_Reader_takeNumber_8
    refine pf_if ?_ ?_
    · exact cf_Reader_takeNumber_61 hW h
    · refine pf_kk (fun _ => ?_)
      refine pf_ck ?_
      refine pf_ltV (fun x_20 => ?_)
      refine pf_if ?_ ?_
      · exact cf_Reader_takeNumber_61 hW h
      · refine pf_kk (fun _ => ?_)
        refine pf_ck ?_
        refine pf_ltV (fun x_24 => ?_)
        refine pf_if ?_ ?_
        · exact cf_Reader_takeNumber_61 hW h
        · refine pf_kk (fun _ => ?_)
          refine pf_ck ?_
          refine pf_ltV (fun x_28 => ?_)
          refine pf_ltE ?_
          refine pf_ltE ?_
          exact ih _ _ _ _ _ h
theorem cf_Reader_takeNumber {W : Nat → Prop} (hW : gb_sc W) {n : Nat} {σ0 : gb_S} {σ : gb_S} {p1 : Int32} {p2 : Int32} (h : gb_fs W σ0 σ) : gb_pf W σ0 (cs_Reader_takeNumber n σ p1 p2) := by
  unfold cs_Reader_takeNumber
  refine pf_ltV (fun x_1 => ?_)
  exact cf_Reader_takeNumber_8 hW _ _ _ _ _ _ h
theorem cf_Reader_readLine_S_38 {W : Nat → Prop} (hW : gb_sc W) {n : Nat} {σ0 : gb_S} : ∀ (mm : Nat) (σ : gb_S) (v2 : Nat) (v4 : Int32) (v5 : Int32), W (v2 + 1) → gb_fs W σ0 σ → gb_pf W σ0 (cs_Reader_readLine_S_38 n mm σ v2 v4 v5) := by
  intro mm
  induction mm with
  | zero =>
    intros
    exact pf_none
  | succ mm ih =>
    intro σ v2 v4 v5 hw_v2_1 h
    unfold cs_Reader_readLine_S_38
    refine pf_ck ?_
    refine pf_ltV (fun x_14 => ?_)
    refine pf_if ?_ ?_
    · refine pf_cd (cf_Reader_skipBlanks hW h) (fun s_16 _ hs_16 => ?_)
      refine pf_if ?_ ?_
      · exact pf_some hs_16
      · refine pf_kk (fun _ => ?_)
        refine pf_ck ?_
        refine pf_ltV (fun x_23 => ?_)
        refine pf_if ?_ ?_
        · refine pf_ltS (fs_su (hW.2 _ (by decide)) hs_16) (fun s_25 hs_25 => ?_)
          refine pf_if ?_ ?_
          · refine pf_cd (cf_Border_addLine_B_c107 hW hw_v2_1 hs_25) (fun s_27 _ hs_27 => ?_)
            exact pf_some hs_27
          · refine pf_if ?_ ?_
            · refine pf_cd (cf_Lines_addLine_N_c107 hW hw_v2_1 hs_25) (fun s_32 _ hs_32 => ?_)
              exact pf_some hs_32
            · refine pf_if ?_ ?_
              · refine pf_cd (cf_Lines_addLine_L_c107 hW hw_v2_1 hs_25) (fun s_37 _ hs_37 => ?_)
                exact pf_some hs_37
              · refine pf_if ?_ ?_
                · refine pf_cd (cf_Lines_addLine_D_c107 hW hw_v2_1 hs_25) (fun s_42 _ hs_42 => ?_)
                  exact pf_some hs_42
                · exact pf_none
        · exact pf_some hs_16
    · refine pf_cd (cf_Reader_skipBlanks hW h) (fun s_46 _ hs_46 => ?_)
      refine pf_cd (cf_Reader_takeNumber hW hs_46) (fun s_50 r_51 hs_50 => ?_)
      refine pf_if ?_ ?_
      · exact pf_some hs_50
      · refine pf_ltE ?_
        exact ih _ _ _ _ hw_v2_1 hs_50
theorem cf_Reader_readLine_S {W : Nat → Prop} (hW : gb_sc W) {n : Nat} {σ0 : gb_S} {σ : gb_S} {p1 : Int32} {p2 : Nat} (hw_p2_1 : W (p2 + 1)) (h : gb_fs W σ0 σ) : gb_pf W σ0 (cs_Reader_readLine_S n σ p1 p2) := by
  unfold cs_Reader_readLine_S
  refine pf_ltV (fun x_1 => ?_)
  refine pf_cd (cf_Reader_takeWord hW h) (fun s_2 r_3 hs_2 => ?_)
  refine pf_if ?_ ?_
  · exact pf_some hs_2
  · refine pf_if ?_ ?_
    · refine pf_cd (cf_Border_hasRoomFor_B hW hs_2) (fun s_8 r_9 hs_8 => ?_)
      refine pf_if ?_ ?_
      · refine pf_cd (cf_Reader_note hW hs_8) (fun s_56 _ hs_56 => ?_)
        exact cf_Reader_readLine_S_38 hW _ _ _ _ _ hw_p2_1 hs_56
      · exact cf_Reader_readLine_S_38 hW _ _ _ _ _ hw_p2_1 hs_8
    · refine pf_if ?_ ?_
      · refine pf_cd (cf_Lines_hasRoomFor_N hW hs_2) (fun s_61 r_62 hs_61 => ?_)
        refine pf_if ?_ ?_
        · refine pf_cd (cf_Reader_note hW hs_61) (fun s_66 _ hs_66 => ?_)
          exact cf_Reader_readLine_S_38 hW _ _ _ _ _ hw_p2_1 hs_66
        · exact cf_Reader_readLine_S_38 hW _ _ _ _ _ hw_p2_1 hs_61
      · refine pf_if ?_ ?_
        · refine pf_cd (cf_Lines_hasRoomFor_L hW hs_2) (fun s_71 r_72 hs_71 => ?_)
          refine pf_if ?_ ?_
          · refine pf_cd (cf_Reader_note hW hs_71) (fun s_76 _ hs_76 => ?_)
            exact cf_Reader_readLine_S_38 hW _ _ _ _ _ hw_p2_1 hs_76
          · exact cf_Reader_readLine_S_38 hW _ _ _ _ _ hw_p2_1 hs_71
        · refine pf_if ?_ ?_
          · refine pf_cd (cf_Lines_hasRoomFor_D hW hs_2) (fun s_81 r_82 hs_81 => ?_)
            refine pf_if ?_ ?_
            · refine pf_cd (cf_Reader_note hW hs_81) (fun s_86 _ hs_86 => ?_)
              exact cf_Reader_readLine_S_38 hW _ _ _ _ _ hw_p2_1 hs_86
            · exact cf_Reader_readLine_S_38 hW _ _ _ _ _ hw_p2_1 hs_81
          · exact pf_none
theorem cf_Lines_clear_N {W : Nat → Prop} (hW : gb_sc W) {n : Nat} {σ0 : gb_S} {σ : gb_S} {k0 : Nat} (hw_k0_1 : W (k0 + 1)) (h : gb_fs W σ0 σ) : gb_pf W σ0 (cs_Lines_clear_N n σ k0) := by
  unfold cs_Lines_clear_N
  refine pf_kk (fun ck_k0 => ?_)
  refine pf_ltS (fs_su hw_k0_1 h) (fun s_2 hs_2 => ?_)
  exact pf_some hs_2
theorem cf_Lines_clear_L {W : Nat → Prop} (hW : gb_sc W) {n : Nat} {σ0 : gb_S} {σ : gb_S} {k0 : Nat} (hw_k0_1 : W (k0 + 1)) (h : gb_fs W σ0 σ) : gb_pf W σ0 (cs_Lines_clear_L n σ k0) := by
  unfold cs_Lines_clear_L
  refine pf_kk (fun ck_k0 => ?_)
  refine pf_ltS (fs_su hw_k0_1 h) (fun s_2 hs_2 => ?_)
  exact pf_some hs_2
theorem cf_Lines_clear_D {W : Nat → Prop} (hW : gb_sc W) {n : Nat} {σ0 : gb_S} {σ : gb_S} {k0 : Nat} (hw_k0_1 : W (k0 + 1)) (h : gb_fs W σ0 σ) : gb_pf W σ0 (cs_Lines_clear_D n σ k0) := by
  unfold cs_Lines_clear_D
  refine pf_kk (fun ck_k0 => ?_)
  refine pf_ltS (fs_su hw_k0_1 h) (fun s_2 hs_2 => ?_)
  exact pf_some hs_2
theorem cf_Reader_read_c23_S_42 {W : Nat → Prop} (hW : gb_sc W) {n : Nat} {σ0 : gb_S} : ∀ (mm : Nat) (σ : gb_S) (v3 : Int32) (v4 : Nat) (v5 : Int32), W (v4 + 1) → gb_fs W σ0 σ → gb_pf W σ0 (cs_Reader_read_c23_S_42 n mm σ v3 v4 v5) := by
  intro mm
  induction mm with
  | zero =>
    intros
    exact pf_none
  | succ mm ih =>
    intro σ v3 v4 v5 hw_v4_1 h
    unfold cs_Reader_read_c23_S_42
    refine pf_if ?_ ?_
    · refine pf_if ?_ ?_
      · refine pf_if ?_ ?_
        · refine pf_cd (cf_Border_clashes_B hW h) (fun s_19 r_20 hs_19 => ?_)
          refine pf_if ?_ ?_
          · exact pf_some hs_19
          · refine pf_cd (cf_Reader_note hW hs_19) (fun s_24 _ hs_24 => ?_)
            exact pf_some hs_24
        · refine pf_if ?_ ?_
          · refine pf_cd (cf_Lines_clashes_N hW h) (fun s_29 r_30 hs_29 => ?_)
            refine pf_if ?_ ?_
            · exact pf_some hs_29
            · refine pf_cd (cf_Reader_note hW hs_29) (fun s_34 _ hs_34 => ?_)
              exact pf_some hs_34
          · refine pf_if ?_ ?_
            · refine pf_cd (cf_Lines_clashes_L hW h) (fun s_39 r_40 hs_39 => ?_)
              refine pf_if ?_ ?_
              · exact pf_some hs_39
              · refine pf_cd (cf_Reader_note hW hs_39) (fun s_44 _ hs_44 => ?_)
                exact pf_some hs_44
            · refine pf_if ?_ ?_
              · refine pf_cd (cf_Dawn_clashes_D hW h) (fun s_49 r_50 hs_49 => ?_)
                refine pf_if ?_ ?_
                · exact pf_some hs_49
                · refine pf_cd (cf_Reader_note hW hs_49) (fun s_54 _ hs_54 => ?_)
                  exact pf_some hs_54
              · exact pf_none
      · exact pf_some h
    · refine pf_if ?_ ?_
      · refine pf_if ?_ ?_
        · refine pf_if ?_ ?_
          · refine pf_cd (cf_Border_clashes_B hW h) (fun s_61 r_62 hs_61 => ?_)
            refine pf_if ?_ ?_
            · exact pf_some hs_61
            · refine pf_cd (cf_Reader_note hW hs_61) (fun s_66 _ hs_66 => ?_)
              exact pf_some hs_66
          · refine pf_if ?_ ?_
            · refine pf_cd (cf_Lines_clashes_N hW h) (fun s_71 r_72 hs_71 => ?_)
              refine pf_if ?_ ?_
              · exact pf_some hs_71
              · refine pf_cd (cf_Reader_note hW hs_71) (fun s_76 _ hs_76 => ?_)
                exact pf_some hs_76
            · refine pf_if ?_ ?_
              · refine pf_cd (cf_Lines_clashes_L hW h) (fun s_81 r_82 hs_81 => ?_)
                refine pf_if ?_ ?_
                · exact pf_some hs_81
                · refine pf_cd (cf_Reader_note hW hs_81) (fun s_86 _ hs_86 => ?_)
                  exact pf_some hs_86
              · refine pf_if ?_ ?_
                · refine pf_cd (cf_Dawn_clashes_D hW h) (fun s_91 r_92 hs_91 => ?_)
                  refine pf_if ?_ ?_
                  · exact pf_some hs_91
                  · refine pf_cd (cf_Reader_note hW hs_91) (fun s_96 _ hs_96 => ?_)
                    exact pf_some hs_96
                · exact pf_none
        · exact pf_some h
      · refine pf_cd (cf_Reader_readLine_S hW hw_v4_1 h) (fun s_100 r_101 hs_100 => ?_)
        refine pf_if ?_ ?_
        · refine pf_ltS (fs_su (hW.2 _ (by decide)) hs_100) (fun s_110 hs_110 => ?_)
          refine pf_ltS (fs_su (hW.2 _ (by decide)) hs_110) (fun s_111 hs_111 => ?_)
          exact pf_some hs_111
        · refine pf_cd (cf_Reader_skipBlanks hW hs_100) (fun s_105 _ hs_105 => ?_)
          refine pf_ltE ?_
          exact ih _ _ _ _ hw_v4_1 hs_105
theorem cf_Reader_read_c23_S {W : Nat → Prop} (hW : gb_sc W) {n : Nat} {σ0 : gb_S} {σ : gb_S} {p2 : Int32} {p3 : Int32} {p4 : Nat} (hw_p4_1 : W (p4 + 1)) (h : gb_fs W σ0 σ) : gb_pf W σ0 (cs_Reader_read_c23_S n σ p2 p3 p4) := by
  unfold cs_Reader_read_c23_S
  refine pf_ltS (fs_sq h) (fun s_1 hs_1 => ?_)
  refine pf_ltV (fun x_2 => ?_)
  refine pf_ltS (fs_su (hW.2 _ (by decide)) hs_1) (fun s_3 hs_3 => ?_)
  refine pf_ltS (fs_su (hW.2 _ (by decide)) hs_3) (fun s_4 hs_4 => ?_)
  refine pf_ltS (fs_su (hW.2 _ (by decide)) hs_4) (fun s_5 hs_5 => ?_)
  refine pf_ltS (fs_su (hW.2 _ (by decide)) hs_5) (fun s_6 hs_6 => ?_)
  refine pf_if ?_ ?_
  · refine pf_cd (cf_Border_clear_B hW hw_p4_1 hs_6) (fun s_8 _ hs_8 => ?_)
    refine pf_cd (cf_Reader_skipBlanks hW hs_8) (fun s_12 _ hs_12 => ?_)
    exact cf_Reader_read_c23_S_42 hW _ _ _ _ _ hw_p4_1 hs_12
  · refine pf_if ?_ ?_
    · refine pf_cd (cf_Lines_clear_N hW hw_p4_1 hs_6) (fun s_113 _ hs_113 => ?_)
      refine pf_cd (cf_Reader_skipBlanks hW hs_113) (fun s_117 _ hs_117 => ?_)
      exact cf_Reader_read_c23_S_42 hW _ _ _ _ _ hw_p4_1 hs_117
    · refine pf_if ?_ ?_
      · refine pf_cd (cf_Lines_clear_L hW hw_p4_1 hs_6) (fun s_122 _ hs_122 => ?_)
        refine pf_cd (cf_Reader_skipBlanks hW hs_122) (fun s_126 _ hs_126 => ?_)
        exact cf_Reader_read_c23_S_42 hW _ _ _ _ _ hw_p4_1 hs_126
      · refine pf_if ?_ ?_
        · refine pf_cd (cf_Lines_clear_D hW hw_p4_1 hs_6) (fun s_131 _ hs_131 => ?_)
          refine pf_cd (cf_Reader_skipBlanks hW hs_131) (fun s_135 _ hs_135 => ?_)
          exact cf_Reader_read_c23_S_42 hW _ _ _ _ _ hw_p4_1 hs_135
        · exact pf_none
