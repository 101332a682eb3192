/-! PARTIAL ANSWERS: what holds of a value, where there is one (that there is one: totality, 60 .. 84) -/
def gb_hm {ρ : Type} (x : gb_MR ρ) (Q : gb_F → Int64 → ρ → Prop) : Prop := ∀ (f : gb_F) (w : Int64) (r : ρ), x = some (f, w, r) → Q f w r
def gb_hc {ρ : Type} (x : gb_CR ρ) (Q : gb_S → ρ → Prop) : Prop := ∀ (σ : gb_S) (r : ρ), x = some (σ, r) → Q σ r
theorem hm_none {ρ : Type} {Q : gb_F → Int64 → ρ → Prop} : gb_hm (none : gb_MR ρ) Q := fun _ _ _ h => by cases h
theorem hm_some {ρ : Type} {Q : gb_F → Int64 → ρ → Prop} {f : gb_F} {w : Int64} {r : ρ} (h : Q f w r) : gb_hm (some (f, w, r)) Q := fun _ _ _ e => by cases e; exact h
theorem hm_if {ρ : Type} {Q : gb_F → Int64 → ρ → Prop} {c : Prop} [Decidable c] {x y : gb_MR ρ} (h1 : c → gb_hm x Q) (h2 : ¬ c → gb_hm y Q) : gb_hm (if c then x else y) Q := by
  by_cases z : c
  · rw [if_pos z]; exact h1 z
  · rw [if_neg z]; exact h2 z
theorem hm_ck {ρ : Type} {Q : gb_F → Int64 → ρ → Prop} {i : Int32} {n : Nat} {x : gb_MR ρ} (h : 0 ≤ i.toInt → i.toInt < (n : Int) → gb_hm x Q) : gb_hm (gb_ck i n x) Q := by
  unfold gb_ck
  by_cases z : 0 ≤ i.toInt ∧ i.toInt < (n : Int)
  · rw [if_pos z]; exact h z.1 z.2
  · rw [if_neg z]; exact hm_none
theorem hm_nz {ρ : Type} {Q : gb_F → Int64 → ρ → Prop} {i : Int32} {x : gb_MR ρ} (h : ¬ i = 0 → gb_hm x Q) : gb_hm (gb_nz i x) Q := by
  unfold gb_nz
  by_cases z : i = 0
  · rw [if_pos z]; exact hm_none
  · rw [if_neg z]; exact h z
theorem hm_cb {ρ : Type} {Q : gb_F → Int64 → ρ → Prop} {i : Int32} {x : gb_MR ρ} (h : i = 0 ∨ i = 1 → gb_hm x Q) : gb_hm (gb_cb i x) Q := by
  unfold gb_cb
  by_cases z : i = 0 ∨ i = 1
  · rw [if_pos z]; exact h z
  · rw [if_neg z]; exact hm_none
theorem hm_lt {ρ α : Type} {Q : gb_F → Int64 → ρ → Prop} {v : α} {k : α → gb_MR ρ} (h : ∀ x, x = v → gb_hm (k x) Q) : gb_hm (gb_lt v k) Q := h v rfl
theorem hm_bd {ρ τ : Type} {P : gb_F → Int64 → ρ → Prop} {Q : gb_F → Int64 → τ → Prop} {x : gb_MR ρ} {k : gb_F → Int64 → ρ → gb_MR τ} (h : gb_hm x P) (H : ∀ f w r, P f w r → gb_hm (k f w r) Q) : gb_hm (gb_bd x k) Q := by
  unfold gb_bd
  cases x with
  | none => exact hm_none
  | some q => exact H q.1 q.2.1 q.2.2 (h q.1 q.2.1 q.2.2 rfl)
theorem hm_mono {ρ : Type} {x : gb_MR ρ} {P Q : gb_F → Int64 → ρ → Prop} (h : gb_hm x P) (H : ∀ f w r, P f w r → Q f w r) : gb_hm x Q := fun f w r e => H f w r (h f w r e)
theorem hm_and {ρ : Type} {x : gb_MR ρ} {P Q : gb_F → Int64 → ρ → Prop} (h : gb_hm x P) (H : gb_hm x Q) : gb_hm x (fun f w r => P f w r ∧ Q f w r) := fun f w r e => ⟨h f w r e, H f w r e⟩
theorem hm_of {ρ : Type} {x : gb_MR ρ} {P : gb_F → Int64 → ρ → Prop} (h : gb_tm x P) : gb_hm x P := fun f w r e => by
  obtain ⟨f2, w2, r2, e2, hp⟩ := h
  rw [e] at e2
  cases e2
  exact hp
theorem hm_pm {ρ : Type} {x : gb_MR ρ} {P : gb_F → Prop} (h : gb_pm P x) : gb_hm x (fun f _ _ => P f) := h
theorem hc_none {ρ : Type} {Q : gb_S → ρ → Prop} : gb_hc (none : gb_CR ρ) Q := fun _ _ h => by cases h
theorem hc_some {ρ : Type} {Q : gb_S → ρ → Prop} {σ : gb_S} {r : ρ} (h : Q σ r) : gb_hc (some (σ, r)) Q := fun _ _ e => by cases e; exact h
theorem hc_if {ρ : Type} {Q : gb_S → ρ → Prop} {c : Prop} [Decidable c] {x y : gb_CR ρ} (h1 : c → gb_hc x Q) (h2 : ¬ c → gb_hc y Q) : gb_hc (if c then x else y) Q := by
  by_cases z : c
  · rw [if_pos z]; exact h1 z
  · rw [if_neg z]; exact h2 z
theorem hc_ck {ρ : Type} {Q : gb_S → ρ → Prop} {i : Int32} {n : Nat} {x : gb_CR ρ} (h : 0 ≤ i.toInt → i.toInt < (n : Int) → gb_hc x Q) : gb_hc (gb_ck i n x) Q := by
  unfold gb_ck
  by_cases z : 0 ≤ i.toInt ∧ i.toInt < (n : Int)
  · rw [if_pos z]; exact h z.1 z.2
  · rw [if_neg z]; exact hc_none
theorem hc_nz {ρ : Type} {Q : gb_S → ρ → Prop} {i : Int32} {x : gb_CR ρ} (h : ¬ i = 0 → gb_hc x Q) : gb_hc (gb_nz i x) Q := by
  unfold gb_nz
  by_cases z : i = 0
  · rw [if_pos z]; exact hc_none
  · rw [if_neg z]; exact h z
theorem hc_cb {ρ : Type} {Q : gb_S → ρ → Prop} {i : Int32} {x : gb_CR ρ} (h : i = 0 ∨ i = 1 → gb_hc x Q) : gb_hc (gb_cb i x) Q := by
  unfold gb_cb
  by_cases z : i = 0 ∨ i = 1
  · rw [if_pos z]; exact h z
  · rw [if_neg z]; exact hc_none
theorem hc_kk {ρ : Type} {Q : gb_S → ρ → Prop} {c : Bool} {x : gb_CR ρ} (h : c = true → gb_hc x Q) : gb_hc (gb_kk c x) Q := by
  unfold gb_kk
  by_cases z : c = true
  · rw [if_pos z]; exact h z
  · rw [if_neg z]; exact hc_none
theorem hc_ac {ρ : Type} {Q : gb_S → ρ → Prop} {sp dp m : Int32} {n0 n1 : Nat} {x : gb_CR ρ} (h : gb_hc x Q) : gb_hc (gb_ac sp dp m n0 n1 x) Q := by
  unfold gb_ac
  split
  · exact h
  · exact hc_none
theorem hc_cc {ρ : Type} {Q : gb_S → ρ → Prop} {v : Int32} {x : gb_CR ρ} (h : gb_hc x Q) : gb_hc (gb_cc v x) Q := by
  unfold gb_cc
  split
  · exact h
  · exact hc_none
theorem hc_lt {ρ α : Type} {Q : gb_S → ρ → Prop} {v : α} {k : α → gb_CR ρ} (h : ∀ x, x = v → gb_hc (k x) Q) : gb_hc (gb_lt v k) Q := h v rfl
theorem hc_cd {ρ τ : Type} {P : gb_S → ρ → Prop} {Q : gb_S → τ → Prop} {x : gb_CR ρ} {k : gb_S → ρ → gb_CR τ} (h : gb_hc x P) (H : ∀ s r, P s r → gb_hc (k s r) Q) : gb_hc (gb_cd x k) Q := by
  unfold gb_cd
  cases x with
  | none => exact hc_none
  | some q => exact H q.1 q.2 (h q.1 q.2 rfl)
theorem hc_mono {ρ : Type} {x : gb_CR ρ} {P Q : gb_S → ρ → Prop} (h : gb_hc x P) (H : ∀ s r, P s r → Q s r) : gb_hc x Q := fun s r e => H s r (h s r e)
theorem hc_and {ρ : Type} {x : gb_CR ρ} {P Q : gb_S → ρ → Prop} (h : gb_hc x P) (H : gb_hc x Q) : gb_hc x (fun s r => P s r ∧ Q s r) := fun s r e => ⟨h s r e, H s r e⟩
theorem hc_of {ρ : Type} {x : gb_CR ρ} {P : gb_S → ρ → Prop} (h : gb_tc x P) : gb_hc x P := fun s r e => by
  obtain ⟨s2, r2, e2, hp⟩ := h
  rw [e] at e2
  cases e2
  exact hp
theorem hc_pf {ρ : Type} {x : gb_CR ρ} {W : Nat → Prop} {σ0 : gb_S} (h : gb_pf W σ0 x) : gb_hc x (fun s _ => gb_fs W σ0 s) := h
/-! numbers -/
theorem gi_lt {x y : Int32} (c : x < y) : x.toInt < y.toInt := Int32.lt_iff_toInt_lt.mp c
theorem gi_le {x y : Int32} (c : x ≤ y) : x.toInt ≤ y.toInt := Int32.le_iff_toInt_le.mp c
theorem gi_nlt {x y : Int32} (c : ¬ x < y) : y.toInt ≤ x.toInt := by
  have := gb_dnlt c
  omega
theorem gi_nle {x y : Int32} (c : ¬ x ≤ y) : y.toInt < x.toInt := by
  have := gb_dnle c
  omega
theorem gi_tn {x : Int32} {j : Nat} (h : x.toInt = j) : Int32.toNatClampNeg x = j := gb_tn h
theorem gi_nn {x : Int32} (h : 0 ≤ x.toInt) : ∃ k : Nat, x.toInt = k ∧ Int32.toNatClampNeg x = k := ⟨x.toInt.toNat, by omega, gb_tn (by omega)⟩
theorem gi_s1 {x : Int32} {k : Nat} (h : x.toInt = k) (hk : k < 100000) : (x + 1).toInt = ((k + 1 : Nat) : Int) := by
  have c1 : (1 : Int32).toInt = 1 := by decide
  rw [gb_tadd (by omega) (by omega), c1]
  omega
theorem gb_us {f : gb_F} {k : Nat} {F : Nat → Int32} : gb_u f k F k = F := if_pos rfl
theorem gb_un {f : gb_F} {k j : Nat} {F : Nat → Int32} (h : j ≠ k) : gb_u f k F j = f j := if_neg h
theorem gb_sus {σ : gb_S} {k : Nat} {F : Nat → Int32} : (gb_su σ k F).1 k = F := if_pos rfl
theorem gb_sun {σ : gb_S} {k j : Nat} {F : Nat → Int32} (h : j ≠ k) : (gb_su σ k F).1 j = σ.1 j := if_neg h
