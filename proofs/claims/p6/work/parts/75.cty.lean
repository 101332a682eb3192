/-! THE CLASS: what holds of its numbers in every state; rules -/
def gc_cat (k : Nat) : Nat := ([0, 7, 0, 0, 1, 0, 1, 0, 0, 2, 0, 2, 0, 0, 3, 0, 3, 0, 0, 4, 0, 4, 5, 6, 0, 7, 0, 0, 1, 0, 1, 0, 0, 2, 0, 2, 0, 0, 3, 0, 3, 0, 0, 4, 0, 4, 5, 6, 7, 0, 0, 1, 0, 1, 0, 0, 2, 0, 2, 0, 0, 3, 0, 3, 0, 0, 4, 0, 4, 5, 6, 7, 0, 0, 1, 0, 1, 0, 0, 2, 0, 2, 0, 0, 3, 0, 3, 0, 0, 4, 0, 4, 5, 6, 0, 0, 0, 1, 0, 2, 0, 3, 0, 4, 0, 2, 12, 0, 0, 10, 0, 1, 0, 0, 0, 0, 0, 0, 0, 0, 8, 0, 1, 0, 9, 9, 0, 0, 0, 0, 11, 0, 0, 0, 0] : List Nat).getD k 0
def gc_ty (c j : Nat) : Int × Int := match c with
  | 1 => if j = 0 then (0, 5) else if j = 1 then (0, 8) else (-2147483648, 2147483647)
  | 2 => if j = 0 then (0, 24) else (-2147483648, 2147483647)
  | 3 => if j = 0 then (0, 8) else (-2147483648, 2147483647)
  | 4 => if j = 0 then (0, 5) else (-2147483648, 2147483647)
  | 5 => (0, 2)
  | 6 => (-128, 127)
  | 7 => if j = 6 then (0, 600) else (-2147483648, 2147483647)
  | 8 => if j = 4 then (0, 5) else (-2147483648, 2147483647)
  | 9 => (0, 4)
  | 10 => if j = 11 then (0, 24) else (-2147483648, 2147483647)
  | 11 => if j = 4 then (0, 256) else (-2147483648, 2147483647)
  | 12 => if j = 2 then (0, 600) else if j = 3 then (0, 600) else (-2147483648, 2147483647)
  | _ => (-2147483648, 2147483647)
def gb_TC (σ : gb_S) : Prop := (∀ k j, gb_iv (gc_ty (gc_cat k) j).1 (gc_ty (gc_cat k) j).2 (σ.1 k j)) ∧ gb_kB (σ.2.1 1) = true ∧ gb_kB (σ.2.1 2) = true ∧ (σ.2.1 3 = 0 ∨ gb_kL (σ.2.1 3) = true) ∧ gb_kJ (σ.2.1 4) = true ∧ gb_kJ (σ.2.1 5) = true
theorem gc_catB {k : Nat} (h : gb_kB k = true) : gc_cat (k + 1) = 1 := by
  rcases gb_kB_or h with rfl | rfl | rfl | rfl | rfl | rfl | rfl | rfl | rfl | rfl | rfl <;> rfl
theorem gc_catN {k : Nat} (h : gb_kN k = true) : gc_cat (k + 1) = 2 := by
  rcases gb_kN_or h with rfl | rfl | rfl | rfl | rfl | rfl | rfl | rfl | rfl | rfl <;> rfl
theorem gc_catL {k : Nat} (h : gb_kL k = true) : gc_cat (k + 1) = 3 := by
  rcases gb_kL_or h with rfl | rfl | rfl | rfl | rfl | rfl | rfl | rfl | rfl <;> rfl
theorem gc_catD {k : Nat} (h : gb_kD k = true) : gc_cat (k + 1) = 4 := by
  rcases gb_kD_or h with rfl | rfl | rfl | rfl | rfl | rfl | rfl | rfl | rfl <;> rfl
theorem gc_catT {k : Nat} (h : gb_kT k = true) : gc_cat k = 7 ∧ gc_cat (k + 21) = 5 ∧ gc_cat (k + 22) = 6 := by
  rcases gb_kT_or h with rfl | rfl | rfl | rfl <;> exact ⟨rfl, rfl, rfl⟩
theorem gc_rd {σ : gb_S} {k j c : Nat} {lo hi : Int} (h : gb_TC σ) (e : gc_cat k = c) (q : lo ≤ (gc_ty c j).1 ∧ (gc_ty c j).2 ≤ hi) : gb_iv lo hi (σ.1 k j) := by
  have := h.1 k j
  rw [e] at this
  exact gb_iw this q
theorem gc_su {σ : gb_S} {k i c : Nat} {v : Int32} {lo hi : Int} (h : gb_TC σ) (e : gc_cat k = c) (hv : gb_iv lo hi v) (q : (gc_ty c i).1 ≤ lo ∧ hi ≤ (gc_ty c i).2) : gb_TC (gb_su σ k (upd (σ.1 k) i v)) := by
  refine ⟨fun k2 j => ?_, h.2⟩
  show gb_iv _ _ (gb_u σ.1 k (upd (σ.1 k) i v) k2 j)
  unfold gb_u
  by_cases c2 : k2 = k
  · rw [if_pos c2, c2, e]
    unfold upd
    by_cases c1 : j = i
    · rw [if_pos c1, c1]
      exact gb_iw hv q
    · rw [if_neg c1]
      have := h.1 k j
      rw [e] at this
      exact this
  · rw [if_neg c2]
    exact h.1 k2 j
theorem gc_su0 {σ : gb_S} {k i : Nat} {v : Int32} (h : gb_TC σ) (e : gc_cat k = 0) : gb_TC (gb_su σ k (upd (σ.1 k) i v)) := gc_su h e (gb_it v) ⟨Int.le_refl _, Int.le_refl _⟩
theorem gc_cpy {σ : gb_S} {k k2 c n : Nat} (h : gb_TC σ) (e : gc_cat k = c) (e2 : gc_cat k2 = c) : gb_TC (gb_su σ k (va_cpy (σ.1 k2) (σ.1 k) (Int32.toNatClampNeg 0) (Int32.toNatClampNeg 0) n)) := by
  refine ⟨fun k3 j => ?_, h.2⟩
  show gb_iv _ _ (gb_u σ.1 k (va_cpy (σ.1 k2) (σ.1 k) 0 0 n) k3 j)
  unfold gb_u
  by_cases c2 : k3 = k
  · rw [if_pos c2, c2, e]
    unfold va_cpy
    by_cases c1 : 0 ≤ j ∧ j < 0 + n
    · rw [if_pos c1, Nat.zero_add, Nat.sub_zero]
      have := h.1 k2 j
      rw [e2] at this
      exact this
    · rw [if_neg c1]
      have := h.1 k j
      rw [e] at this
      exact this
  · rw [if_neg c2]
    exact h.1 k3 j
theorem gc_sq1 {σ : gb_S} {v : Nat} (h : gb_TC σ) (hv : gb_kB v = true) : gb_TC (gb_sq σ 1 v) := ⟨h.1, hv, h.2.2⟩
theorem gc_sq2 {σ : gb_S} {v : Nat} (h : gb_TC σ) (hv : gb_kB v = true) : gb_TC (gb_sq σ 2 v) := ⟨h.1, h.2.1, hv, h.2.2.2⟩
theorem gc_sq3 {σ : gb_S} {v : Nat} (h : gb_TC σ) (hv : v = 0 ∨ gb_kL v = true) : gb_TC (gb_sq σ 3 v) := ⟨h.1, h.2.1, h.2.2.1, hv, h.2.2.2.2⟩
theorem gc_sq4 {σ : gb_S} {v : Nat} (h : gb_TC σ) (hv : gb_kJ v = true) : gb_TC (gb_sq σ 4 v) := ⟨h.1, h.2.1, h.2.2.1, h.2.2.2.1, hv, h.2.2.2.2.2⟩
theorem gc_sq5 {σ : gb_S} {v : Nat} (h : gb_TC σ) (hv : gb_kJ v = true) : gb_TC (gb_sq σ 5 v) := ⟨h.1, h.2.1, h.2.2.1, h.2.2.2.1, h.2.2.2.2.1, hv⟩
theorem gc_sg {σ : gb_S} {k : Nat} {F : Nat → Int64} (h : gb_TC σ) : gb_TC (gb_sg σ k F) := h
theorem gc_q1 {σ : gb_S} (h : gb_TC σ) : gb_kB (σ.2.1 1) = true := h.2.1
theorem gc_q2 {σ : gb_S} (h : gb_TC σ) : gb_kB (σ.2.1 2) = true := h.2.2.1
theorem gc_q3 {σ : gb_S} (h : gb_TC σ) (c : ¬ σ.2.1 3 = 0) : gb_kL (σ.2.1 3) = true := h.2.2.2.1.resolve_left c
theorem gc_q4 {σ : gb_S} (h : gb_TC σ) : gb_kJ (σ.2.1 4) = true := h.2.2.2.2.1
theorem gc_q5 {σ : gb_S} (h : gb_TC σ) : gb_kJ (σ.2.1 5) = true := h.2.2.2.2.2
theorem gc_cdT {ρ τ : Type} {x : gb_CR ρ} {k : gb_S → ρ → gb_CR τ} {R : ρ → Prop} {Q : gb_S → τ → Prop} (h : gb_tc x (fun s r => gb_TC s ∧ R r)) (H : ∀ s r, gb_TC s → R r → gb_tc (k s r) Q) : gb_tc (gb_cd x k) Q := by
  obtain ⟨s, r, e, hf, hp⟩ := h
  rw [e]
  exact H s r hf hp
theorem gc_cdP {ρ τ : Type} {x : gb_CR ρ} {k : gb_S → ρ → gb_CR τ} {σ : gb_S} {R : ρ → Prop} {Q : gb_S → τ → Prop} (h : gb_tc x (fun s r => s = σ ∧ R r)) (H : ∀ r, x = some (σ, r) → R r → gb_tc (k σ r) Q) : gb_tc (gb_cd x k) Q := by
  obtain ⟨s, r, e, hf, hp⟩ := h
  subst hf
  have := H r e hp
  rw [e]
  exact this
theorem gc_cdE {ρ τ : Type} {x : gb_CR ρ} {k : gb_S → ρ → gb_CR τ} {σ : gb_S} {r : ρ} {Q : gb_S → τ → Prop} (e : x = some (σ, r)) (H : gb_tc (k σ r) Q) : gb_tc (gb_cd x k) Q := by
  rw [e]
  exact H
theorem gc_ltT {ρ : Type} {v : gb_S} {k : gb_S → gb_CR ρ} {Q : gb_S → ρ → Prop} (h : gb_TC v) (H : ∀ s, s = v → gb_TC s → gb_tc (k s) Q) : gb_tc (gb_lt v k) Q := H v rfl h
theorem gc_01 {p : Int32} (i : gb_iv 0 1 p) : Int32.toNatClampNeg p = 0 ∨ Int32.toNatClampNeg p = 1 := by
  rcases gb_01 i with e | e
  · rw [e]
    exact Or.inl (by decide)
  · rw [e]
    exact Or.inr (by decide)
theorem gc_gB {p : Int32} (i : gb_iv 0 1 p) : gb_kB (([3, 5] : List Nat).getD (Int32.toNatClampNeg p) 0) = true := by
  rcases gc_01 i with e | e <;> (rw [e]; rfl)
theorem gc_gN {p : Int32} (i : gb_iv 0 1 p) : gb_kN (([8, 10] : List Nat).getD (Int32.toNatClampNeg p) 0) = true := by
  rcases gc_01 i with e | e <;> (rw [e]; rfl)
theorem gc_gL {p : Int32} (i : gb_iv 0 1 p) : gb_kL (([13, 15] : List Nat).getD (Int32.toNatClampNeg p) 0) = true := by
  rcases gc_01 i with e | e <;> (rw [e]; rfl)
theorem gc_gD {p : Int32} (i : gb_iv 0 1 p) : gb_kD (([18, 20] : List Nat).getD (Int32.toNatClampNeg p) 0) = true := by
  rcases gc_01 i with e | e <;> (rw [e]; rfl)
theorem gc_ibit (x : Int32) : gb_iv (-2147483648) 2147483647 x := gb_it x
