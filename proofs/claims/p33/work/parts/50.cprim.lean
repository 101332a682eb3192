/-! THE CLASS'S BLOCK as a function of its numbers: σ.1 k j: number j of cell k; σ.2.1: the references that change, as cell numbers; σ.2.2: the two rows of longs -/
abbrev gb_S : Type := gb_F × (Nat → Nat) × (Nat → Nat → Int64)
abbrev gb_CR (ρ : Type) : Type := Option (gb_S × ρ)
def gb_nv (b k : Nat) : Value := match k with
  | 0 => .null
  | k + 1 => .ref (b + (k + 1))
def gb_on (b k : Nat) : Option Nat := match k with
  | 0 => none
  | k + 1 => some (b + (k + 1))
def gb_ra (b : Nat) (L : List Nat) : Nat → Option Nat := fun j => (L[j]?).map (fun k => b + k)
def gb_su (σ : gb_S) (k : Nat) (F : Nat → Int32) : gb_S := (gb_u σ.1 k F, σ.2)
def gb_sq (σ : gb_S) (k v : Nat) : gb_S := (σ.1, fun j => if j = k then v else σ.2.1 j, σ.2.2)
def gb_sg (σ : gb_S) (k : Nat) (F : Nat → Int64) : gb_S := (σ.1, σ.2.1, fun j => if j = k then F else σ.2.2 j)
def gb_kk {β : Type} (c : Bool) (k : Option β) : Option β := if c = true then k else none
def gb_cd {ρ τ : Type} (x : gb_CR ρ) (k : gb_S → ρ → gb_CR τ) : gb_CR τ := match x with
  | none => none
  | some q => k q.1 q.2
theorem gb_kk_s {β : Type} {c : Bool} {k : Option β} {y : β} (h : gb_kk c k = some y) : c = true ∧ k = some y := by
  unfold gb_kk at h
  by_cases z : c = true
  · rw [if_pos z] at h
    exact ⟨z, h⟩
  · rw [if_neg z] at h
    cases h
theorem gb_cd_s {ρ τ : Type} {x : gb_CR ρ} {k : gb_S → ρ → gb_CR τ} {y : gb_S × τ} (h : gb_cd x k = some y) : ∃ σ r, x = some (σ, r) ∧ k σ r = some y := by
  cases x with
  | none => cases h
  | some q => exact ⟨q.1, q.2, rfl, h⟩
theorem gb_eq2 {ρ : Type} {σ σ2 : gb_S} {r r2 : ρ} (h : (some (σ, r) : gb_CR ρ) = some (σ2, r2)) : σ = σ2 ∧ r = r2 := by
  cases h
  exact ⟨rfl, rfl⟩
theorem gb_nv0 {b k : Nat} (h : k = 0) : gb_nv b k = .null := by subst h; rfl
theorem gb_nv1 {b k : Nat} (h : ¬ k = 0) : gb_nv b k = .ref (b + k) := by
  cases k with
  | zero => exact absurd rfl h
  | succ k => rfl
theorem gb_onv (b k : Nat) : va_rf (gb_on b k) = gb_nv b k := by
  cases k <;> rfl
theorem gb_ra_at {b : Nat} {L : List Nat} {i : Int32} (hin : vp_in i L.length) : va_rf (gb_ra b L i.toNatClampNeg) = .ref (b + L.getD i.toNatClampNeg 0) := by
  have hlt : i.toNatClampNeg < L.length := Nat.not_le.mp fun q => hin (Or.inr q)
  unfold gb_ra
  rw [List.getElem?_eq_getElem hlt, List.getD_eq_getElem?_getD, List.getElem?_eq_getElem hlt]
  rfl
abbrev gb_CW (cT : Nat → ClassId) (b : Nat) (σ : gb_S) : List va_E := [.inr (9, [.ref (b + 1), .ref (b + 24), .ref (b + 94), .ref (b + 95), .ref (b + 104), .ref (b + 106), .ref (b + 109), .ref (b + 120), .ref (b + 130), .int (σ.1 0 9)]),
  .inr (8, [.ref (b + 2), .ref (b + 7), .ref (b + 12), .ref (b + 17), .ref (b + 22), .ref (b + 23), .int (σ.1 1 6), .int (σ.1 1 7), .int (σ.1 1 8)]),
  .inl (cT 4, 2, .inr (.inr (.inr (.inr (gb_ra b [3, 5]))))),
  .inr (0, [.ref (b + 4)]),
  .inl (cT 0, 58, .inl (σ.1 4)),
  .inr (0, [.ref (b + 6)]),
  .inl (cT 0, 58, .inl (σ.1 6)),
  .inl (cT 5, 2, .inr (.inr (.inr (.inr (gb_ra b [8, 10]))))),
  .inr (4, [.int 24, .int 3, .int 3, .ref (b + 9)]),
  .inl (cT 0, 97, .inl (σ.1 9)),
  .inr (4, [.int 24, .int 3, .int 3, .ref (b + 11)]),
  .inl (cT 0, 97, .inl (σ.1 11)),
  .inl (cT 6, 2, .inr (.inr (.inr (.inr (gb_ra b [13, 15]))))),
  .inr (3, [.int 8, .int 2, .int 12, .ref (b + 14)]),
  .inl (cT 0, 25, .inl (σ.1 14)),
  .inr (3, [.int 8, .int 2, .int 12, .ref (b + 16)]),
  .inl (cT 0, 25, .inl (σ.1 16)),
  .inl (cT 7, 2, .inr (.inr (.inr (.inr (gb_ra b [18, 20]))))),
  .inr (1, [.int 5, .int 2, .int 17, .ref (b + 19)]),
  .inl (cT 0, 16, .inl (σ.1 19)),
  .inr (1, [.int 5, .int 2, .int 17, .ref (b + 21)]),
  .inl (cT 0, 16, .inl (σ.1 21)),
  .inl (cT 0, 4, .inl (σ.1 22)),
  .inl (cT 1, 600, .inl (σ.1 23)),
  .inl (cT 8, 3, .inr (.inr (.inr (.inr (gb_ra b [25, 48, 71]))))),
  .inr (8, [.ref (b + 26), .ref (b + 31), .ref (b + 36), .ref (b + 41), .ref (b + 46), .ref (b + 47), .int (σ.1 25 6), .int (σ.1 25 7), .int (σ.1 25 8)]),
  .inl (cT 4, 2, .inr (.inr (.inr (.inr (gb_ra b [27, 29]))))),
  .inr (0, [.ref (b + 28)]),
  .inl (cT 0, 58, .inl (σ.1 28)),
  .inr (0, [.ref (b + 30)]),
  .inl (cT 0, 58, .inl (σ.1 30)),
  .inl (cT 5, 2, .inr (.inr (.inr (.inr (gb_ra b [32, 34]))))),
  .inr (4, [.int 24, .int 3, .int 3, .ref (b + 33)]),
  .inl (cT 0, 97, .inl (σ.1 33)),
  .inr (4, [.int 24, .int 3, .int 3, .ref (b + 35)]),
  .inl (cT 0, 97, .inl (σ.1 35)),
  .inl (cT 6, 2, .inr (.inr (.inr (.inr (gb_ra b [37, 39]))))),
  .inr (3, [.int 8, .int 2, .int 12, .ref (b + 38)]),
  .inl (cT 0, 25, .inl (σ.1 38)),
  .inr (3, [.int 8, .int 2, .int 12, .ref (b + 40)]),
  .inl (cT 0, 25, .inl (σ.1 40)),
  .inl (cT 7, 2, .inr (.inr (.inr (.inr (gb_ra b [42, 44]))))),
  .inr (1, [.int 5, .int 2, .int 17, .ref (b + 43)]),
  .inl (cT 0, 16, .inl (σ.1 43)),
  .inr (1, [.int 5, .int 2, .int 17, .ref (b + 45)]),
  .inl (cT 0, 16, .inl (σ.1 45)),
  .inl (cT 0, 4, .inl (σ.1 46)),
  .inl (cT 1, 600, .inl (σ.1 47)),
  .inr (8, [.ref (b + 49), .ref (b + 54), .ref (b + 59), .ref (b + 64), .ref (b + 69), .ref (b + 70), .int (σ.1 48 6), .int (σ.1 48 7), .int (σ.1 48 8)]),
  .inl (cT 4, 2, .inr (.inr (.inr (.inr (gb_ra b [50, 52]))))),
  .inr (0, [.ref (b + 51)]),
  .inl (cT 0, 58, .inl (σ.1 51)),
  .inr (0, [.ref (b + 53)]),
  .inl (cT 0, 58, .inl (σ.1 53)),
  .inl (cT 5, 2, .inr (.inr (.inr (.inr (gb_ra b [55, 57]))))),
  .inr (4, [.int 24, .int 3, .int 3, .ref (b + 56)]),
  .inl (cT 0, 97, .inl (σ.1 56)),
  .inr (4, [.int 24, .int 3, .int 3, .ref (b + 58)]),
  .inl (cT 0, 97, .inl (σ.1 58)),
  .inl (cT 6, 2, .inr (.inr (.inr (.inr (gb_ra b [60, 62]))))),
  .inr (3, [.int 8, .int 2, .int 12, .ref (b + 61)]),
  .inl (cT 0, 25, .inl (σ.1 61)),
  .inr (3, [.int 8, .int 2, .int 12, .ref (b + 63)]),
  .inl (cT 0, 25, .inl (σ.1 63)),
  .inl (cT 7, 2, .inr (.inr (.inr (.inr (gb_ra b [65, 67]))))),
  .inr (1, [.int 5, .int 2, .int 17, .ref (b + 66)]),
  .inl (cT 0, 16, .inl (σ.1 66)),
  .inr (1, [.int 5, .int 2, .int 17, .ref (b + 68)]),
  .inl (cT 0, 16, .inl (σ.1 68)),
  .inl (cT 0, 4, .inl (σ.1 69)),
  .inl (cT 1, 600, .inl (σ.1 70)),
  .inr (8, [.ref (b + 72), .ref (b + 77), .ref (b + 82), .ref (b + 87), .ref (b + 92), .ref (b + 93), .int (σ.1 71 6), .int (σ.1 71 7), .int (σ.1 71 8)]),
  .inl (cT 4, 2, .inr (.inr (.inr (.inr (gb_ra b [73, 75]))))),
  .inr (0, [.ref (b + 74)]),
  .inl (cT 0, 58, .inl (σ.1 74)),
  .inr (0, [.ref (b + 76)]),
  .inl (cT 0, 58, .inl (σ.1 76)),
  .inl (cT 5, 2, .inr (.inr (.inr (.inr (gb_ra b [78, 80]))))),
  .inr (4, [.int 24, .int 3, .int 3, .ref (b + 79)]),
  .inl (cT 0, 97, .inl (σ.1 79)),
  .inr (4, [.int 24, .int 3, .int 3, .ref (b + 81)]),
  .inl (cT 0, 97, .inl (σ.1 81)),
  .inl (cT 6, 2, .inr (.inr (.inr (.inr (gb_ra b [83, 85]))))),
  .inr (3, [.int 8, .int 2, .int 12, .ref (b + 84)]),
  .inl (cT 0, 25, .inl (σ.1 84)),
  .inr (3, [.int 8, .int 2, .int 12, .ref (b + 86)]),
  .inl (cT 0, 25, .inl (σ.1 86)),
  .inl (cT 7, 2, .inr (.inr (.inr (.inr (gb_ra b [88, 90]))))),
  .inr (1, [.int 5, .int 2, .int 17, .ref (b + 89)]),
  .inl (cT 0, 16, .inl (σ.1 89)),
  .inr (1, [.int 5, .int 2, .int 17, .ref (b + 91)]),
  .inl (cT 0, 16, .inl (σ.1 91)),
  .inl (cT 0, 4, .inl (σ.1 92)),
  .inl (cT 1, 600, .inl (σ.1 93)),
  .inl (cT 2, 3, .inl (σ.1 94)),
  .inl (cT 9, 4, .inr (.inr (.inr (.inr (gb_ra b [96, 98, 100, 102]))))),
  .inr (0, [.ref (b + 97)]),
  .inl (cT 0, 58, .inl (σ.1 97)),
  .inr (4, [.int 24, .int 3, .int 3, .ref (b + 99)]),
  .inl (cT 0, 97, .inl (σ.1 99)),
  .inr (3, [.int 8, .int 2, .int 12, .ref (b + 101)]),
  .inl (cT 0, 25, .inl (σ.1 101)),
  .inr (1, [.int 5, .int 2, .int 17, .ref (b + 103)]),
  .inl (cT 0, 16, .inl (σ.1 103)),
  .inr (4, [.int 24, .int 3, .int 3, .ref (b + 105)]),
  .inl (cT 0, 97, .inl (σ.1 105)),
  .inr (6, [.ref (b + 107), .ref (b + σ.2.1 0), .int (σ.1 106 2), .int (σ.1 106 3), .int (σ.1 106 4), .int (σ.1 106 5)]),
  .inl (cT 0, 5, .inl (σ.1 107)),
  .inl (cT 1, 0, .inl (σ.1 108)),
  .inr (5, [.ref (b + σ.2.1 1), .ref (b + 112), .ref (b + 113), .ref (b + 114), .ref (b + 115), .ref (b + 116), .ref (b + 117), .ref (b + 118), .ref (b + 119), .int (σ.1 109 9), .int (σ.1 109 10), .int (σ.1 109 11)]),
  .inr (0, [.ref (b + 111)]),
  .inl (cT 0, 58, .inl (σ.1 111)),
  .inl (cT 0, 8, .inl (σ.1 112)),
  .inl (cT 0, 8, .inl (σ.1 113)),
  .inl (cT 0, 8, .inl (σ.1 114)),
  .inl (cT 0, 8, .inl (σ.1 115)),
  .inl (cT 0, 5, .inl (σ.1 116)),
  .inl (cT 0, 5, .inl (σ.1 117)),
  .inl (cT 0, 5, .inl (σ.1 118)),
  .inl (cT 0, 40, .inl (σ.1 119)),
  .inr (7, [.ref (b + σ.2.1 2), (gb_nv b (σ.2.1 3)), .ref (b + 123), .ref (b + 124), .int (σ.1 120 4), .ref (b + 125), .ref (b + 126), .ref (b + 127), .ref (b + 128), .ref (b + 129), .int (σ.1 120 10)]),
  .inr (0, [.ref (b + 122)]),
  .inl (cT 0, 58, .inl (σ.1 122)),
  .inl (cT 0, 40, .inl (σ.1 123)),
  .inl (cT 0, 5, .inl (σ.1 124)),
  .inl (cT 0, 8, .inl (σ.1 125)),
  .inl (cT 0, 5, .inl (σ.1 126)),
  .inl (cT 0, 5, .inl (σ.1 127)),
  .inl (cT 0, 8, .inl (σ.1 128)),
  .inl (cT 0, 5, .inl (σ.1 129)),
  .inr (2, [.ref (b + 131), .ref (b + 132), .ref (b + σ.2.1 4), .ref (b + σ.2.1 5), .int (σ.1 130 4), .int (σ.1 130 5)]),
  .inl (cT 0, 256, .inl (σ.1 131)),
  .inl (cT 0, 256, .inl (σ.1 132)),
  .inl (cT 3, 256, .inr (.inl (σ.2.2 133))),
  .inl (cT 3, 256, .inr (.inl (σ.2.2 134)))]
def gb_kB (k : Nat) : Bool := [3, 5, 27, 29, 50, 52, 73, 75, 96, 110, 121].contains k
theorem gb_kB_or {k : Nat} (h : gb_kB k = true) : k = 3 ∨ k = 5 ∨ k = 27 ∨ k = 29 ∨ k = 50 ∨ k = 52 ∨ k = 73 ∨ k = 75 ∨ k = 96 ∨ k = 110 ∨ k = 121 := by
  unfold gb_kB at h
  simpa using h
theorem gb_cB {cT : Nat → ClassId} {b : Nat} {σ : gb_S} {k : Nat} (h : gb_kB k = true) : (gb_CW cT b σ)[k]? = some (.inr (0, [.ref (b + (k + 1))])) ∧ (gb_CW cT b σ)[k + 1]? = some (.inl (cT 0, 58, .inl (σ.1 (k + 1)))) := by
  rcases gb_kB_or h with rfl | rfl | rfl | rfl | rfl | rfl | rfl | rfl | rfl | rfl | rfl <;> exact ⟨rfl, rfl⟩
theorem gb_wB {cT : Nat → ClassId} {b : Nat} {σ : gb_S} {k : Nat} {F : Nat → Int32} (h : gb_kB k = true) : (gb_CW cT b σ).set (k + 1) (.inl (cT 0, 58, .inl F)) = gb_CW cT b (gb_su σ (k + 1) F) := by
  rcases gb_kB_or h with rfl | rfl | rfl | rfl | rfl | rfl | rfl | rfl | rfl | rfl | rfl <;> rfl
def gb_kN (k : Nat) : Bool := [8, 10, 32, 34, 55, 57, 78, 80, 98, 104].contains k
theorem gb_kN_or {k : Nat} (h : gb_kN k = true) : k = 8 ∨ k = 10 ∨ k = 32 ∨ k = 34 ∨ k = 55 ∨ k = 57 ∨ k = 78 ∨ k = 80 ∨ k = 98 ∨ k = 104 := by
  unfold gb_kN at h
  simpa using h
theorem gb_cN {cT : Nat → ClassId} {b : Nat} {σ : gb_S} {k : Nat} (h : gb_kN k = true) : (gb_CW cT b σ)[k]? = some (.inr (4, [.int 24, .int 3, .int 3, .ref (b + (k + 1))])) ∧ (gb_CW cT b σ)[k + 1]? = some (.inl (cT 0, 97, .inl (σ.1 (k + 1)))) := by
  rcases gb_kN_or h with rfl | rfl | rfl | rfl | rfl | rfl | rfl | rfl | rfl | rfl <;> exact ⟨rfl, rfl⟩
theorem gb_wN {cT : Nat → ClassId} {b : Nat} {σ : gb_S} {k : Nat} {F : Nat → Int32} (h : gb_kN k = true) : (gb_CW cT b σ).set (k + 1) (.inl (cT 0, 97, .inl F)) = gb_CW cT b (gb_su σ (k + 1) F) := by
  rcases gb_kN_or h with rfl | rfl | rfl | rfl | rfl | rfl | rfl | rfl | rfl | rfl <;> rfl
def gb_kL (k : Nat) : Bool := [13, 15, 37, 39, 60, 62, 83, 85, 100].contains k
theorem gb_kL_or {k : Nat} (h : gb_kL k = true) : k = 13 ∨ k = 15 ∨ k = 37 ∨ k = 39 ∨ k = 60 ∨ k = 62 ∨ k = 83 ∨ k = 85 ∨ k = 100 := by
  unfold gb_kL at h
  simpa using h
theorem gb_cL {cT : Nat → ClassId} {b : Nat} {σ : gb_S} {k : Nat} (h : gb_kL k = true) : (gb_CW cT b σ)[k]? = some (.inr (3, [.int 8, .int 2, .int 12, .ref (b + (k + 1))])) ∧ (gb_CW cT b σ)[k + 1]? = some (.inl (cT 0, 25, .inl (σ.1 (k + 1)))) := by
  rcases gb_kL_or h with rfl | rfl | rfl | rfl | rfl | rfl | rfl | rfl | rfl <;> exact ⟨rfl, rfl⟩
theorem gb_wL {cT : Nat → ClassId} {b : Nat} {σ : gb_S} {k : Nat} {F : Nat → Int32} (h : gb_kL k = true) : (gb_CW cT b σ).set (k + 1) (.inl (cT 0, 25, .inl F)) = gb_CW cT b (gb_su σ (k + 1) F) := by
  rcases gb_kL_or h with rfl | rfl | rfl | rfl | rfl | rfl | rfl | rfl | rfl <;> rfl
def gb_kD (k : Nat) : Bool := [18, 20, 42, 44, 65, 67, 88, 90, 102].contains k
theorem gb_kD_or {k : Nat} (h : gb_kD k = true) : k = 18 ∨ k = 20 ∨ k = 42 ∨ k = 44 ∨ k = 65 ∨ k = 67 ∨ k = 88 ∨ k = 90 ∨ k = 102 := by
  unfold gb_kD at h
  simpa using h
theorem gb_cD {cT : Nat → ClassId} {b : Nat} {σ : gb_S} {k : Nat} (h : gb_kD k = true) : (gb_CW cT b σ)[k]? = some (.inr (1, [.int 5, .int 2, .int 17, .ref (b + (k + 1))])) ∧ (gb_CW cT b σ)[k + 1]? = some (.inl (cT 0, 16, .inl (σ.1 (k + 1)))) := by
  rcases gb_kD_or h with rfl | rfl | rfl | rfl | rfl | rfl | rfl | rfl | rfl <;> exact ⟨rfl, rfl⟩
theorem gb_wD {cT : Nat → ClassId} {b : Nat} {σ : gb_S} {k : Nat} {F : Nat → Int32} (h : gb_kD k = true) : (gb_CW cT b σ).set (k + 1) (.inl (cT 0, 16, .inl F)) = gb_CW cT b (gb_su σ (k + 1) F) := by
  rcases gb_kD_or h with rfl | rfl | rfl | rfl | rfl | rfl | rfl | rfl | rfl <;> rfl
def gb_kT (k : Nat) : Bool := [1, 25, 48, 71].contains k
theorem gb_kT_or {k : Nat} (h : gb_kT k = true) : k = 1 ∨ k = 25 ∨ k = 48 ∨ k = 71 := by
  unfold gb_kT at h
  simpa using h
theorem gb_cT {cT : Nat → ClassId} {b : Nat} {σ : gb_S} {k : Nat} (h : gb_kT k = true) : (gb_CW cT b σ)[k]? = some (.inr (8, [.ref (b + (k + 1)), .ref (b + (k + 6)), .ref (b + (k + 11)), .ref (b + (k + 16)), .ref (b + (k + 21)), .ref (b + (k + 22)), .int (σ.1 k 6), .int (σ.1 k 7), .int (σ.1 k 8)])) ∧ (gb_CW cT b σ)[k + 1]? = some (.inl (cT 4, 2, .inr (.inr (.inr (.inr (gb_ra b [k + 2, k + 4])))))) ∧ (gb_CW cT b σ)[k + 6]? = some (.inl (cT 5, 2, .inr (.inr (.inr (.inr (gb_ra b [k + 7, k + 9])))))) ∧ (gb_CW cT b σ)[k + 11]? = some (.inl (cT 6, 2, .inr (.inr (.inr (.inr (gb_ra b [k + 12, k + 14])))))) ∧ (gb_CW cT b σ)[k + 16]? = some (.inl (cT 7, 2, .inr (.inr (.inr (.inr (gb_ra b [k + 17, k + 19])))))) ∧ (gb_CW cT b σ)[k + 21]? = some (.inl (cT 0, 4, .inl (σ.1 (k + 21)))) ∧ (gb_CW cT b σ)[k + 22]? = some (.inl (cT 1, 600, .inl (σ.1 (k + 22)))) := by
  rcases gb_kT_or h with rfl | rfl | rfl | rfl <;> exact ⟨rfl, rfl, rfl, rfl, rfl, rfl, rfl⟩
theorem gb_wT21 {cT : Nat → ClassId} {b : Nat} {σ : gb_S} {k : Nat} {F : Nat → Int32} (h : gb_kT k = true) : (gb_CW cT b σ).set (k + 21) (.inl (cT 0, 4, .inl F)) = gb_CW cT b (gb_su σ (k + 21) F) := by
  rcases gb_kT_or h with rfl | rfl | rfl | rfl <;> rfl
theorem gb_wT22 {cT : Nat → ClassId} {b : Nat} {σ : gb_S} {k : Nat} {F : Nat → Int32} (h : gb_kT k = true) : (gb_CW cT b σ).set (k + 22) (.inl (cT 1, 600, .inl F)) = gb_CW cT b (gb_su σ (k + 22) F) := by
  rcases gb_kT_or h with rfl | rfl | rfl | rfl <;> rfl
def gb_kJ (k : Nat) : Bool := [133, 134].contains k
theorem gb_kJ_or {k : Nat} (h : gb_kJ k = true) : k = 133 ∨ k = 134 := by
  unfold gb_kJ at h
  simpa using h
theorem gb_cJ {cT : Nat → ClassId} {b : Nat} {σ : gb_S} {k : Nat} (h : gb_kJ k = true) : (gb_CW cT b σ)[k]? = some (.inl (cT 3, 256, .inr (.inl (σ.2.2 k)))) := by
  rcases gb_kJ_or h with rfl | rfl <;> rfl
theorem gb_wJ {cT : Nat → ClassId} {b : Nat} {σ : gb_S} {k : Nat} {F : Nat → Int64} (h : gb_kJ k = true) : (gb_CW cT b σ).set k (.inl (cT 3, 256, .inr (.inl F))) = gb_CW cT b (gb_sg σ k F) := by
  rcases gb_kJ_or h with rfl | rfl <;> rfl
