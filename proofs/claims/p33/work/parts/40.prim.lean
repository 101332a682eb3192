/-! METHODS AS FUNCTIONS: what they are made of -/
abbrev gb_F : Type := Nat → Nat → Int32
abbrev gb_MR (ρ : Type) : Type := Option (gb_F × Int64 × ρ)
def gb_u (f : gb_F) (k : Nat) (F : Nat → Int32) : gb_F := fun q => if q = k then F else f q
def gb_ck {β : Type} (i : Int32) (n : Nat) (k : Option β) : Option β := if 0 ≤ i.toInt ∧ i.toInt < (n : Int) then k else none
def gb_nz {β : Type} (y : Int32) (k : Option β) : Option β := if y = 0 then none else k
def gb_cb {β : Type} (v : Int32) (k : Option β) : Option β := if v = 0 ∨ v = 1 then k else none
def gb_lt {α β : Type} (v : α) (k : α → Option β) : Option β := k v
def gb_bd {ρ σ : Type} (x : gb_MR ρ) (k : gb_F → Int64 → ρ → gb_MR σ) : gb_MR σ := match x with
  | none => none
  | some q => k q.1 q.2.1 q.2.2
theorem gb_ck_s {β : Type} {i : Int32} {n : Nat} {k : Option β} {y : β} (h : gb_ck i n k = some y) : vp_in i n ∧ k = some y := by
  unfold gb_ck at h
  by_cases c : 0 ≤ i.toInt ∧ i.toInt < (n : Int)
  · rw [if_pos c] at h
    exact ⟨vp_in_iff.mpr c, h⟩
  · rw [if_neg c] at h
    cases h
theorem gb_nz_s {β : Type} {v : Int32} {k : Option β} {y : β} (h : gb_nz v k = some y) : ¬ v = 0 ∧ k = some y := by
  unfold gb_nz at h
  by_cases c : v = 0
  · rw [if_pos c] at h
    cases h
  · rw [if_neg c] at h
    exact ⟨c, h⟩
theorem gb_cb_s {β : Type} {v : Int32} {k : Option β} {y : β} (h : gb_cb v k = some y) : (narrow .boolean (.int v) = .int v ∧ fits .boolean (.int v) = true) ∧ k = some y := by
  unfold gb_cb at h
  by_cases c : v = 0 ∨ v = 1
  · rw [if_pos c] at h
    rcases c with c | c
    · subst c
      exact ⟨⟨by decide, by decide⟩, h⟩
    · subst c
      exact ⟨⟨by decide, by decide⟩, h⟩
  · rw [if_neg c] at h
    cases h
theorem gb_lt_s {α β : Type} {v x : α} {k : α → Option β} {y : β} (e : x = v) (h : gb_lt v k = some y) : k x = some y := by
  subst e
  exact h
theorem gb_bd_s {ρ σ : Type} {x : gb_MR ρ} {k : gb_F → Int64 → ρ → gb_MR σ} {y : gb_F × Int64 × σ} (h : gb_bd x k = some y) : ∃ f w r, x = some (f, w, r) ∧ k f w r = some y := by
  cases x with
  | none => cases h
  | some q => exact ⟨q.1, q.2.1, q.2.2, rfl, h⟩
theorem gb_eq3 {ρ : Type} {f f2 : gb_F} {w w2 : Int64} {r r2 : ρ} (h : (some (f, w, r) : gb_MR ρ) = some (f2, w2, r2)) : f = f2 ∧ w = w2 ∧ r = r2 := by
  cases h
  exact ⟨rfl, rfl, rfl⟩
theorem gb_ti {x : Int32} {k : Int32} {a : Int} (h : x = k) (hk : k.toInt = a) : x.toInt = a := by rw [h, hk]

abbrev gb_MW (cT : Nat → ClassId) (b : Nat) (f : gb_F) (w : Int64) : List va_E := [.inr (10, [.ref (b + 1), .ref (b + 2), .int (f 0 2), .int (f 0 3), .int (f 0 4), .int (f 0 5), .int (f 0 6), .int (f 0 7), .int (f 0 8), .int (f 0 9), .ref (b + 3), .int (f 0 11), .int (f 0 12), .ref (b + 4), .ref (b + 5), .ref (b + 6), .ref (b + 7), .ref (b + 8), .ref (b + 9), .ref (b + 10), .ref (b + 11), .ref (b + 12), .int (f 0 22), .int (f 0 23), .int (f 0 24), .int (f 0 25), .ref (b + 13), .ref (b + 14), .int (f 0 28), .int (f 0 29), .ref (b + 15), .ref (b + 16), .ref (b + 17), .long w, .int (f 0 34), .int (f 0 35), .int (f 0 36), .ref (b + 18), .int (f 0 38), .ref (b + 19), .ref (b + 20), .int (f 0 41), .int (f 0 42), .ref (b + 21)]), .inl (cT 0, 3968, .inl (f 1)), .inl (cT 2, 3, .inl (f 2)), .inl (cT 0, 97, .inl (f 3)), .inl (cT 0, 8, .inl (f 4)), .inl (cT 0, 8, .inl (f 5)), .inl (cT 0, 8, .inl (f 6)), .inl (cT 0, 8, .inl (f 7)), .inl (cT 2, 8, .inl (f 8)), .inl (cT 0, 40, .inl (f 9)), .inl (cT 0, 5, .inl (f 10)), .inl (cT 0, 5, .inl (f 11)), .inl (cT 0, 5, .inl (f 12)), .inl (cT 0, 40, .inl (f 13)), .inl (cT 0, 5, .inl (f 14)), .inl (cT 0, 5, .inl (f 15)), .inl (cT 0, 8, .inl (f 16)), .inl (cT 2, 8, .inl (f 17)), .inl (cT 0, 8, .inl (f 18)), .inl (cT 0, 5, .inl (f 19)), .inl (cT 0, 8, .inl (f 20)), .inl (cT 2, 256, .inl (f 21))]
