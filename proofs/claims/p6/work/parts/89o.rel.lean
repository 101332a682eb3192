/-! BOTH SHEETS: what a sheet of the class and one of the reference have in common -/
def gb_RS (s : Nat) (G R : Nat → Int32) : Prop := G 0 = R 0 ∧
  (s = 0 → G 1 = R 1 ∧ G 2 = R 2 ∧ (∀ p j, p < (R 0).toInt.toNat → j < 3 → G (3 + 3 * p + j) = R (3 + 3 * p + j)) ∧ ∀ g j, g < (R 1).toInt.toNat → j < 5 → G (18 + 5 * g + j) = R (18 + 5 * g + j)) ∧
  (s = 1 ∨ s = 2 → ∀ i, i < gb_wid s * (R 0).toInt.toNat → G (1 + i) = R (1 + i)) ∧
  (s = 3 → ∀ k, k < (R 0).toInt.toNat → G (2 + 3 * k) = R (1 + 2 * k) ∧ G (3 + 3 * k) = R (2 + 2 * k))
def gb_RC (s : Nat) (G R : Nat → Int32) : Prop := G 0 = R 0 ∧ (s = 0 → G 1 = R 1)
theorem room_rc {s l : Nat} {G R : Nat → Int32} (h : gb_RC s G R) : gb_room s l G ↔ gb_room s l R := by
  unfold gb_room
  by_cases c : s = 0
  · rw [if_pos c, if_pos c, h.1, h.2 c]
  · rw [if_neg c, if_neg c, h.1]
theorem gi_sn {x : Int32} {a b : Int} (h : gb_iv a b x) (ha : 0 ≤ a) (hb : b < 1000) : (x + 1).toInt.toNat = x.toInt.toNat + 1 := by
  have := gb_i1 h ⟨by omega, by omega⟩
  have := h.1
  omega
/-- counts go alike, whatever the numbers -/
theorem rc_add {s l : Nat} {V U G G2 R R2 : Nat → Int32} (hs : s ≤ 3) (h : gb_RC s G R) (a : gb_added s l V G G2) (b : gb_addR s l U R R2) : gb_RC s G2 R2 := by
  have rr := room_rc (l := l) h
  rcases a with ⟨a1, a2⟩ | ⟨a1, a2⟩
  · rcases b with ⟨b1, b2⟩ | ⟨b1, b2⟩
    · rw [a2, b2]
      exact h
    · exact absurd (rr.mpr b1) a1
  · rcases b with ⟨b1, b2⟩ | ⟨b1, b2⟩
    · exact absurd (rr.mp a1) b1
    · rcases a2 with ⟨s0, a3⟩ | ⟨s0, G1, a3, a4⟩
      · rcases b2 with ⟨-, b3⟩ | ⟨s1, -⟩ | ⟨s1, -⟩
        · subst s0
          have e0 := h.1
          have e1 := h.2 rfl
          have rlt := b1
          unfold gb_room at rlt
          rw [if_pos rfl] at rlt
          rcases a3 with ⟨l1, a5⟩ | ⟨l1, a5⟩ | ⟨l1, a5⟩ <;> rcases b3 with ⟨l2, b5⟩ | ⟨l2, b5⟩ | ⟨l2, b5⟩ <;> first | omega | skip
          · refine ⟨?_, fun _ => ?_⟩
            · rw [a5, b5, pk_un (by decide), pk_un (by decide), e0]
            · rw [a5, b5, pk_un (by decide), pk_un (by decide), e1]
          · refine ⟨?_, fun _ => ?_⟩
            · rw [a5, b5, pk_us, pk_us, e0]
            · rw [a5, b5, pk_un (by decide), pk_un (by decide)]
              unfold va_cpy
              rw [if_neg (by omega), if_neg (by omega), e1]
          · refine ⟨?_, fun _ => ?_⟩
            · rw [a5, b5, pk_un (by decide), pk_un (by decide)]
              unfold va_cpy
              rw [if_neg (by omega), if_neg (by omega), e0]
            · rw [a5, b5, pk_us, pk_us, e1]
        · omega
        · omega
      · rcases b2 with ⟨s1, -⟩ | ⟨s1, R1, b3, b4⟩ | ⟨s1, R1, -, -, -, b4⟩
        · exact absurd s1 s0
        · refine ⟨?_, fun z => absurd z s0⟩
          rw [a4, b4, pk_us, pk_us, h.1]
        · refine ⟨?_, fun z => absurd z s0⟩
          rw [a4, b4, pk_us, pk_us, h.1]
set_option maxHeartbeats 2000000 in
theorem rs_add {s l : Nat} {V U G G2 R R2 : Nat → Int32} (hs : s ≤ 3) (hl : gb_fl s ≤ l) (hl2 : l < gb_fl (s + 1)) (h : gb_RS s G R) (i0 : gb_iv 0 24 (R 0)) (i1 : s = 0 → gb_iv 0 8 (R 1) ∧ gb_iv 0 5 (R 0)) (hV : ∀ j, j < gb_kn l → V j = U j) (a : gb_added s l V G G2) (b : gb_addR s l U R R2) : gb_RS s G2 R2 := by
  have h0 := h.1
  have hrc : gb_RC s G R := ⟨h.1, fun z => (h.2.1 z).1⟩
  have rr := room_rc (l := l) hrc
  rcases a with ⟨a1, a2⟩ | ⟨a1, a2⟩
  · rcases b with ⟨b1, b2⟩ | ⟨b1, b2⟩
    · rw [a2, b2]
      exact h
    · exact absurd (rr.mpr b1) a1
  · rcases b with ⟨b1, b2⟩ | ⟨b1, b2⟩
    · exact absurd (rr.mp a1) b1
    · have n0 := gi_sn i0 (by decide) (by decide)
      rcases a2 with ⟨s0, a3⟩ | ⟨s0, G1, a3, a4⟩
      · rcases b2 with ⟨-, b3⟩ | ⟨s1, -⟩ | ⟨s1, -⟩
        · subst s0
          obtain ⟨h1, h2, h3, h4⟩ := h.2.1 rfl
          have n1 := gi_sn (i1 rfl).1 (by decide) (by decide)
          have c0 := i0.1
          have c1 := (i1 rfl).1.1
          have c5 := (i1 rfl).2.2
          have rlt := b1
          unfold gb_room at rlt
          rw [if_pos rfl] at rlt
          refine ⟨?_, fun _ => ?_, fun z => by omega, fun z => by omega⟩
          · have := (rc_add (l := l) hs hrc (Or.inr ⟨a1, Or.inl ⟨rfl, a3⟩⟩) (Or.inr ⟨b1, Or.inl ⟨rfl, b3⟩⟩)).1
            exact this
          · rcases a3 with ⟨l1, a5⟩ | ⟨l1, a5⟩ | ⟨l1, a5⟩ <;> rcases b3 with ⟨l2, b5⟩ | ⟨l2, b5⟩ | ⟨l2, b5⟩ <;> first | omega | skip
            · subst l1
              have v0 : V 0 = U 0 := hV 0 (by decide)
              rw [a5, b5]
              refine ⟨?_, ?_, fun p j p1 p2 => ?_, fun g j p1 p2 => ?_⟩
              · rw [pk_un (by decide), pk_un (by decide)]
                exact h1
              · rw [pk_us, pk_us, v0]
              · rw [pk_un (by decide)] at p1
                rw [pk_un (by omega), pk_un (by omega)]
                exact h3 p j p1 p2
              · rw [pk_un (by decide)] at p1
                rw [pk_un (by omega), pk_un (by omega)]
                exact h4 g j p1 p2
            · subst l1
              rw [a5, b5, h0]
              refine ⟨?_, ?_, fun p j p1 p2 => ?_, fun g j p1 p2 => ?_⟩
              · rw [pk_un (by decide), pk_un (by decide)]
                unfold va_cpy
                rw [if_neg (by omega), if_neg (by omega)]
                exact h1
              · rw [pk_un (by decide), pk_un (by decide)]
                unfold va_cpy
                rw [if_neg (by omega), if_neg (by omega)]
                exact h2
              · rw [pk_us, n0] at p1
                rw [pk_un (by omega), pk_un (by omega)]
                unfold va_cpy
                by_cases q : p = (R 0).toInt.toNat
                · rw [if_pos (by omega), if_pos (by omega)]
                  have : 0 + (3 + 3 * p + j - (3 + 3 * (R 0).toInt.toNat)) = j := by omega
                  rw [this]
                  exact hV j p2
                · rw [if_neg (by omega), if_neg (by omega)]
                  exact h3 p j (by omega) p2
              · rw [pk_un (by decide)] at p1
                unfold va_cpy at p1 ⊢
                rw [if_neg (by omega)] at p1
                rw [pk_un (by omega), pk_un (by omega), if_neg (by omega), if_neg (by omega)]
                exact h4 g j p1 p2
            · subst l1
              rw [a5, b5, h1]
              refine ⟨?_, ?_, fun p j p1 p2 => ?_, fun g j p1 p2 => ?_⟩
              · rw [pk_us, pk_us]
              · rw [pk_un (by decide), pk_un (by decide)]
                unfold va_cpy
                rw [if_neg (by omega), if_neg (by omega)]
                exact h2
              · rw [pk_un (by decide)] at p1
                unfold va_cpy at p1 ⊢
                rw [if_neg (by omega)] at p1
                rw [pk_un (by omega), pk_un (by omega), if_neg (by omega), if_neg (by omega)]
                exact h3 p j p1 p2
              · rw [pk_us, n1] at p1
                rw [pk_un (by omega), pk_un (by omega)]
                unfold va_cpy
                by_cases q : g = (R 1).toInt.toNat
                · rw [if_pos (by omega), if_pos (by omega)]
                  have : 0 + (18 + 5 * g + j - (18 + 5 * (R 1).toInt.toNat)) = j := by omega
                  rw [this]
                  exact hV j p2
                · rw [if_neg (by omega), if_neg (by omega)]
                  exact h4 g j (by omega) p2
        · omega
        · omega
      · obtain ⟨g1, g2, g3, g4⟩ := a3
        rw [h0] at g2 g3 g4
        rcases b2 with ⟨s1, -⟩ | ⟨s1, R1, ⟨r1, r2, r3, r4⟩, b4⟩ | ⟨s1, R1, r1, r2, r3, b4⟩
        · exact absurd s1 s0
        · refine ⟨by rw [a4, b4, pk_us, pk_us, h0], fun z => absurd z s0, fun _ i hi => ?_, fun z => by omega⟩
          rw [b4, pk_us, n0] at hi
          rw [a4, b4, pk_un (by omega), pk_un (by omega)]
          have hw : gb_wid s = 4 ∨ gb_wid s = 3 := by
            unfold gb_wid
            split
            · exact Or.inl rfl
            · exact Or.inr rfl
          have hmul : gb_wid s * ((R 0).toInt.toNat + 1) = gb_wid s * (R 0).toInt.toNat + gb_wid s := Nat.mul_succ _ _
          rw [hmul] at hi
          generalize hX : gb_wid s * (R 0).toInt.toNat = X at *
          by_cases q : i < X
          · rw [g4 _ (by omega) (by omega), r4 _ (by omega) (by omega)]
            exact h.2.2.1 s1 i (by rw [hX]; exact q)
          · by_cases q2 : i = X
            · rw [q2]
              exact gb_ieq (g2.trans r2.symm)
            · have e : 1 + i = 2 + X + (i - X - 1) := by omega
              rw [e, g3 (i - X - 1) (by omega), r3 (i - X - 1) (by omega)]
              by_cases q3 : i - X - 1 < gb_kn l
              · rw [if_pos q3, if_pos q3]
                exact hV _ q3
              · rw [if_neg q3, if_neg q3]
        · subst s1
          have kn2 : gb_kn l = 2 := by
            have e1 : gb_fl 3 = 17 := rfl
            have e2 : gb_fl (3 + 1) = 18 := rfl
            have : l = 17 := by omega
            rw [this]
            rfl
          have w3 : gb_wid 3 = 3 := rfl
          rw [w3] at g2 g3 g4
          refine ⟨by rw [a4, b4, pk_us, pk_us, h0], fun z => absurd z s0, fun z => by omega, fun _ k hk => ?_⟩
          rw [b4, pk_us, n0] at hk
          rw [a4, b4, pk_un (by omega), pk_un (by omega), pk_un (by omega), pk_un (by omega)]
          by_cases q : k = (R 0).toInt.toNat
          · have e1 := g3 0 (by decide)
            have e2 := g3 1 (by decide)
            rw [if_pos (by rw [kn2]; decide)] at e1 e2
            rw [q, r1, r2]
            refine ⟨?_, ?_⟩
            · rw [show 2 + 3 * (R 0).toInt.toNat = 2 + 3 * (R 0).toInt.toNat + 0 by omega, e1]
              exact hV 0 (by rw [kn2]; decide)
            · rw [show 3 + 3 * (R 0).toInt.toNat = 2 + 3 * (R 0).toInt.toNat + 1 by omega, e2]
              exact hV 1 (by rw [kn2]; decide)
          · rw [g4 _ (by omega) (by omega), g4 _ (by omega) (by omega), r3 _ (by omega) (by omega), r3 _ (by omega) (by omega)]
            exact h.2.2.2 rfl k (by omega)
/-- one PATH seen twice -/
def gb_dup (R : Nat → Int32) : Prop := ∃ i j, i < j ∧ j < (R 0).toInt.toNat ∧ R (1 + 2 * i) = R (1 + 2 * j)
theorem dup_add {U R R2 : Nat → Int32} (i0 : gb_iv 0 24 (R 0)) (hr : gb_room 3 17 R) (b : gb_addR 3 17 U R R2) : gb_dup R2 ↔ (gb_dup R ∨ ∃ k, k < (R 0).toInt.toNat ∧ R (1 + 2 * k) = U 0) := by
  have n0 := gi_sn i0 (by decide) (by decide)
  rcases b with ⟨b1, -⟩ | ⟨-, ⟨z, -⟩ | ⟨z, -⟩ | ⟨-, R1, r1, r2, r3, b4⟩⟩
  · exact absurd hr b1
  · omega
  · omega
  · have c0 : (R2 0).toInt.toNat = (R 0).toInt.toNat + 1 := by rw [b4, pk_us]; exact n0
    have old : ∀ k, k < (R 0).toInt.toNat → R2 (1 + 2 * k) = R (1 + 2 * k) := fun k hk => by
      rw [b4, pk_un (by omega)]
      exact r3 _ (by omega) (by omega)
    have new : R2 (1 + 2 * (R 0).toInt.toNat) = U 0 := by
      rw [b4, pk_un (by omega)]
      exact r1
    constructor
    · intro h
      obtain ⟨i, j, h1, h2, h3⟩ := h
      rw [c0] at h2
      by_cases q : j = (R 0).toInt.toNat
      · subst q
        rw [old i h1, new] at h3
        exact Or.inr ⟨i, h1, h3⟩
      · rw [old i (by omega), old j (by omega)] at h3
        exact Or.inl ⟨i, j, h1, by omega, h3⟩
    · intro h
      rcases h with ⟨i, j, h1, h2, h3⟩ | ⟨k, h1, h2⟩
      · exact ⟨i, j, h1, by rw [c0]; omega, by rw [old i (by omega), old j h2]; exact h3⟩
      · exact ⟨k, (R 0).toInt.toNat, h1, by rw [c0]; omega, by rw [old k h1, new]; exact h2⟩
