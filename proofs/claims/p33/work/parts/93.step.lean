def gb_s0 : gb_S := ((fun k => if gc_cat k = 1 then upd (fun _ => 0) 2 (-1) else if gc_cat k = 7 then upd (fun _ => 0) 8 (-1) else fun _ => 0), (fun k => ([108, 110, 121, 0, 133, 134] : List Nat).getD k 0), fun _ _ => 0)
def gb_f00 : gb_F := fun k => if k = 1 then upd (fun _ => 0) 6 (-1) else fun _ => 0
theorem gb_ra2 (b x y : Nat) : va_up (va_up (fun _ => none) 0 (some (b + x))) 1 (some (b + y)) = gb_ra b [x, y] := by
  funext j
  match j with
  | 0 => rfl
  | 1 => rfl
  | j + 2 => rfl
theorem gb_ra3 (b x y u : Nat) : va_up (va_up (va_up (fun _ => none) 0 (some (b + x))) 1 (some (b + y))) 2 (some (b + u)) = gb_ra b [x, y, u] := by
  funext j
  match j with
  | 0 => rfl
  | 1 => rfl
  | 2 => rfl
  | j + 3 => rfl
theorem gb_ra4 (b x y u v : Nat) : va_up (va_up (va_up (va_up (fun _ => none) 0 (some (b + x))) 1 (some (b + y))) 2 (some (b + u))) 3 (some (b + v)) = gb_ra b [x, y, u, v] := by
  funext j
  match j with
  | 0 => rfl
  | 1 => rfl
  | 2 => rfl
  | 3 => rfl
  | j + 4 => rfl
theorem gc_ty0 (c j : Nat) : gb_iv (gc_ty c j).1 (gc_ty c j).2 0 := by
  have z : (0 : Int32).toInt = 0 := by decide
  unfold gb_iv gc_ty
  rw [z]
  split <;> (try split) <;> (try split) <;> decide
theorem gb_s0_TC : gb_TC gb_s0 := by
  refine ⟨fun k j => ?_, rfl, rfl, Or.inl rfl, rfl, rfl⟩
  show gb_iv (gc_ty (gc_cat k) j).1 (gc_ty (gc_cat k) j).2 ((if gc_cat k = 1 then upd (fun _ => 0) 2 (-1) else if gc_cat k = 7 then upd (fun _ => 0) 8 (-1) else fun _ => 0) j)
  by_cases h1 : gc_cat k = 1
  · rw [if_pos h1, h1]
    unfold upd
    by_cases hj : j = 2
    · rw [if_pos hj, hj]
      exact ⟨by decide, by decide⟩
    · rw [if_neg hj]
      exact gc_ty0 1 j
  · rw [if_neg h1]
    by_cases h7 : gc_cat k = 7
    · rw [if_pos h7, h7]
      unfold upd
      by_cases hj : j = 8
      · rw [if_pos hj, hj]
        exact ⟨by decide, by decide⟩
      · rw [if_neg hj]
        exact gc_ty0 7 j
    · rw [if_neg h7]
      exact gc_ty0 (gc_cat k) j
theorem gt_10 (j : Nat) : gb_iv (gt_1 j).1 (gt_1 j).2 0 := by
  have z : (0 : Int32).toInt = 0 := by decide
  unfold gt_1
  split
  · exact ⟨by decide, by decide⟩
  split
  · exact ⟨by decide, by decide⟩
  split
  · exact ⟨by decide, by decide⟩
  split
  · exact ⟨by decide, by decide⟩
  split
  · exact ⟨by decide, by decide⟩
  split
  · exact ⟨by decide, by decide⟩
  split
  · exact gt_R00
  split
  · exact gt_R00
  split
  · exact gt_R00
  · exact gt_R00
theorem gb_f00_TM : gb_TM gb_f00 := by
  refine ⟨⟨⟨Or.inl rfl, Or.inl rfl, Or.inl rfl, Or.inl rfl⟩, ⟨by decide, by decide⟩, ⟨by decide, by decide⟩, ⟨by decide, by decide⟩, ⟨by decide, by decide⟩⟩, fun j => ?_⟩
  show gb_iv _ _ (upd (fun _ => 0) 6 (-1) j)
  unfold upd
  by_cases hj : j = 6
  · rw [if_pos hj, hj]
    exact ⟨by decide, by decide⟩
  · rw [if_neg hj]
    exact gt_10 _
abbrev gb_C (cT : Nat → ClassId) (b : Nat) : List va_E := [.inr (9, [.ref (b + 1), .ref (b + 24), .ref (b + 94), .ref (b + 95), .ref (b + 104), .ref (b + 106), .ref (b + 109), .ref (b + 120), .ref (b + 130), .int 0]), .inr (8, [.ref (b + 2), .ref (b + 7), .ref (b + 12), .ref (b + 17), .ref (b + 22), .ref (b + 23), .int 0, .int 0, .int (-1)]), .inl (cT 4, 2, .inr (.inr (.inr (.inr (va_up (va_up (fun _ => none) 0 (some (b + 3))) 1 (some (b + 5))))))), .inr (0, [.ref (b + 4)]), .inl (cT 0, 58, .inl (upd (fun _ => 0) 2 (-1))), .inr (0, [.ref (b + 6)]), .inl (cT 0, 58, .inl (upd (fun _ => 0) 2 (-1))), .inl (cT 5, 2, .inr (.inr (.inr (.inr (va_up (va_up (fun _ => none) 0 (some (b + 8))) 1 (some (b + 10))))))), .inr (4, [.int 24, .int 3, .int 3, .ref (b + 9)]), .inl (cT 0, 97, .inl (fun _ => 0)), .inr (4, [.int 24, .int 3, .int 3, .ref (b + 11)]), .inl (cT 0, 97, .inl (fun _ => 0)), .inl (cT 6, 2, .inr (.inr (.inr (.inr (va_up (va_up (fun _ => none) 0 (some (b + 13))) 1 (some (b + 15))))))), .inr (3, [.int 8, .int 2, .int 12, .ref (b + 14)]), .inl (cT 0, 25, .inl (fun _ => 0)), .inr (3, [.int 8, .int 2, .int 12, .ref (b + 16)]), .inl (cT 0, 25, .inl (fun _ => 0)), .inl (cT 7, 2, .inr (.inr (.inr (.inr (va_up (va_up (fun _ => none) 0 (some (b + 18))) 1 (some (b + 20))))))), .inr (1, [.int 5, .int 2, .int 17, .ref (b + 19)]), .inl (cT 0, 16, .inl (fun _ => 0)), .inr (1, [.int 5, .int 2, .int 17, .ref (b + 21)]), .inl (cT 0, 16, .inl (fun _ => 0)), .inl (cT 0, 4, .inl (fun _ => 0)), .inl (cT 1, 600, .inl (fun _ => 0)), .inl (cT 8, 3, .inr (.inr (.inr (.inr (va_up (va_up (va_up (fun _ => none) 0 (some (b + 25))) 1 (some (b + 48))) 2 (some (b + 71))))))), .inr (8, [.ref (b + 26), .ref (b + 31), .ref (b + 36), .ref (b + 41), .ref (b + 46), .ref (b + 47), .int 0, .int 0, .int (-1)]), .inl (cT 4, 2, .inr (.inr (.inr (.inr (va_up (va_up (fun _ => none) 0 (some (b + 27))) 1 (some (b + 29))))))), .inr (0, [.ref (b + 28)]), .inl (cT 0, 58, .inl (upd (fun _ => 0) 2 (-1))), .inr (0, [.ref (b + 30)]), .inl (cT 0, 58, .inl (upd (fun _ => 0) 2 (-1))), .inl (cT 5, 2, .inr (.inr (.inr (.inr (va_up (va_up (fun _ => none) 0 (some (b + 32))) 1 (some (b + 34))))))), .inr (4, [.int 24, .int 3, .int 3, .ref (b + 33)]), .inl (cT 0, 97, .inl (fun _ => 0)), .inr (4, [.int 24, .int 3, .int 3, .ref (b + 35)]), .inl (cT 0, 97, .inl (fun _ => 0)), .inl (cT 6, 2, .inr (.inr (.inr (.inr (va_up (va_up (fun _ => none) 0 (some (b + 37))) 1 (some (b + 39))))))), .inr (3, [.int 8, .int 2, .int 12, .ref (b + 38)]), .inl (cT 0, 25, .inl (fun _ => 0)), .inr (3, [.int 8, .int 2, .int 12, .ref (b + 40)]), .inl (cT 0, 25, .inl (fun _ => 0)), .inl (cT 7, 2, .inr (.inr (.inr (.inr (va_up (va_up (fun _ => none) 0 (some (b + 42))) 1 (some (b + 44))))))), .inr (1, [.int 5, .int 2, .int 17, .ref (b + 43)]), .inl (cT 0, 16, .inl (fun _ => 0)), .inr (1, [.int 5, .int 2, .int 17, .ref (b + 45)]), .inl (cT 0, 16, .inl (fun _ => 0)), .inl (cT 0, 4, .inl (fun _ => 0)), .inl (cT 1, 600, .inl (fun _ => 0)), .inr (8, [.ref (b + 49), .ref (b + 54), .ref (b + 59), .ref (b + 64), .ref (b + 69), .ref (b + 70), .int 0, .int 0, .int (-1)]), .inl (cT 4, 2, .inr (.inr (.inr (.inr (va_up (va_up (fun _ => none) 0 (some (b + 50))) 1 (some (b + 52))))))), .inr (0, [.ref (b + 51)]), .inl (cT 0, 58, .inl (upd (fun _ => 0) 2 (-1))), .inr (0, [.ref (b + 53)]), .inl (cT 0, 58, .inl (upd (fun _ => 0) 2 (-1))), .inl (cT 5, 2, .inr (.inr (.inr (.inr (va_up (va_up (fun _ => none) 0 (some (b + 55))) 1 (some (b + 57))))))), .inr (4, [.int 24, .int 3, .int 3, .ref (b + 56)]), .inl (cT 0, 97, .inl (fun _ => 0)), .inr (4, [.int 24, .int 3, .int 3, .ref (b + 58)]), .inl (cT 0, 97, .inl (fun _ => 0)), .inl (cT 6, 2, .inr (.inr (.inr (.inr (va_up (va_up (fun _ => none) 0 (some (b + 60))) 1 (some (b + 62))))))), .inr (3, [.int 8, .int 2, .int 12, .ref (b + 61)]), .inl (cT 0, 25, .inl (fun _ => 0)), .inr (3, [.int 8, .int 2, .int 12, .ref (b + 63)]), .inl (cT 0, 25, .inl (fun _ => 0)), .inl (cT 7, 2, .inr (.inr (.inr (.inr (va_up (va_up (fun _ => none) 0 (some (b + 65))) 1 (some (b + 67))))))), .inr (1, [.int 5, .int 2, .int 17, .ref (b + 66)]), .inl (cT 0, 16, .inl (fun _ => 0)), .inr (1, [.int 5, .int 2, .int 17, .ref (b + 68)]), .inl (cT 0, 16, .inl (fun _ => 0)), .inl (cT 0, 4, .inl (fun _ => 0)), .inl (cT 1, 600, .inl (fun _ => 0)), .inr (8, [.ref (b + 72), .ref (b + 77), .ref (b + 82), .ref (b + 87), .ref (b + 92), .ref (b + 93), .int 0, .int 0, .int (-1)]), .inl (cT 4, 2, .inr (.inr (.inr (.inr (va_up (va_up (fun _ => none) 0 (some (b + 73))) 1 (some (b + 75))))))), .inr (0, [.ref (b + 74)]), .inl (cT 0, 58, .inl (upd (fun _ => 0) 2 (-1))), .inr (0, [.ref (b + 76)]), .inl (cT 0, 58, .inl (upd (fun _ => 0) 2 (-1))), .inl (cT 5, 2, .inr (.inr (.inr (.inr (va_up (va_up (fun _ => none) 0 (some (b + 78))) 1 (some (b + 80))))))), .inr (4, [.int 24, .int 3, .int 3, .ref (b + 79)]), .inl (cT 0, 97, .inl (fun _ => 0)), .inr (4, [.int 24, .int 3, .int 3, .ref (b + 81)]), .inl (cT 0, 97, .inl (fun _ => 0)), .inl (cT 6, 2, .inr (.inr (.inr (.inr (va_up (va_up (fun _ => none) 0 (some (b + 83))) 1 (some (b + 85))))))), .inr (3, [.int 8, .int 2, .int 12, .ref (b + 84)]), .inl (cT 0, 25, .inl (fun _ => 0)), .inr (3, [.int 8, .int 2, .int 12, .ref (b + 86)]), .inl (cT 0, 25, .inl (fun _ => 0)), .inl (cT 7, 2, .inr (.inr (.inr (.inr (va_up (va_up (fun _ => none) 0 (some (b + 88))) 1 (some (b + 90))))))), .inr (1, [.int 5, .int 2, .int 17, .ref (b + 89)]), .inl (cT 0, 16, .inl (fun _ => 0)), .inr (1, [.int 5, .int 2, .int 17, .ref (b + 91)]), .inl (cT 0, 16, .inl (fun _ => 0)), .inl (cT 0, 4, .inl (fun _ => 0)), .inl (cT 1, 600, .inl (fun _ => 0)), .inl (cT 2, 3, .inl (fun _ => 0)), .inl (cT 9, 4, .inr (.inr (.inr (.inr (va_up (va_up (va_up (va_up (fun _ => none) 0 (some (b + 96))) 1 (some (b + 98))) 2 (some (b + 100))) 3 (some (b + 102))))))), .inr (0, [.ref (b + 97)]), .inl (cT 0, 58, .inl (upd (fun _ => 0) 2 (-1))), .inr (4, [.int 24, .int 3, .int 3, .ref (b + 99)]), .inl (cT 0, 97, .inl (fun _ => 0)), .inr (3, [.int 8, .int 2, .int 12, .ref (b + 101)]), .inl (cT 0, 25, .inl (fun _ => 0)), .inr (1, [.int 5, .int 2, .int 17, .ref (b + 103)]), .inl (cT 0, 16, .inl (fun _ => 0)), .inr (4, [.int 24, .int 3, .int 3, .ref (b + 105)]), .inl (cT 0, 97, .inl (fun _ => 0)), .inr (6, [.ref (b + 107), .ref (b + 108), .int 0, .int 0, .int 0, .int 0]), .inl (cT 0, 5, .inl (fun _ => 0)), .inl (cT 1, 0, .inl (fun _ => 0)), .inr (5, [.ref (b + 110), .ref (b + 112), .ref (b + 113), .ref (b + 114), .ref (b + 115), .ref (b + 116), .ref (b + 117), .ref (b + 118), .ref (b + 119), .int 0, .int 0, .int 0]), .inr (0, [.ref (b + 111)]), .inl (cT 0, 58, .inl (upd (fun _ => 0) 2 (-1))), .inl (cT 0, 8, .inl (fun _ => 0)), .inl (cT 0, 8, .inl (fun _ => 0)), .inl (cT 0, 8, .inl (fun _ => 0)), .inl (cT 0, 8, .inl (fun _ => 0)), .inl (cT 0, 5, .inl (fun _ => 0)), .inl (cT 0, 5, .inl (fun _ => 0)), .inl (cT 0, 5, .inl (fun _ => 0)), .inl (cT 0, 40, .inl (fun _ => 0)), .inr (7, [.ref (b + 121), .null, .ref (b + 123), .ref (b + 124), .int 0, .ref (b + 125), .ref (b + 126), .ref (b + 127), .ref (b + 128), .ref (b + 129), .int 0]), .inr (0, [.ref (b + 122)]), .inl (cT 0, 58, .inl (upd (fun _ => 0) 2 (-1))), .inl (cT 0, 40, .inl (fun _ => 0)), .inl (cT 0, 5, .inl (fun _ => 0)), .inl (cT 0, 8, .inl (fun _ => 0)), .inl (cT 0, 5, .inl (fun _ => 0)), .inl (cT 0, 5, .inl (fun _ => 0)), .inl (cT 0, 8, .inl (fun _ => 0)), .inl (cT 0, 5, .inl (fun _ => 0)), .inr (2, [.ref (b + 131), .ref (b + 132), .ref (b + 133), .ref (b + 134), .int 0, .int 0]), .inl (cT 0, 256, .inl (fun _ => 0)), .inl (cT 0, 256, .inl (fun _ => 0)), .inl (cT 3, 256, .inr (.inl (fun _ => 0))), .inl (cT 3, 256, .inr (.inl (fun _ => 0)))]
abbrev gb_M (cT : Nat → ClassId) (b : Nat) : List va_E := [.inr (10, [.ref (b + 1), .ref (b + 2), .int 0, .int 0, .int 0, .int 0, .int 0, .int 0, .int 0, .int 0, .ref (b + 3), .int 0, .int 0, .ref (b + 4), .ref (b + 5), .ref (b + 6), .ref (b + 7), .ref (b + 8), .ref (b + 9), .ref (b + 10), .ref (b + 11), .ref (b + 12), .int 0, .int 0, .int 0, .int 0, .ref (b + 13), .ref (b + 14), .int 0, .int 0, .ref (b + 15), .ref (b + 16), .ref (b + 17), .long 0, .int 0, .int 0, .int 0, .ref (b + 18), .int 0, .ref (b + 19), .ref (b + 20), .int 0, .int 0, .ref (b + 21)]), .inl (cT 0, 3968, .inl (upd (fun _ => 0) 6 (-1))), .inl (cT 2, 3, .inl (fun _ => 0)), .inl (cT 0, 97, .inl (fun _ => 0)), .inl (cT 0, 8, .inl (fun _ => 0)), .inl (cT 0, 8, .inl (fun _ => 0)), .inl (cT 0, 8, .inl (fun _ => 0)), .inl (cT 0, 8, .inl (fun _ => 0)), .inl (cT 2, 8, .inl (fun _ => 0)), .inl (cT 0, 40, .inl (fun _ => 0)), .inl (cT 0, 5, .inl (fun _ => 0)), .inl (cT 0, 5, .inl (fun _ => 0)), .inl (cT 0, 5, .inl (fun _ => 0)), .inl (cT 0, 40, .inl (fun _ => 0)), .inl (cT 0, 5, .inl (fun _ => 0)), .inl (cT 0, 5, .inl (fun _ => 0)), .inl (cT 0, 8, .inl (fun _ => 0)), .inl (cT 2, 8, .inl (fun _ => 0)), .inl (cT 0, 8, .inl (fun _ => 0)), .inl (cT 0, 5, .inl (fun _ => 0)), .inl (cT 0, 8, .inl (fun _ => 0)), .inl (cT 2, 256, .inl (fun _ => 0))]
set_option maxRecDepth 100000 in
set_option maxHeartbeats 4000000 in
theorem gb_C_W (cT : Nat → ClassId) (z : Nat) : gb_C cT z = gb_CW cT z gb_s0 := by
  unfold gb_C
  simp only [gb_ra4]
  simp only [gb_ra3]
  simp only [gb_ra2]
  rfl
theorem gb_M_W (cT : Nat → ClassId) (z : Nat) : gb_M cT z = gb_MW cT z gb_f00 0 := rfl
def gb_Inv (σ : gb_S) (f : gb_F) : Prop := gb_TC σ ∧ gb_TM f ∧ gb_R σ f
theorem gb_Inv0 : gb_Inv gb_s0 gb_f00 := by
  have z : (0 : Int32).toInt.toNat = 0 := by decide
  refine ⟨gb_s0_TC, gb_f00_TM, ⟨fun j hj => ?_, rfl, rfl, rfl, fun i hi => Or.inl ⟨by show (0 : Int) ≤ (0 : Int32).toInt; decide, ?_⟩, fun s m hs hm => ?_⟩, fun k hk => ⟨fun _ => rfl, fun _ => rfl⟩, fun k hk hn => absurd rfl hn⟩
  · have c : j = 0 ∨ j = 1 ∨ j = 2 ∨ j = 3 := by omega
    rcases c with rfl | rfl | rfl | rfl <;> rfl
  · show upd (fun _ => 0) 6 (-1) (10 + i) = 0
    exact pk_un (by omega)
  · have e : gb_f00 1 s = 0 := by
      show upd (fun _ => 0) 6 (-1) s = 0
      exact pk_un (by omega)
    rw [e, z] at hm
    exact absurd hm (Nat.not_lt_zero _)
theorem law_s_feed (a1 a2 a3 a4 a5 : Int32) {σ : gb_S} {f : gb_F} (w : Int64) (h : gb_Inv σ f) : ∃ (σ2 : gb_S) (ra : Int32) (f2 : gb_F) (w2 : Int64) (qa : Int32), cs_Face_feed gb_N σ a1 a2 a3 a4 a5 = some (σ2, ra) ∧ ms_feed gb_N f w a1 a2 a3 a4 a5 = some (f2, w2, qa) ∧ gb_Inv σ2 f2 ∧ True := by
  obtain ⟨σ2, ra, f2, w2, qa, ec, em, tc, tm⟩ := qs_feed a1 a2 a3 a4 a5 w h.1 h.2.1
  have hh := R_feed h.1 h.2.1 h.2.2 ec em
  exact ⟨σ2, ra, f2, w2, qa, ec, em, ⟨tc, tm, hh.2⟩, trivial⟩
theorem law_s_end (a1 : Int32) {σ : gb_S} {f : gb_F} (w : Int64) (h : gb_Inv σ f) : ∃ (σ2 : gb_S) (ra : Int32) (f2 : gb_F) (w2 : Int64) (qa : Int32), cs_Face_end gb_N σ a1 = some (σ2, ra) ∧ ms_end gb_N f w a1 = some (f2, w2, qa) ∧ gb_Inv σ2 f2 ∧ True := by
  obtain ⟨σ2, ra, f2, w2, qa, ec, em, tc, tm⟩ := qs_end a1 w h.1 h.2.1
  have hh := R_end h.2.1 h.2.2 ec em
  exact ⟨σ2, ra, f2, w2, qa, ec, em, ⟨tc, tm, hh.2⟩, trivial⟩
theorem law_s_text (a1 a2 : Int32) {σ : gb_S} {f : gb_F} (w : Int64) (h : gb_Inv σ f) : ∃ (σ2 : gb_S) (ra : Int32) (f2 : gb_F) (w2 : Int64) (qa : Int32), cs_Face_text gb_N σ a1 a2 = some (σ2, ra) ∧ ms_text gb_N f w a1 a2 = some (f2, w2, qa) ∧ gb_Inv σ2 f2 ∧ True := by
  obtain ⟨σ2, ra, f2, w2, qa, ec, em, tc, tm⟩ := qs_text a1 a2 w h.1 h.2.1
  have hh := R_text h.1 h.2.1 tm h.2.2 ec em
  exact ⟨σ2, ra, f2, w2, qa, ec, em, ⟨tc, tm, hh.2⟩, trivial⟩
theorem law_s_fault (a1 : Int32) {σ : gb_S} {f : gb_F} (w : Int64) (h : gb_Inv σ f) : ∃ (σ2 : gb_S) (ra : Int32) (f2 : gb_F) (w2 : Int64) (qa : Int32), cs_Face_fault gb_N σ a1 = some (σ2, ra) ∧ ms_fault gb_N f w a1 = some (f2, w2, qa) ∧ gb_Inv σ2 f2 ∧ True := by
  obtain ⟨σ2, ra, f2, w2, qa, ec, em, tc, tm, fc, fm⟩ := qs_fault a1 w h.1 h.2.1
  exact ⟨σ2, ra, f2, w2, qa, ec, em, ⟨tc, tm, R_q h.2.1 h.2.2 fc fm⟩, trivial⟩
theorem law_s_border (a1 a2 : Int32) {σ : gb_S} {f : gb_F} (w : Int64) (h : gb_Inv σ f) : ∃ (σ2 : gb_S) (ra : Int32) (f2 : gb_F) (w2 : Int64) (qa : Int32), cs_Face_border gb_N σ a1 a2 = some (σ2, ra) ∧ ms_border gb_N f w a1 a2 = some (f2, w2, qa) ∧ gb_Inv σ2 f2 ∧ True := by
  obtain ⟨σ2, ra, f2, w2, qa, ec, em, tc, tm, fc, fm⟩ := qs_border a1 a2 w h.1 h.2.1
  exact ⟨σ2, ra, f2, w2, qa, ec, em, ⟨tc, tm, R_q h.2.1 h.2.2 fc fm⟩, trivial⟩
theorem law_s_marks (a1 a2 a3 a4 : Int32) {σ : gb_S} {f : gb_F} (w : Int64) (h : gb_Inv σ f) : ∃ (σ2 : gb_S) (ra : Int32) (f2 : gb_F) (w2 : Int64) (qa : Int32), cs_Face_marks gb_N σ a1 a2 a3 a4 = some (σ2, ra) ∧ ms_marks gb_N f w a1 a2 a3 a4 = some (f2, w2, qa) ∧ gb_Inv σ2 f2 ∧ True := by
  obtain ⟨σ2, ra, f2, w2, qa, ec, em, tc, tm, fc, fm⟩ := qs_marks a1 a2 a3 a4 w h.1 h.2.1
  exact ⟨σ2, ra, f2, w2, qa, ec, em, ⟨tc, tm, R_q h.2.1 h.2.2 fc fm⟩, trivial⟩
theorem law_s_deed (a1 a2 a3 : Int32) {σ : gb_S} {f : gb_F} (w : Int64) (h : gb_Inv σ f) : ∃ (σ2 : gb_S) (ra : Int32) (f2 : gb_F) (w2 : Int64) (qa : Int32), cs_Face_deed gb_N σ a1 a2 a3 = some (σ2, ra) ∧ ms_deed gb_N f w a1 a2 a3 = some (f2, w2, qa) ∧ gb_Inv σ2 f2 ∧ True := by
  obtain ⟨σ2, ra, f2, w2, qa, ec, em, tc, tm, fc, fm⟩ := qs_deed a1 a2 a3 w h.1 h.2.1
  exact ⟨σ2, ra, f2, w2, qa, ec, em, ⟨tc, tm, R_q h.2.1 h.2.2 fc fm⟩, trivial⟩
theorem law_s_stop (a1 a2 : Int32) {σ : gb_S} {f : gb_F} (w : Int64) (h : gb_Inv σ f) : ∃ (σ2 : gb_S) (ra : Int32) (f2 : gb_F) (w2 : Int64) (qa : Int32), cs_Face_stop gb_N σ a1 a2 = some (σ2, ra) ∧ ms_stop gb_N f w a1 a2 = some (f2, w2, qa) ∧ gb_Inv σ2 f2 ∧ True := by
  obtain ⟨σ2, ra, f2, w2, qa, ec, em, tc, tm, fc, fm⟩ := qs_stop a1 a2 w h.1 h.2.1
  exact ⟨σ2, ra, f2, w2, qa, ec, em, ⟨tc, tm, R_q h.2.1 h.2.2 fc fm⟩, trivial⟩
theorem law_s_goose (a1 a2 a3 a4 a5 : Int32) {σ : gb_S} {f : gb_F} (w : Int64) (h : gb_Inv σ f) : ∃ (σ2 : gb_S) (ra : Int32) (f2 : gb_F) (w2 : Int64) (qa : Int32), cs_Face_goose gb_N σ a1 a2 a3 a4 a5 = some (σ2, ra) ∧ ms_goose gb_N f w a1 a2 a3 a4 a5 = some (f2, w2, qa) ∧ gb_Inv σ2 f2 ∧ True := by
  obtain ⟨σ2, ra, f2, w2, qa, ec, em, tc, tm, fc, fm⟩ := qs_goose a1 a2 a3 a4 a5 w h.1 h.2.1
  exact ⟨σ2, ra, f2, w2, qa, ec, em, ⟨tc, tm, R_q h.2.1 h.2.2 fc fm⟩, trivial⟩
theorem law_s_path (a1 a2 a3 a4 a5 : Int32) {σ : gb_S} {f : gb_F} (w : Int64) (h : gb_Inv σ f) : ∃ (σ2 : gb_S) (ra : Int32) (f2 : gb_F) (w2 : Int64) (qa : Int32), cs_Face_path gb_N σ a1 a2 a3 a4 a5 = some (σ2, ra) ∧ ms_path gb_N f w a1 a2 a3 a4 a5 = some (f2, w2, qa) ∧ gb_Inv σ2 f2 ∧ True := by
  obtain ⟨σ2, ra, f2, w2, qa, ec, em, tc, tm, fc, fm⟩ := qs_path a1 a2 a3 a4 a5 w h.1 h.2.1
  exact ⟨σ2, ra, f2, w2, qa, ec, em, ⟨tc, tm, R_q h.2.1 h.2.2 fc fm⟩, trivial⟩
theorem law_s_state (a1 a2 a3 a4 : Int32) {σ : gb_S} {f : gb_F} (w : Int64) (h : gb_Inv σ f) : ∃ (σ2 : gb_S) (ra : Int32) (f2 : gb_F) (w2 : Int64) (qa : Int32), cs_Face_state gb_N σ a1 a2 a3 a4 = some (σ2, ra) ∧ ms_state gb_N f w a1 a2 a3 a4 = some (f2, w2, qa) ∧ gb_Inv σ2 f2 ∧ True := by
  obtain ⟨σ2, ra, f2, w2, qa, ec, em, tc, tm, fc, fm⟩ := qs_state a1 a2 a3 a4 w h.1 h.2.1
  exact ⟨σ2, ra, f2, w2, qa, ec, em, ⟨tc, tm, R_q h.2.1 h.2.2 fc fm⟩, trivial⟩
theorem law_s_term (a1 a2 a3 : Int32) {σ : gb_S} {f : gb_F} (w : Int64) (h : gb_Inv σ f) : ∃ (σ2 : gb_S) (ra : Int32) (f2 : gb_F) (w2 : Int64) (qa : Int32), cs_Face_term gb_N σ a1 a2 a3 = some (σ2, ra) ∧ ms_term gb_N f w a1 a2 a3 = some (f2, w2, qa) ∧ gb_Inv σ2 f2 ∧ True := by
  obtain ⟨σ2, ra, f2, w2, qa, ec, em, tc, tm, fc, fm⟩ := qs_term a1 a2 a3 w h.1 h.2.1
  exact ⟨σ2, ra, f2, w2, qa, ec, em, ⟨tc, tm, R_q h.2.1 h.2.2 fc fm⟩, trivial⟩
theorem law_s_pays (a1 a2 : Int32) {σ : gb_S} {f : gb_F} (w : Int64) (h : gb_Inv σ f) : ∃ (σ2 : gb_S) (ra : Int32) (f2 : gb_F) (w2 : Int64) (qa : Int32), cs_Face_pays gb_N σ a1 a2 = some (σ2, ra) ∧ ms_pays gb_N f w a1 a2 = some (f2, w2, qa) ∧ gb_Inv σ2 f2 ∧ True := by
  obtain ⟨σ2, ra, f2, w2, qa, ec, em, tc, tm, fc, fm⟩ := qs_pays a1 a2 w h.1 h.2.1
  exact ⟨σ2, ra, f2, w2, qa, ec, em, ⟨tc, tm, R_q h.2.1 h.2.2 fc fm⟩, trivial⟩
theorem law_s_even (a1 a2 : Int32) {σ : gb_S} {f : gb_F} (w : Int64) (h : gb_Inv σ f) : ∃ (σ2 : gb_S) (ra : Int32) (f2 : gb_F) (w2 : Int64) (qa : Int32), cs_Face_even gb_N σ a1 a2 = some (σ2, ra) ∧ ms_even gb_N f w a1 a2 = some (f2, w2, qa) ∧ gb_Inv σ2 f2 ∧ True := by
  obtain ⟨σ2, ra, f2, w2, qa, ec, em, tc, tm, fc, fm⟩ := qs_even a1 a2 w h.1 h.2.1
  exact ⟨σ2, ra, f2, w2, qa, ec, em, ⟨tc, tm, R_q h.2.1 h.2.2 fc fm⟩, trivial⟩
theorem law_s_richest (a1 a2 a3 : Int32) {σ : gb_S} {f : gb_F} (w : Int64) (h : gb_Inv σ f) : ∃ (σ2 : gb_S) (ra : Int32) (f2 : gb_F) (w2 : Int64) (qa : Int32), cs_Face_richest gb_N σ a1 a2 a3 = some (σ2, ra) ∧ ms_richest gb_N f w a1 a2 a3 = some (f2, w2, qa) ∧ gb_Inv σ2 f2 ∧ True := by
  obtain ⟨σ2, ra, f2, w2, qa, ec, em, tc, tm, fc, fm⟩ := qs_richest a1 a2 a3 w h.1 h.2.1
  exact ⟨σ2, ra, f2, w2, qa, ec, em, ⟨tc, tm, R_q h.2.1 h.2.2 fc fm⟩, trivial⟩
theorem law_s_tar (a1 a2 a3 : Int32) {σ : gb_S} {f : gb_F} (w : Int64) (h : gb_Inv σ f) : ∃ (σ2 : gb_S) (ra : Int32) (f2 : gb_F) (w2 : Int64) (qa : Int32), cs_Face_tar gb_N σ a1 a2 a3 = some (σ2, ra) ∧ ms_tar gb_N f w a1 a2 a3 = some (f2, w2, qa) ∧ gb_Inv σ2 f2 ∧ True := by
  obtain ⟨σ2, ra, f2, w2, qa, ec, em, tc, tm, fc, fm⟩ := qs_tar a1 a2 a3 w h.1 h.2.1
  exact ⟨σ2, ra, f2, w2, qa, ec, em, ⟨tc, tm, R_q h.2.1 h.2.2 fc fm⟩, trivial⟩
theorem law_s_lame (a1 a2 a3 : Int32) {σ : gb_S} {f : gb_F} (w : Int64) (h : gb_Inv σ f) : ∃ (σ2 : gb_S) (ra : Int32) (f2 : gb_F) (w2 : Int64) (qa : Int32), cs_Face_lame gb_N σ a1 a2 a3 = some (σ2, ra) ∧ ms_lame gb_N f w a1 a2 a3 = some (f2, w2, qa) ∧ gb_Inv σ2 f2 ∧ True := by
  obtain ⟨σ2, ra, f2, w2, qa, ec, em, tc, tm, fc, fm⟩ := qs_lame a1 a2 a3 w h.1 h.2.1
  exact ⟨σ2, ra, f2, w2, qa, ec, em, ⟨tc, tm, R_q h.2.1 h.2.2 fc fm⟩, trivial⟩
theorem law_s_rest (a1 a2 a3 : Int32) {σ : gb_S} {f : gb_F} (w : Int64) (h : gb_Inv σ f) : ∃ (σ2 : gb_S) (ra : Int32) (f2 : gb_F) (w2 : Int64) (qa : Int32), cs_Face_rest gb_N σ a1 a2 a3 = some (σ2, ra) ∧ ms_rest gb_N f w a1 a2 a3 = some (f2, w2, qa) ∧ gb_Inv σ2 f2 ∧ True := by
  obtain ⟨σ2, ra, f2, w2, qa, ec, em, tc, tm, fc, fm⟩ := qs_rest a1 a2 a3 w h.1 h.2.1
  exact ⟨σ2, ra, f2, w2, qa, ec, em, ⟨tc, tm, R_q h.2.1 h.2.2 fc fm⟩, trivial⟩
theorem law_s_take (a1 a2 a3 a4 : Int32) {σ : gb_S} {f : gb_F} (w : Int64) (h : gb_Inv σ f) : ∃ (σ2 : gb_S) (ra : Int32) (f2 : gb_F) (w2 : Int64) (qa : Int32), cs_Face_take gb_N σ a1 a2 a3 a4 = some (σ2, ra) ∧ ms_take gb_N f w a1 a2 a3 a4 = some (f2, w2, qa) ∧ gb_Inv σ2 f2 ∧ True := by
  obtain ⟨σ2, ra, f2, w2, qa, ec, em, tc, tm, fc, fm⟩ := qs_take a1 a2 a3 a4 w h.1 h.2.1
  exact ⟨σ2, ra, f2, w2, qa, ec, em, ⟨tc, tm, R_q h.2.1 h.2.2 fc fm⟩, trivial⟩
theorem law_s_seen (a1 a2 a3 : Int32) {σ : gb_S} {f : gb_F} (w : Int64) (h : gb_Inv σ f) : ∃ (σ2 : gb_S) (ra : Int32) (f2 : gb_F) (w2 : Int64) (qa : Int32), cs_Face_seen gb_N σ a1 a2 a3 = some (σ2, ra) ∧ ms_seen gb_N f w a1 a2 a3 = some (f2, w2, qa) ∧ gb_Inv σ2 f2 ∧ True := by
  obtain ⟨σ2, ra, f2, w2, qa, ec, em, tc, tm, fc, fm⟩ := qs_seen a1 a2 a3 w h.1 h.2.1
  exact ⟨σ2, ra, f2, w2, qa, ec, em, ⟨tc, tm, R_q h.2.1 h.2.2 fc fm⟩, trivial⟩
theorem law_s_fits (a1 a2 : Int32) {σ : gb_S} {f : gb_F} (w : Int64) (h : gb_Inv σ f) : ∃ (σ2 : gb_S) (ra : Int64) (f2 : gb_F) (w2 : Int64) (qa : Int64), cs_Face_fits gb_N σ a1 a2 = some (σ2, ra) ∧ ms_fits gb_N f w a1 a2 = some (f2, w2, qa) ∧ gb_Inv σ2 f2 ∧ True := by
  obtain ⟨σ2, ra, f2, w2, qa, ec, em, tc, tm, fc, fm⟩ := qs_fits a1 a2 w h.1 h.2.1
  exact ⟨σ2, ra, f2, w2, qa, ec, em, ⟨tc, tm, R_q h.2.1 h.2.2 fc fm⟩, trivial⟩
theorem law_s_told (a1 a2 a3 : Int32) {σ : gb_S} {f : gb_F} (w : Int64) (h : gb_Inv σ f) : ∃ (σ2 : gb_S) (ra : Int32) (f2 : gb_F) (w2 : Int64) (qa : Int32), cs_Face_told gb_N σ a1 a2 a3 = some (σ2, ra) ∧ ms_told gb_N f w a1 a2 a3 = some (f2, w2, qa) ∧ gb_Inv σ2 f2 ∧ True := by
  obtain ⟨σ2, ra, f2, w2, qa, ec, em, tc, tm, fc, fm⟩ := qs_told a1 a2 a3 w h.1 h.2.1
  exact ⟨σ2, ra, f2, w2, qa, ec, em, ⟨tc, tm, R_q h.2.1 h.2.2 fc fm⟩, trivial⟩
theorem law_s_lacks (a1 a2 a3 : Int32) {σ : gb_S} {f : gb_F} (w : Int64) (h : gb_Inv σ f) : ∃ (σ2 : gb_S) (ra : Int32) (f2 : gb_F) (w2 : Int64) (qa : Int32), cs_Face_lacks gb_N σ a1 a2 a3 = some (σ2, ra) ∧ ms_lacks gb_N f w a1 a2 a3 = some (f2, w2, qa) ∧ gb_Inv σ2 f2 ∧ True := by
  obtain ⟨σ2, ra, f2, w2, qa, ec, em, tc, tm, fc, fm⟩ := qs_lacks a1 a2 a3 w h.1 h.2.1
  exact ⟨σ2, ra, f2, w2, qa, ec, em, ⟨tc, tm, R_q h.2.1 h.2.2 fc fm⟩, trivial⟩
theorem law_s_who (a1 a2 a3 a4 : Int32) {σ : gb_S} {f : gb_F} (w : Int64) (h : gb_Inv σ f) : ∃ (σ2 : gb_S) (ra : Int32) (f2 : gb_F) (w2 : Int64) (qa : Int32), cs_Face_who gb_N σ a1 a2 a3 a4 = some (σ2, ra) ∧ ms_who gb_N f w a1 a2 a3 a4 = some (f2, w2, qa) ∧ gb_Inv σ2 f2 ∧ True := by
  obtain ⟨σ2, ra, f2, w2, qa, ec, em, tc, tm, fc, fm⟩ := qs_who a1 a2 a3 a4 w h.1 h.2.1
  exact ⟨σ2, ra, f2, w2, qa, ec, em, ⟨tc, tm, R_q h.2.1 h.2.2 fc fm⟩, trivial⟩
theorem law_s_drawn (a1 a2 a3 a4 : Int32) {σ : gb_S} {f : gb_F} (w : Int64) (h : gb_Inv σ f) : ∃ (σ2 : gb_S) (ra : Int32) (f2 : gb_F) (w2 : Int64) (qa : Int32), cs_Face_drawn gb_N σ a1 a2 a3 a4 = some (σ2, ra) ∧ ms_drawn gb_N f w a1 a2 a3 a4 = some (f2, w2, qa) ∧ gb_Inv σ2 f2 ∧ True := by
  obtain ⟨σ2, ra, f2, w2, qa, ec, em, tc, tm, fc, fm⟩ := qs_drawn a1 a2 a3 a4 w h.1 h.2.1
  exact ⟨σ2, ra, f2, w2, qa, ec, em, ⟨tc, tm, R_q h.2.1 h.2.2 fc fm⟩, trivial⟩
theorem law_s_alike (a1 a2 a3 : Int32) {σ : gb_S} {f : gb_F} (w : Int64) (h : gb_Inv σ f) : ∃ (σ2 : gb_S) (ra : Int32) (f2 : gb_F) (w2 : Int64) (qa : Int32), cs_Face_alike gb_N σ a1 a2 a3 = some (σ2, ra) ∧ ms_alike gb_N f w a1 a2 a3 = some (f2, w2, qa) ∧ gb_Inv σ2 f2 ∧ True := by
  obtain ⟨σ2, ra, f2, w2, qa, ec, em, tc, tm, fc, fm⟩ := qs_alike a1 a2 a3 w h.1 h.2.1
  exact ⟨σ2, ra, f2, w2, qa, ec, em, ⟨tc, tm, R_q h.2.1 h.2.2 fc fm⟩, trivial⟩
theorem law_s_span (a1 a2 a3 a4 : Int32) {σ : gb_S} {f : gb_F} (w : Int64) (h : gb_Inv σ f) : ∃ (σ2 : gb_S) (ra : Int32) (f2 : gb_F) (w2 : Int64) (qa : Int32), cs_Face_span gb_N σ a1 a2 a3 a4 = some (σ2, ra) ∧ ms_span gb_N f w a1 a2 a3 a4 = some (f2, w2, qa) ∧ gb_Inv σ2 f2 ∧ True := by
  obtain ⟨σ2, ra, f2, w2, qa, ec, em, tc, tm, fc, fm⟩ := qs_span a1 a2 a3 a4 w h.1 h.2.1
  exact ⟨σ2, ra, f2, w2, qa, ec, em, ⟨tc, tm, R_q h.2.1 h.2.2 fc fm⟩, trivial⟩
theorem law_s_honest (a1 a2 a3 : Int32) {σ : gb_S} {f : gb_F} (w : Int64) (h : gb_Inv σ f) : ∃ (σ2 : gb_S) (ra : Int32) (f2 : gb_F) (w2 : Int64) (qa : Int32), cs_Face_honest gb_N σ a1 a2 a3 = some (σ2, ra) ∧ ms_honest gb_N f w a1 a2 a3 = some (f2, w2, qa) ∧ gb_Inv σ2 f2 ∧ True := by
  obtain ⟨σ2, ra, f2, w2, qa, ec, em, tc, tm, fc, fm⟩ := qs_honest a1 a2 a3 w h.1 h.2.1
  exact ⟨σ2, ra, f2, w2, qa, ec, em, ⟨tc, tm, R_q h.2.1 h.2.2 fc fm⟩, trivial⟩
theorem law_s_split (a1 a2 a3 a4 : Int32) {σ : gb_S} {f : gb_F} (w : Int64) (h : gb_Inv σ f) : ∃ (σ2 : gb_S) (ra : Int32) (f2 : gb_F) (w2 : Int64) (qa : Int32), cs_Face_split gb_N σ a1 a2 a3 a4 = some (σ2, ra) ∧ ms_split gb_N f w a1 a2 a3 a4 = some (f2, w2, qa) ∧ gb_Inv σ2 f2 ∧ True := by
  obtain ⟨σ2, ra, f2, w2, qa, ec, em, tc, tm, fc, fm⟩ := qs_split a1 a2 a3 a4 w h.1 h.2.1
  exact ⟨σ2, ra, f2, w2, qa, ec, em, ⟨tc, tm, R_q h.2.1 h.2.2 fc fm⟩, trivial⟩
theorem law_s_two (a1 a2 a3 a4 : Int32) {σ : gb_S} {f : gb_F} (w : Int64) (h : gb_Inv σ f) : ∃ (σ2 : gb_S) (ra : Int32) (f2 : gb_F) (w2 : Int64) (qa : Int32), cs_Face_two gb_N σ a1 a2 a3 a4 = some (σ2, ra) ∧ ms_two gb_N f w a1 a2 a3 a4 = some (f2, w2, qa) ∧ gb_Inv σ2 f2 ∧ True := by
  obtain ⟨σ2, ra, f2, w2, qa, ec, em, tc, tm, fc, fm⟩ := qs_two a1 a2 a3 a4 w h.1 h.2.1
  exact ⟨σ2, ra, f2, w2, qa, ec, em, ⟨tc, tm, R_q h.2.1 h.2.2 fc fm⟩, trivial⟩
theorem law_s_backs (a1 a2 a3 a4 : Int32) {σ : gb_S} {f : gb_F} (w : Int64) (h : gb_Inv σ f) : ∃ (σ2 : gb_S) (ra : Int32) (f2 : gb_F) (w2 : Int64) (qa : Int32), cs_Face_backs gb_N σ a1 a2 a3 a4 = some (σ2, ra) ∧ ms_backs gb_N f w a1 a2 a3 a4 = some (f2, w2, qa) ∧ gb_Inv σ2 f2 ∧ True := by
  obtain ⟨σ2, ra, f2, w2, qa, ec, em, tc, tm, fc, fm⟩ := qs_backs a1 a2 a3 a4 w h.1 h.2.1
  exact ⟨σ2, ra, f2, w2, qa, ec, em, ⟨tc, tm, R_q h.2.1 h.2.2 fc fm⟩, trivial⟩
theorem law_s_close (a1 a2 : Int32) {σ : gb_S} {f : gb_F} (w : Int64) (h : gb_Inv σ f) : ∃ (σ2 : gb_S) (ra : Int32) (f2 : gb_F) (w2 : Int64) (qa : Int32), cs_Face_close gb_N σ a1 a2 = some (σ2, ra) ∧ ms_close gb_N f w a1 a2 = some (f2, w2, qa) ∧ gb_Inv σ2 f2 ∧ ra = qa := by
  obtain ⟨σ2, ra, f2, w2, qa, ec, em, tc, tm, fc, fm⟩ := qs_close a1 a2 w h.1 h.2.1
  exact ⟨σ2, ra, f2, w2, qa, ec, em, ⟨tc, tm, R_q h.2.1 h.2.2 fc fm⟩, e_close h.1 h.2.1 h.2.2 ec em⟩
theorem law_s_near (a1 a2 a3 : Int32) {σ : gb_S} {f : gb_F} (w : Int64) (h : gb_Inv σ f) : ∃ (σ2 : gb_S) (ra : Int32) (f2 : gb_F) (w2 : Int64) (qa : Int32), cs_Face_near gb_N σ a1 a2 a3 = some (σ2, ra) ∧ ms_near gb_N f w a1 a2 a3 = some (f2, w2, qa) ∧ gb_Inv σ2 f2 ∧ True := by
  obtain ⟨σ2, ra, f2, w2, qa, ec, em, tc, tm, fc, fm⟩ := qs_near a1 a2 a3 w h.1 h.2.1
  exact ⟨σ2, ra, f2, w2, qa, ec, em, ⟨tc, tm, R_q h.2.1 h.2.2 fc fm⟩, trivial⟩
theorem law_s_shift (a1 a2 a3 : Int32) {σ : gb_S} {f : gb_F} (w : Int64) (h : gb_Inv σ f) : ∃ (σ2 : gb_S) (ra : Int32) (f2 : gb_F) (w2 : Int64) (qa : Int32), cs_Face_shift gb_N σ a1 a2 a3 = some (σ2, ra) ∧ ms_shift gb_N f w a1 a2 a3 = some (f2, w2, qa) ∧ gb_Inv σ2 f2 ∧ True := by
  obtain ⟨σ2, ra, f2, w2, qa, ec, em, tc, tm, fc, fm⟩ := qs_shift a1 a2 a3 w h.1 h.2.1
  exact ⟨σ2, ra, f2, w2, qa, ec, em, ⟨tc, tm, R_q h.2.1 h.2.2 fc fm⟩, trivial⟩
theorem law_s_thrift (a1 : Int32) {σ : gb_S} {f : gb_F} (w : Int64) (h : gb_Inv σ f) : ∃ (σ2 : gb_S) (ra : Int32) (f2 : gb_F) (w2 : Int64) (qa : Int32), cs_Face_thrift gb_N σ a1 = some (σ2, ra) ∧ ms_thrift gb_N f w a1 = some (f2, w2, qa) ∧ gb_Inv σ2 f2 ∧ True := by
  obtain ⟨σ2, ra, f2, w2, qa, ec, em, tc, tm, fc, fm⟩ := qs_thrift a1 w h.1 h.2.1
  exact ⟨σ2, ra, f2, w2, qa, ec, em, ⟨tc, tm, R_q h.2.1 h.2.2 fc fm⟩, trivial⟩
theorem law_s_count (a1 : Int32) {σ : gb_S} {f : gb_F} (w : Int64) (h : gb_Inv σ f) : ∃ (σ2 : gb_S) (ra : Int32) (f2 : gb_F) (w2 : Int64) (qa : Int32), cs_Face_count gb_N σ a1 = some (σ2, ra) ∧ ms_count gb_N f w a1 = some (f2, w2, qa) ∧ gb_Inv σ2 f2 ∧ True := by
  obtain ⟨σ2, ra, f2, w2, qa, ec, em, tc, tm, fc, fm⟩ := qs_count a1 w h.1 h.2.1
  exact ⟨σ2, ra, f2, w2, qa, ec, em, ⟨tc, tm, R_q h.2.1 h.2.2 fc fm⟩, trivial⟩
theorem law_s_image (a1 : Int32) {σ : gb_S} {f : gb_F} (w : Int64) (h : gb_Inv σ f) : ∃ (σ2 : gb_S) (ra : Int32) (f2 : gb_F) (w2 : Int64) (qa : Int32), cs_Face_image gb_N σ a1 = some (σ2, ra) ∧ ms_image gb_N f w a1 = some (f2, w2, qa) ∧ gb_Inv σ2 f2 ∧ True := by
  obtain ⟨σ2, ra, f2, w2, qa, ec, em, tc, tm⟩ := qs_image a1 w h.1 h.2.1
  have hh := R_image h.2.1 h.2.2 ec em
  exact ⟨σ2, ra, f2, w2, qa, ec, em, ⟨tc, tm, hh.2⟩, trivial⟩
theorem law_s_again (a1 : Int32) {σ : gb_S} {f : gb_F} (w : Int64) (h : gb_Inv σ f) : ∃ (σ2 : gb_S) (ra : Int32) (f2 : gb_F) (w2 : Int64) (qa : Int32), cs_Face_again gb_N σ a1 = some (σ2, ra) ∧ ms_again gb_N f w a1 = some (f2, w2, qa) ∧ gb_Inv σ2 f2 ∧ True := by
  obtain ⟨σ2, ra, f2, w2, qa, ec, em, tc, tm⟩ := qs_again a1 w h.1 h.2.1
  have hh := R_again h.2.1 h.2.2 ec em
  exact ⟨σ2, ra, f2, w2, qa, ec, em, ⟨tc, tm, hh.2⟩, trivial⟩
