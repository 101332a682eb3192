/-! THE REFERENCE: what a call keeps: any predicate of the cells that the written ones don't touch -/
def gb_sm (P : gb_F → Prop) : Prop := (∀ (f : gb_F) (F : Nat → Int32), P f → P (gb_u f 0 F)) ∧ ∀ (f : gb_F) (k : Nat) (F : Nat → Int32), 3 ≤ k → P f → P (gb_u f k F)
def gb_w5c (P : gb_F → Prop) : Prop := ∀ (f : gb_F) (v : Int32), P f → P (gb_u f 1 (upd (f 1) (Int32.toNatClampNeg 5) v)) ∧ P (gb_u f 1 (upd (f 1) (Int32.toNatClampNeg 6) v))
def gb_w1c (P : gb_F → Prop) : Prop := ∀ (f : gb_F) (F : Nat → Int32), P f → P (gb_u f 1 F)
def gb_w2c (P : gb_F → Prop) : Prop := ∀ (f : gb_F) (F : Nat → Int32), P f → P (gb_u f 2 F)
def gb_pm {ρ : Type} (P : gb_F → Prop) (x : gb_MR ρ) : Prop := ∀ (f2 : gb_F) (w2 : Int64) (r : ρ), x = some (f2, w2, r) → P f2
theorem pm_none {ρ : Type} {P : gb_F → Prop} : gb_pm P (none : gb_MR ρ) := fun _ _ _ h => by cases h
theorem pm_some {ρ : Type} {P : gb_F → Prop} {f : gb_F} {w : Int64} {r : ρ} (h : P f) : gb_pm P (some (f, w, r)) := fun _ _ _ e => by cases e; exact h
theorem pm_if {ρ : Type} {P : gb_F → Prop} {c : Prop} [Decidable c] {x y : gb_MR ρ} (h1 : gb_pm P x) (h2 : gb_pm P y) : gb_pm P (if c then x else y) := by
  split
  · exact h1
  · exact h2
theorem pm_ck {ρ : Type} {P : gb_F → Prop} {i : Int32} {n : Nat} {x : gb_MR ρ} (h : gb_pm P x) : gb_pm P (gb_ck i n x) := by
  unfold gb_ck
  split
  · exact h
  · exact pm_none
theorem pm_nz {ρ : Type} {P : gb_F → Prop} {i : Int32} {x : gb_MR ρ} (h : gb_pm P x) : gb_pm P (gb_nz i x) := by
  unfold gb_nz
  split
  · exact pm_none
  · exact h
theorem pm_cb {ρ : Type} {P : gb_F → Prop} {i : Int32} {x : gb_MR ρ} (h : gb_pm P x) : gb_pm P (gb_cb i x) := by
  unfold gb_cb
  split
  · exact h
  · exact pm_none
theorem pm_ltV {ρ α : Type} {P : gb_F → Prop} {v : α} {k : α → gb_MR ρ} (h : ∀ v, gb_pm P (k v)) : gb_pm P (gb_lt v k) := h v
theorem pm_ltS {ρ : Type} {P : gb_F → Prop} {v : gb_F} {k : gb_F → gb_MR ρ} (hv : P v) (h : ∀ s, P s → gb_pm P (k s)) : gb_pm P (gb_lt v k) := h v hv
theorem pm_bd {ρ τ : Type} {P : gb_F → Prop} {x : gb_MR ρ} {k : gb_F → Int64 → ρ → gb_MR τ} (h : gb_pm P x) (hk : ∀ s w r, P s → gb_pm P (k s w r)) : gb_pm P (gb_bd x k) := by
  unfold gb_bd
  cases x with
  | none => exact pm_none
  | some q => exact hk q.1 q.2.1 q.2.2 (h q.1 q.2.1 q.2.2 rfl)
theorem cm_isIn {P : gb_F → Prop} (hW : gb_sm P) {n : Nat} {f : gb_F} {w : Int64} {p1 : Int32} {p2 : Int32} {p3 : Int32} (h : P f) : gb_pm P (ms_isIn n f w p1 p2 p3) := by
  unfold ms_isIn
  refine pm_if ?_ ?_
  · exact pm_some h
  · refine pm_if ?_ ?_
    · exact pm_some h
    · exact pm_some h
theorem cm_feed_73 {P : gb_F → Prop} (hW : gb_sm P) (w1 : gb_w1c P) {n : Nat} {k20 : gb_F → Int64 → Int32 → Int32 → Int32 → Int32 → Int32 → Int32 → gb_MR Int32} (h_k20 : ∀ (s : gb_F) (x1 : Int64) (x2 : Int32) (x3 : Int32) (x4 : Int32) (x5 : Int32) (x6 : Int32) (x7 : Int32), P s → gb_pm P (k20 s x1 x2 x3 x4 x5 x6 x7)) {f : gb_F} {w : Int64} {v1 : Int32} {v2 : Int32} {v3 : Int32} {v4 : Int32} {v5 : Int32} {v6 : Int32} {t0 : Int32} (h : P f) : gb_pm P (ms_feed_73 n k20 f w v1 v2 v3 v4 v5 v6 t0) := by
  unfold ms_feed_73
  refine pm_ltV (fun x_9 => ?_)
  refine pm_ltV (fun x_10 => ?_)
  refine pm_ck ?_
  refine pm_ltS (w1 _ _ h) (fun f_12 hf_12 => ?_)
  refine pm_ltV (fun x_13 => ?_)
  refine pm_ltS (w1 _ _ hf_12) (fun f_14 hf_14 => ?_)
  refine pm_ltV (fun x_15 => ?_)
  exact h_k20 _ _ _ _ _ _ _ _ hf_14
theorem cm_feed_20 {P : gb_F → Prop} (hW : gb_sm P) (w1 : gb_w1c P) {n : Nat} : ∀ (mm : Nat) (f : gb_F) (w : Int64) (v1 : Int32) (v2 : Int32) (v3 : Int32) (v4 : Int32) (v5 : Int32) (v6 : Int32), P f → gb_pm P (ms_feed_20 n mm f w v1 v2 v3 v4 v5 v6) := by
  intro mm
  induction mm with
  | zero =>
    intros
    exact pm_none
  | succ mm ih =>
    intro f w v1 v2 v3 v4 v5 v6 h
    unfold ms_feed_20
    refine pm_if ?_ ?_
    · refine pm_ltV (fun x_4 => ?_)
      exact pm_some h
    · refine pm_if ?_ ?_
      · refine pm_if ?_ ?_
        · refine pm_if ?_ ?_
          · refine pm_if ?_ ?_
            · refine cm_feed_73 hW w1 ?_ h
              · intro f w v1 v2 v3 v4 v5 v6 hf
                exact ih _ _ _ _ _ _ _ _ hf
            · refine cm_feed_73 hW w1 ?_ h
              · intro f w v1 v2 v3 v4 v5 v6 hf
                exact ih _ _ _ _ _ _ _ _ hf
          · refine cm_feed_73 hW w1 ?_ h
            · intro f w v1 v2 v3 v4 v5 v6 hf
              exact ih _ _ _ _ _ _ _ _ hf
        · refine cm_feed_73 hW w1 ?_ h
          · intro f w v1 v2 v3 v4 v5 v6 hf
            exact ih _ _ _ _ _ _ _ _ hf
      · refine cm_feed_73 hW w1 ?_ h
        · intro f w v1 v2 v3 v4 v5 v6 hf
          exact ih _ _ _ _ _ _ _ _ hf
theorem cm_feed {P : gb_F → Prop} (hW : gb_sm P) (w1 : gb_w1c P) {n : Nat} {f : gb_F} {w : Int64} {p1 : Int32} {p2 : Int32} {p3 : Int32} {p4 : Int32} {p5 : Int32} (h : P f) : gb_pm P (ms_feed n f w p1 p2 p3 p4 p5) := by
  unfold ms_feed
  refine pm_ltV (fun x_1 => ?_)
  refine pm_if ?_ ?_
  · exact cm_feed_20 hW w1 _ _ _ _ _ _ _ _ _ h
  · exact pm_some h
theorem cm_end {P : gb_F → Prop} (hW : gb_sm P) (w1 : gb_w1c P) {n : Nat} {f : gb_F} {w : Int64} {p1 : Int32} (h : P f) : gb_pm P (ms_end n f w p1) := by
  unfold ms_end
  refine pm_if ?_ ?_
  · exact pm_some h
  · refine pm_ltV (fun x_2 => ?_)
    refine pm_if ?_ ?_
    · refine pm_ltS (w1 _ _ h) (fun f_4 hf_4 => ?_)
      exact pm_some hf_4
    · exact pm_some h
theorem cm_byteAt {P : gb_F → Prop} (hW : gb_sm P) {n : Nat} {f : gb_F} {w : Int64} {p1 : Int32} (h : P f) : gb_pm P (ms_byteAt n f w p1) := by
  unfold ms_byteAt
  refine pm_if ?_ ?_
  · exact pm_some h
  · refine pm_ck ?_
    refine pm_ltV (fun x_3 => ?_)
    exact pm_some h
theorem cm_isLetter {P : gb_F → Prop} (hW : gb_sm P) {n : Nat} {f : gb_F} {w : Int64} {p1 : Int32} (h : P f) : gb_pm P (ms_isLetter n f w p1) := by
  unfold ms_isLetter
  refine pm_if ?_ ?_
  · exact pm_some h
  · refine pm_if ?_ ?_
    · exact pm_some h
    · exact pm_some h
theorem cm_isDigit {P : gb_F → Prop} (hW : gb_sm P) {n : Nat} {f : gb_F} {w : Int64} {p1 : Int32} (h : P f) : gb_pm P (ms_isDigit n f w p1) := by
  unfold ms_isDigit
  refine pm_if ?_ ?_
  · exact pm_some h
  · refine pm_if ?_ ?_
    · exact pm_some h
    · exact pm_some h
theorem cm_four {P : gb_F → Prop} (hW : gb_sm P) {n : Nat} {f : gb_F} {w : Int64} {p1 : Int32} {p2 : Int32} {p3 : Int32} {p4 : Int32} (h : P f) : gb_pm P (ms_four n f w p1 p2 p3 p4) := by
  unfold ms_four
  exact pm_some h
theorem cm_eight {P : gb_F → Prop} (hW : gb_sm P) {n : Nat} {f : gb_F} {w : Int64} {p1 : Int32} {p2 : Int32} {p3 : Int32} {p4 : Int32} {p5 : Int32} {p6 : Int32} {p7 : Int32} {p8 : Int32} (h : P f) : gb_pm P (ms_eight n f w p1 p2 p3 p4 p5 p6 p7 p8) := by
  unfold ms_eight
  refine pm_bd (cm_four hW h) (fun f_1 wl_2 r_3 hf_1 => ?_)
  refine pm_bd (cm_four hW hf_1) (fun f_6 wl_7 r_8 hf_6 => ?_)
  exact pm_some hf_6
theorem cm_wordOf {P : gb_F → Prop} (hW : gb_sm P) {n : Nat} {f : gb_F} {w : Int64} {p1 : Int64} (h : P f) : gb_pm P (ms_wordOf n f w p1) := by
  unfold ms_wordOf
  refine pm_bd (cm_four hW h) (fun f_1 wl_2 r_3 hf_1 => ?_)
  refine pm_if ?_ ?_
  · exact pm_some hf_1
  · refine pm_bd (cm_eight hW hf_1) (fun f_7 wl_8 r_9 hf_7 => ?_)
    refine pm_if ?_ ?_
    · exact pm_some hf_7
    · refine pm_bd (cm_four hW hf_7) (fun f_13 wl_14 r_15 hf_13 => ?_)
      refine pm_if ?_ ?_
      · exact pm_some hf_13
      · refine pm_bd (cm_eight hW hf_13) (fun f_19 wl_20 r_21 hf_19 => ?_)
        refine pm_if ?_ ?_
        · exact pm_some hf_19
        · refine pm_bd (cm_four hW hf_19) (fun f_25 wl_26 r_27 hf_25 => ?_)
          refine pm_if ?_ ?_
          · exact pm_some hf_25
          · refine pm_bd (cm_four hW hf_25) (fun f_31 wl_32 r_33 hf_31 => ?_)
            refine pm_if ?_ ?_
            · exact pm_some hf_31
            · refine pm_bd (cm_eight hW hf_31) (fun f_37 wl_38 r_39 hf_37 => ?_)
              refine pm_if ?_ ?_
              · exact pm_some hf_37
              · refine pm_bd (cm_eight hW hf_37) (fun f_43 wl_44 r_45 hf_43 => ?_)
                refine pm_if ?_ ?_
                · exact pm_some hf_43
                · refine pm_bd (cm_four hW hf_43) (fun f_49 wl_50 r_51 hf_49 => ?_)
                  refine pm_if ?_ ?_
                  · exact pm_some hf_49
                  · refine pm_bd (cm_eight hW hf_49) (fun f_55 wl_56 r_57 hf_55 => ?_)
                    refine pm_if ?_ ?_
                    · exact pm_some hf_55
                    · refine pm_bd (cm_four hW hf_55) (fun f_61 wl_62 r_63 hf_61 => ?_)
                      refine pm_if ?_ ?_
                      · exact pm_some hf_61
                      · refine pm_bd (cm_four hW hf_61) (fun f_67 wl_68 r_69 hf_67 => ?_)
                        refine pm_if ?_ ?_
                        · exact pm_some hf_67
                        · refine pm_bd (cm_four hW hf_67) (fun f_73 wl_74 r_75 hf_73 => ?_)
                          refine pm_if ?_ ?_
                          · exact pm_some hf_73
                          · refine pm_bd (cm_eight hW hf_73) (fun f_79 wl_80 r_81 hf_79 => ?_)
                            refine pm_if ?_ ?_
                            · exact pm_some hf_79
                            · refine pm_bd (cm_eight hW hf_79) (fun f_85 wl_86 r_87 hf_85 => ?_)
                              refine pm_if ?_ ?_
                              · exact pm_some hf_85
                              · refine pm_bd (cm_four hW hf_85) (fun f_91 wl_92 r_93 hf_91 => ?_)
                                refine pm_if ?_ ?_
                                · exact pm_some hf_91
                                · refine pm_bd (cm_four hW hf_91) (fun f_97 wl_98 r_99 hf_97 => ?_)
                                  refine pm_if ?_ ?_
                                  · exact pm_some hf_97
                                  · refine pm_bd (cm_four hW hf_97) (fun f_103 wl_104 r_105 hf_103 => ?_)
                                    refine pm_if ?_ ?_
                                    · exact pm_some hf_103
                                    · exact pm_some hf_103
theorem cm_advance_198 {P : gb_F → Prop} (hW : gb_sm P) {n : Nat} : ∀ (mm : Nat) (f : gb_F) (w : Int64), P f → gb_pm P (ms_advance_198 n mm f w) := by
  intro mm
  induction mm with
  | zero =>
    intros
    exact pm_none
  | succ mm ih =>
    intro f w h
    unfold ms_advance_198
    refine pm_bd (cm_byteAt hW h) (fun f_45 wl_46 r_47 hf_45 => ?_)
    refine pm_bd (cm_isDigit hW hf_45) (fun f_50 wl_51 r_52 hf_50 => ?_)
    refine pm_if ?_ ?_
    · refine pm_if ?_ ?_
      · refine pm_ltS (hW.1 _ _ hf_50) (fun f_57 hf_57 => ?_)
        exact pm_some hf_57
      · refine pm_ltS (hW.1 _ _ hf_50) (fun f_58 hf_58 => ?_)
        exact pm_some hf_58
    · refine pm_if ?_ ?_
      · refine pm_ltS (hW.1 _ _ hf_50) (fun f_60 hf_60 => ?_)
        exact ih _ _ hf_60
      · refine pm_bd (cm_byteAt hW hf_50) (fun f_61 wl_62 r_63 hf_61 => ?_)
        refine pm_ltS (hW.1 _ _ hf_61) (fun f_66 hf_66 => ?_)
        refine pm_ltS (hW.1 _ _ hf_66) (fun f_67 hf_67 => ?_)
        exact ih _ _ hf_67
theorem cm_advance_77 {P : gb_F → Prop} (hW : gb_sm P) {n : Nat} : ∀ (mm : Nat) (f : gb_F) (w : Int64) (v2 : Int64), P f → gb_pm P (ms_advance_77 n mm f w v2) := by
  intro mm
  induction mm with
  | zero =>
    intros
    exact pm_none
  | succ mm ih =>
    intro f w v2 h
    unfold ms_advance_77
    refine pm_bd (cm_byteAt hW h) (fun f_68 wl_69 r_70 hf_68 => ?_)
    refine pm_bd (cm_isLetter hW hf_68) (fun f_73 wl_74 r_75 hf_73 => ?_)
    refine pm_if ?_ ?_
    · refine pm_if ?_ ?_
      · refine pm_bd (cm_wordOf hW hf_73) (fun f_80 wl_81 r_82 hf_80 => ?_)
        refine pm_ltS (hW.1 _ _ hf_80) (fun f_85 hf_85 => ?_)
        refine pm_if ?_ ?_
        · refine pm_ltS (hW.1 _ _ hf_85) (fun f_88 hf_88 => ?_)
          exact pm_some hf_88
        · refine pm_ltS (hW.1 _ _ hf_85) (fun f_87 hf_87 => ?_)
          exact pm_some hf_87
      · refine pm_ltS (hW.1 _ _ hf_73) (fun f_89 hf_89 => ?_)
        refine pm_if ?_ ?_
        · refine pm_ltS (hW.1 _ _ hf_89) (fun f_92 hf_92 => ?_)
          exact pm_some hf_92
        · refine pm_ltS (hW.1 _ _ hf_89) (fun f_91 hf_91 => ?_)
          exact pm_some hf_91
    · refine pm_if ?_ ?_
      · refine pm_ltS (hW.1 _ _ hf_73) (fun f_94 hf_94 => ?_)
        exact ih _ _ _ hf_94
      · refine pm_bd (cm_byteAt hW hf_73) (fun f_95 wl_96 r_97 hf_95 => ?_)
        refine pm_ltV (fun x_100 => ?_)
        refine pm_ltS (hW.1 _ _ hf_95) (fun f_101 hf_101 => ?_)
        exact ih _ _ _ hf_101
theorem cm_advance_0 {P : gb_F → Prop} (hW : gb_sm P) {n : Nat} : ∀ (mm : Nat) (f : gb_F) (w : Int64), P f → gb_pm P (ms_advance_0 n mm f w) := by
  intro mm
  induction mm with
  | zero =>
    intros
    exact pm_none
  | succ mm ih =>
    intro f w h
    unfold ms_advance_0
    refine pm_bd (cm_byteAt hW h) (fun f_8 wl_9 r_10 hf_8 => ?_)
    refine pm_if ?_ ?_
    · refine pm_ltS (hW.1 _ _ hf_8) (fun f_14 hf_14 => ?_)
      exact ih _ _ hf_14
    · refine pm_bd (cm_byteAt hW hf_8) (fun f_15 wl_16 r_17 hf_15 => ?_)
      refine pm_if ?_ ?_
      · refine pm_ltS (hW.1 _ _ hf_15) (fun f_103 hf_103 => ?_)
        exact ih _ _ hf_103
      · refine pm_ltS (hW.1 _ _ hf_15) (fun f_21 hf_21 => ?_)
        refine pm_bd (cm_byteAt hW hf_21) (fun f_22 wl_23 r_24 hf_22 => ?_)
        refine pm_if ?_ ?_
        · refine pm_bd (cm_isLetter hW hf_22) (fun f_28 wl_29 r_30 hf_28 => ?_)
          refine pm_if ?_ ?_
          · refine pm_bd (cm_isDigit hW hf_28) (fun f_34 wl_35 r_36 hf_34 => ?_)
            refine pm_if ?_ ?_
            · refine pm_ltS (hW.1 _ _ hf_34) (fun f_40 hf_40 => ?_)
              refine pm_if ?_ ?_
              · refine pm_ltS (hW.1 _ _ hf_40) (fun f_43 hf_43 => ?_)
                exact pm_some hf_43
              · refine pm_ltS (hW.1 _ _ hf_40) (fun f_42 hf_42 => ?_)
                exact pm_some hf_42
            · refine pm_ltS (hW.1 _ _ hf_34) (fun f_44 hf_44 => ?_)
              exact cm_advance_198 hW _ _ _ hf_44
          · exact cm_advance_77 hW _ _ _ _ hf_28
        · refine pm_ltS (hW.1 _ _ hf_22) (fun f_102 hf_102 => ?_)
          exact pm_some hf_102
theorem cm_advance {P : gb_F → Prop} (hW : gb_sm P) {n : Nat} {f : gb_F} {w : Int64} (h : P f) : gb_pm P (ms_advance n f w) := by
  unfold ms_advance
  refine pm_bd (cm_byteAt hW h) (fun f_1 wl_2 r_3 hf_1 => ?_)
  refine pm_if ?_ ?_
  · refine pm_ltS (hW.1 _ _ hf_1) (fun f_7 hf_7 => ?_)
    exact cm_advance_0 hW _ _ _ hf_7
  · refine pm_bd (cm_byteAt hW hf_1) (fun f_104 wl_105 r_106 hf_104 => ?_)
    refine pm_if ?_ ?_
    · refine pm_ltS (hW.1 _ _ hf_104) (fun f_135 hf_135 => ?_)
      exact cm_advance_0 hW _ _ _ hf_135
    · refine pm_ltS (hW.1 _ _ hf_104) (fun f_110 hf_110 => ?_)
      refine pm_bd (cm_byteAt hW hf_110) (fun f_111 wl_112 r_113 hf_111 => ?_)
      refine pm_if ?_ ?_
      · refine pm_bd (cm_isLetter hW hf_111) (fun f_117 wl_118 r_119 hf_117 => ?_)
        refine pm_if ?_ ?_
        · refine pm_bd (cm_isDigit hW hf_117) (fun f_123 wl_124 r_125 hf_123 => ?_)
          refine pm_if ?_ ?_
          · refine pm_ltS (hW.1 _ _ hf_123) (fun f_129 hf_129 => ?_)
            refine pm_if ?_ ?_
            · refine pm_ltS (hW.1 _ _ hf_129) (fun f_132 hf_132 => ?_)
              exact pm_some hf_132
            · refine pm_ltS (hW.1 _ _ hf_129) (fun f_131 hf_131 => ?_)
              exact pm_some hf_131
          · refine pm_ltS (hW.1 _ _ hf_123) (fun f_133 hf_133 => ?_)
            exact cm_advance_198 hW _ _ _ hf_133
        · exact cm_advance_77 hW _ _ _ _ hf_117
      · refine pm_ltS (hW.1 _ _ hf_111) (fun f_134 hf_134 => ?_)
        exact pm_some hf_134
theorem cm_ends {P : gb_F → Prop} (hW : gb_sm P) (w5 : gb_w5c P) {n : Nat} {f : gb_F} {w : Int64} (h : P f) : gb_pm P (ms_ends n f w) := by
  unfold ms_ends
  refine pm_if ?_ ?_
  · refine pm_ltS (hW.1 _ _ h) (fun f_2 hf_2 => ?_)
    refine pm_ltS (w5 _ _ hf_2).1 (fun f_3 hf_3 => ?_)
    refine pm_ltS (w5 _ _ hf_3).2 (fun f_4 hf_4 => ?_)
    exact pm_some hf_4
  · exact pm_some h
theorem cm_also {P : gb_F → Prop} (hW : gb_sm P) (w5 : gb_w5c P) {n : Nat} {f : gb_F} {w : Int64} {p1 : Int32} {p2 : Int32} (h : P f) : gb_pm P (ms_also n f w p1 p2) := by
  unfold ms_also
  refine pm_if ?_ ?_
  · refine pm_ltV (fun x_2 => ?_)
    refine pm_if ?_ ?_
    · refine pm_ltS (w5 _ _ h).1 (fun f_4 hf_4 => ?_)
      refine pm_ltS (w5 _ _ hf_4).2 (fun f_5 hf_5 => ?_)
      exact pm_some hf_5
    · refine pm_ltV (fun x_6 => ?_)
      refine pm_if ?_ ?_
      · exact pm_some h
      · refine pm_ltV (fun x_8 => ?_)
        refine pm_if ?_ ?_
        · refine pm_ltV (fun x_12 => ?_)
          refine pm_if ?_ ?_
          · refine pm_ltS (w5 _ _ h).1 (fun f_14 hf_14 => ?_)
            refine pm_ltS (w5 _ _ hf_14).2 (fun f_15 hf_15 => ?_)
            exact pm_some hf_15
          · exact pm_some h
        · refine pm_ltS (w5 _ _ h).1 (fun f_10 hf_10 => ?_)
          refine pm_ltS (w5 _ _ hf_10).2 (fun f_11 hf_11 => ?_)
          exact pm_some hf_11
  · exact pm_some h
theorem cm_numbered {P : gb_F → Prop} (hW : gb_sm P) (w5 : gb_w5c P) {n : Nat} {f : gb_F} {w : Int64} {p1 : Int32} {p2 : Int32} (h : P f) : gb_pm P (ms_numbered n f w p1 p2) := by
  unfold ms_numbered
  refine pm_if ?_ ?_
  · refine pm_if ?_ ?_
    · refine pm_ltV (fun x_8 => ?_)
      refine pm_bd (cm_isIn hW h) (fun f_9 wl_10 r_11 hf_9 => ?_)
      refine pm_if ?_ ?_
      · refine pm_bd (cm_also hW w5 hf_9) (fun f_26 wl_27 _ hf_26 => ?_)
        refine pm_bd (cm_advance hW hf_26) (fun f_31 wl_32 _ hf_31 => ?_)
        refine pm_bd (cm_isIn hW hf_31) (fun f_36 wl_37 r_38 hf_36 => ?_)
        refine pm_if ?_ ?_
        · exact pm_some hf_36
        · exact pm_some hf_36
      · refine pm_bd (cm_advance hW hf_9) (fun f_15 wl_16 _ hf_15 => ?_)
        refine pm_bd (cm_isIn hW hf_15) (fun f_20 wl_21 r_22 hf_20 => ?_)
        refine pm_if ?_ ?_
        · exact pm_some hf_20
        · exact pm_some hf_20
    · refine pm_bd (cm_ends hW w5 h) (fun f_42 wl_43 _ hf_42 => ?_)
      exact pm_some hf_42
  · refine pm_bd (cm_ends hW w5 h) (fun f_2 wl_3 _ hf_2 => ?_)
    exact pm_some hf_2
theorem cm_takes {P : gb_F → Prop} (hW : gb_sm P) (w5 : gb_w5c P) {n : Nat} {f : gb_F} {w : Int64} {p1 : Int32} {p2 : Int32} (h : P f) : gb_pm P (ms_takes n f w p1 p2) := by
  unfold ms_takes
  refine pm_if ?_ ?_
  · refine pm_if ?_ ?_
    · refine pm_bd (cm_isIn hW h) (fun f_13 wl_14 r_15 hf_13 => ?_)
      refine pm_if ?_ ?_
      · refine pm_bd (cm_ends hW w5 hf_13) (fun f_25 wl_26 _ hf_25 => ?_)
        exact pm_some hf_25
      · refine pm_ltV (fun x_19 => ?_)
        refine pm_bd (cm_advance hW hf_13) (fun f_20 wl_21 _ hf_20 => ?_)
        exact pm_some hf_20
    · refine pm_bd (cm_ends hW w5 h) (fun f_8 wl_9 _ hf_8 => ?_)
      exact pm_some hf_8
  · refine pm_bd (cm_ends hW w5 h) (fun f_2 wl_3 _ hf_2 => ?_)
    exact pm_some hf_2
theorem cm_endsLine {P : gb_F → Prop} (hW : gb_sm P) (w5 : gb_w5c P) {n : Nat} {f : gb_F} {w : Int64} (h : P f) : gb_pm P (ms_endsLine n f w) := by
  unfold ms_endsLine
  refine pm_if ?_ ?_
  · refine pm_if ?_ ?_
    · refine pm_bd (cm_advance hW h) (fun f_13 wl_14 _ hf_13 => ?_)
      exact pm_some hf_13
    · refine pm_bd (cm_ends hW w5 h) (fun f_8 wl_9 _ hf_8 => ?_)
      exact pm_some hf_8
  · refine pm_bd (cm_ends hW w5 h) (fun f_2 wl_3 _ hf_2 => ?_)
    exact pm_some hf_2
theorem cm_pathLine_26 {P : gb_F → Prop} (hW : gb_sm P) (w5 : gb_w5c P) {n : Nat} {f : gb_F} {w : Int64} {v2 : Int32} (h : P f) : gb_pm P (ms_pathLine_26 n f w v2) := by
  unfold ms_pathLine_26
  refine pm_bd (cm_numbered hW w5 h) (fun f_4 wl_5 r_6 hf_4 => ?_)
  refine pm_bd (cm_numbered hW w5 hf_4) (fun f_9 wl_10 r_11 hf_9 => ?_)
  refine pm_bd (cm_numbered hW w5 hf_9) (fun f_14 wl_15 r_16 hf_14 => ?_)
  refine pm_if ?_ ?_
  · exact pm_some hf_14
  · refine pm_ltV (fun x_20 => ?_)
    refine pm_ltV (fun x_21 => ?_)
    refine pm_ck ?_
    refine pm_ltS (hW.2 _ _ _ (by decide) hf_14) (fun f_23 hf_23 => ?_)
    refine pm_ck ?_
    refine pm_ltS (hW.2 _ _ _ (by decide) hf_23) (fun f_25 hf_25 => ?_)
    refine pm_ck ?_
    refine pm_ltS (hW.2 _ _ _ (by decide) hf_25) (fun f_27 hf_27 => ?_)
    refine pm_ltV (fun x_28 => ?_)
    refine pm_ltS (hW.2 _ _ _ (by decide) hf_27) (fun f_29 hf_29 => ?_)
    exact pm_some hf_29
theorem cm_pathLine_15 {P : gb_F → Prop} (hW : gb_sm P) (w5 : gb_w5c P) {n : Nat} {f : gb_F} {w : Int64} {v1 : Int32} {t0 : Int32} (h : P f) : gb_pm P (ms_pathLine_15 n f w v1 t0) := by
  unfold ms_pathLine_15
  refine pm_if ?_ ?_
  · refine pm_bd (cm_also hW w5 h) (fun f_30 wl_31 _ hf_30 => ?_)
    exact cm_pathLine_26 hW w5 hf_30
  · exact cm_pathLine_26 hW w5 h
theorem cm_pathLine {P : gb_F → Prop} (hW : gb_sm P) (w5 : gb_w5c P) {n : Nat} {f : gb_F} {w : Int64} {p1 : Int32} (h : P f) : gb_pm P (ms_pathLine n f w p1) := by
  unfold ms_pathLine
  refine pm_ltV (fun x_1 => ?_)
  refine pm_if ?_ ?_
  · exact cm_pathLine_15 hW w5 h
  · exact cm_pathLine_15 hW w5 h
theorem cm_gooseLine_27 {P : gb_F → Prop} (hW : gb_sm P) (w5 : gb_w5c P) {n : Nat} {f : gb_F} {w : Int64} {v2 : Int32} (h : P f) : gb_pm P (ms_gooseLine_27 n f w v2) := by
  unfold ms_gooseLine_27
  refine pm_bd (cm_numbered hW w5 h) (fun f_4 wl_5 r_6 hf_4 => ?_)
  refine pm_bd (cm_numbered hW w5 hf_4) (fun f_9 wl_10 r_11 hf_9 => ?_)
  refine pm_bd (cm_numbered hW w5 hf_9) (fun f_14 wl_15 r_16 hf_14 => ?_)
  refine pm_bd (cm_numbered hW w5 hf_14) (fun f_19 wl_20 r_21 hf_19 => ?_)
  refine pm_bd (cm_numbered hW w5 hf_19) (fun f_24 wl_25 r_26 hf_24 => ?_)
  refine pm_if ?_ ?_
  · exact pm_some hf_24
  · refine pm_ltV (fun x_30 => ?_)
    refine pm_ltV (fun x_31 => ?_)
    refine pm_ck ?_
    refine pm_ltS (hW.2 _ _ _ (by decide) hf_24) (fun f_33 hf_33 => ?_)
    refine pm_ck ?_
    refine pm_ltS (hW.2 _ _ _ (by decide) hf_33) (fun f_35 hf_35 => ?_)
    refine pm_ck ?_
    refine pm_ltS (hW.2 _ _ _ (by decide) hf_35) (fun f_37 hf_37 => ?_)
    refine pm_ck ?_
    refine pm_ltS (hW.2 _ _ _ (by decide) hf_37) (fun f_39 hf_39 => ?_)
    refine pm_ck ?_
    refine pm_ltS (hW.2 _ _ _ (by decide) hf_39) (fun f_41 hf_41 => ?_)
    refine pm_ltV (fun x_42 => ?_)
    refine pm_ltS (hW.2 _ _ _ (by decide) hf_41) (fun f_43 hf_43 => ?_)
    exact pm_some hf_43
theorem cm_gooseLine_16 {P : gb_F → Prop} (hW : gb_sm P) (w5 : gb_w5c P) {n : Nat} {f : gb_F} {w : Int64} {v1 : Int32} {t0 : Int32} (h : P f) : gb_pm P (ms_gooseLine_16 n f w v1 t0) := by
  unfold ms_gooseLine_16
  refine pm_if ?_ ?_
  · refine pm_bd (cm_also hW w5 h) (fun f_44 wl_45 _ hf_44 => ?_)
    exact cm_gooseLine_27 hW w5 hf_44
  · exact cm_gooseLine_27 hW w5 h
theorem cm_gooseLine {P : gb_F → Prop} (hW : gb_sm P) (w5 : gb_w5c P) {n : Nat} {f : gb_F} {w : Int64} {p1 : Int32} (h : P f) : gb_pm P (ms_gooseLine n f w p1) := by
  unfold ms_gooseLine
  refine pm_ltV (fun x_1 => ?_)
  refine pm_if ?_ ?_
  · exact cm_gooseLine_16 hW w5 h
  · exact cm_gooseLine_16 hW w5 h
theorem cm_borderLine_22 {P : gb_F → Prop} (hW : gb_sm P) (w5 : gb_w5c P) {n : Nat} {f : gb_F} {w : Int64} {v1 : Int32} {v2 : Int32} (h : P f) : gb_pm P (ms_borderLine_22 n f w v1 v2) := by
  unfold ms_borderLine_22
  refine pm_if ?_ ?_
  · refine pm_bd (cm_gooseLine hW w5 h) (fun f_26 wl_27 _ hf_26 => ?_)
    refine pm_if ?_ ?_
    · refine pm_bd (cm_numbered hW w5 hf_26) (fun f_37 wl_38 r_39 hf_37 => ?_)
      refine pm_ltS (hW.2 _ _ _ (by decide) hf_37) (fun f_42 hf_42 => ?_)
      refine pm_bd (cm_endsLine hW w5 hf_42) (fun f_43 wl_44 _ hf_43 => ?_)
      exact pm_some hf_43
    · refine pm_bd (cm_endsLine hW w5 hf_26) (fun f_32 wl_33 _ hf_32 => ?_)
      exact pm_some hf_32
  · refine pm_if ?_ ?_
    · refine pm_bd (cm_numbered hW w5 h) (fun f_15 wl_16 r_17 hf_15 => ?_)
      refine pm_ltS (hW.2 _ _ _ (by decide) hf_15) (fun f_20 hf_20 => ?_)
      refine pm_bd (cm_endsLine hW w5 hf_20) (fun f_21 wl_22 _ hf_21 => ?_)
      exact pm_some hf_21
    · refine pm_bd (cm_endsLine hW w5 h) (fun f_10 wl_11 _ hf_10 => ?_)
      exact pm_some hf_10
theorem cm_borderLine {P : gb_F → Prop} (hW : gb_sm P) (w5 : gb_w5c P) {n : Nat} {f : gb_F} {w : Int64} (h : P f) : gb_pm P (ms_borderLine n f w) := by
  unfold ms_borderLine
  refine pm_ltV (fun x_1 => ?_)
  refine pm_bd (cm_takes hW w5 h) (fun f_2 wl_3 r_4 hf_2 => ?_)
  refine pm_if ?_ ?_
  · refine pm_bd (cm_pathLine hW w5 hf_2) (fun f_48 wl_49 _ hf_48 => ?_)
    exact cm_borderLine_22 hW w5 hf_48
  · exact cm_borderLine_22 hW w5 hf_2
theorem cm_gooseTold {P : gb_F → Prop} (hW : gb_sm P) (w5 : gb_w5c P) {n : Nat} {f : gb_F} {w : Int64} (h : P f) : gb_pm P (ms_gooseTold n f w) := by
  unfold ms_gooseTold
  refine pm_bd (cm_numbered hW w5 h) (fun f_1 wl_2 r_3 hf_1 => ?_)
  exact pm_some hf_1
theorem cm_pathTold {P : gb_F → Prop} (hW : gb_sm P) (w5 : gb_w5c P) {n : Nat} {f : gb_F} {w : Int64} (h : P f) : gb_pm P (ms_pathTold n f w) := by
  unfold ms_pathTold
  refine pm_bd (cm_numbered hW w5 h) (fun f_1 wl_2 r_3 hf_1 => ?_)
  exact pm_some hf_1
theorem cm_adds_58 {P : gb_F → Prop} (hW : gb_sm P) {n : Nat} {f : gb_F} {w : Int64} {v2 : Int32} {v6 : Int32} {v7 : Int32} (h : P f) : gb_pm P (ms_adds_58 n f w v2 v6 v7) := by
  unfold ms_adds_58
  refine pm_if ?_ ?_
  · refine pm_ltV (fun x_11 => ?_)
    refine pm_ltS (hW.2 _ _ _ (by decide) h) (fun f_12 hf_12 => ?_)
    exact pm_some hf_12
  · refine pm_ck ?_
    refine pm_ltS (hW.2 _ _ _ (by decide) h) (fun f_14 hf_14 => ?_)
    refine pm_ltV (fun x_15 => ?_)
    refine pm_ltS (hW.2 _ _ _ (by decide) hf_14) (fun f_16 hf_16 => ?_)
    exact pm_some hf_16
theorem cm_adds {P : gb_F → Prop} (hW : gb_sm P) {n : Nat} {f : gb_F} {w : Int64} {p1 : Int32} {p2 : Int32} {p3 : Int32} {p4 : Int32} {p5 : Int32} {p6 : Int32} (h : P f) : gb_pm P (ms_adds n f w p1 p2 p3 p4 p5 p6) := by
  unfold ms_adds
  refine pm_ltV (fun x_1 => ?_)
  refine pm_if ?_ ?_
  · refine pm_ltV (fun x_3 => ?_)
    refine pm_ltV (fun x_4 => ?_)
    refine pm_ck ?_
    refine pm_ltS (hW.2 _ _ _ (by decide) h) (fun f_6 hf_6 => ?_)
    refine pm_ck ?_
    refine pm_ltS (hW.2 _ _ _ (by decide) hf_6) (fun f_8 hf_8 => ?_)
    refine pm_if ?_ ?_
    · exact cm_adds_58 hW hf_8
    · refine pm_ck ?_
      refine pm_ltS (hW.2 _ _ _ (by decide) hf_8) (fun f_18 hf_18 => ?_)
      exact cm_adds_58 hW hf_18
  · exact pm_some h
theorem cm_deedLine_152 {P : gb_F → Prop} (hW : gb_sm P) (w5 : gb_w5c P) {n : Nat} {f : gb_F} {w : Int64} {v2 : Int32} {v3 : Int32} {v4 : Int32} {v5 : Int32} (h : P f) : gb_pm P (ms_deedLine_152 n f w v2 v3 v4 v5) := by
  unfold ms_deedLine_152
  refine pm_if ?_ ?_
  · refine pm_bd (cm_pathTold hW w5 h) (fun f_35 wl_36 r_37 hf_35 => ?_)
    refine pm_bd (cm_adds hW hf_35) (fun f_40 wl_41 _ hf_40 => ?_)
    refine pm_bd (cm_endsLine hW w5 hf_40) (fun f_45 wl_46 _ hf_45 => ?_)
    exact pm_some hf_45
  · refine pm_bd (cm_adds hW h) (fun f_25 wl_26 _ hf_25 => ?_)
    refine pm_bd (cm_endsLine hW w5 hf_25) (fun f_30 wl_31 _ hf_30 => ?_)
    exact pm_some hf_30
theorem cm_deedLine_139 {P : gb_F → Prop} (hW : gb_sm P) (w5 : gb_w5c P) {n : Nat} {f : gb_F} {w : Int64} {v2 : Int32} {v3 : Int32} {v4 : Int32} {v5 : Int32} (h : P f) : gb_pm P (ms_deedLine_139 n f w v2 v3 v4 v5) := by
  unfold ms_deedLine_139
  refine pm_if ?_ ?_
  · refine pm_bd (cm_numbered hW w5 h) (fun f_50 wl_51 r_52 hf_50 => ?_)
    exact cm_deedLine_152 hW w5 hf_50
  · exact cm_deedLine_152 hW w5 h
theorem cm_deedLine_125 {P : gb_F → Prop} (hW : gb_sm P) (w5 : gb_w5c P) {n : Nat} {f : gb_F} {w : Int64} {v2 : Int32} {v3 : Int32} {v4 : Int32} {v5 : Int32} (h : P f) : gb_pm P (ms_deedLine_125 n f w v2 v3 v4 v5) := by
  unfold ms_deedLine_125
  refine pm_if ?_ ?_
  · refine pm_bd (cm_numbered hW w5 h) (fun f_55 wl_56 r_57 hf_55 => ?_)
    exact cm_deedLine_139 hW w5 hf_55
  · exact cm_deedLine_139 hW w5 h
theorem cm_deedLine_113 {P : gb_F → Prop} (hW : gb_sm P) (w5 : gb_w5c P) {n : Nat} {f : gb_F} {w : Int64} {v2 : Int32} {v3 : Int32} (h : P f) : gb_pm P (ms_deedLine_113 n f w v2 v3) := by
  unfold ms_deedLine_113
  refine pm_bd (cm_gooseTold hW w5 h) (fun f_61 wl_62 r_63 hf_61 => ?_)
  refine pm_bd (cm_pathTold hW w5 hf_61) (fun f_66 wl_67 r_68 hf_66 => ?_)
  exact cm_deedLine_125 hW w5 hf_66
theorem cm_deedLine_76 {P : gb_F → Prop} (hW : gb_sm P) (w5 : gb_w5c P) {n : Nat} {f : gb_F} {w : Int64} {v2 : Int32} {v3 : Int32} {v4 : Int32} {v5 : Int32} (h : P f) : gb_pm P (ms_deedLine_76 n f w v2 v3 v4 v5) := by
  unfold ms_deedLine_76
  refine pm_if ?_ ?_
  · refine pm_if ?_ ?_
    · refine pm_if ?_ ?_
      · refine pm_if ?_ ?_
        · refine pm_bd (cm_also hW w5 h) (fun f_73 wl_74 _ hf_73 => ?_)
          exact cm_deedLine_113 hW w5 hf_73
        · exact cm_deedLine_113 hW w5 h
      · exact cm_deedLine_113 hW w5 h
    · exact cm_deedLine_113 hW w5 h
  · exact cm_deedLine_125 hW w5 h
theorem cm_deedLine_61 {P : gb_F → Prop} (hW : gb_sm P) (w5 : gb_w5c P) {n : Nat} {f : gb_F} {w : Int64} {v2 : Int32} {v3 : Int32} {v4 : Int32} {v5 : Int32} (h : P f) : gb_pm P (ms_deedLine_61 n f w v2 v3 v4 v5) := by
  unfold ms_deedLine_61
  refine pm_bd (cm_isIn hW h) (fun f_15 wl_16 r_17 hf_15 => ?_)
  refine pm_if ?_ ?_
  · exact cm_deedLine_76 hW w5 hf_15
  · refine pm_bd (cm_pathTold hW w5 hf_15) (fun f_78 wl_79 r_80 hf_78 => ?_)
    exact cm_deedLine_76 hW w5 hf_78
theorem cm_deedLine_39 {P : gb_F → Prop} (hW : gb_sm P) (w5 : gb_w5c P) {n : Nat} {f : gb_F} {w : Int64} {v2 : Int32} (h : P f) : gb_pm P (ms_deedLine_39 n f w v2) := by
  unfold ms_deedLine_39
  refine pm_bd (cm_isIn hW h) (fun f_9 wl_10 r_11 hf_9 => ?_)
  refine pm_if ?_ ?_
  · exact cm_deedLine_61 hW w5 hf_9
  · refine pm_bd (cm_gooseTold hW w5 hf_9) (fun f_83 wl_84 r_85 hf_83 => ?_)
    exact cm_deedLine_61 hW w5 hf_83
theorem cm_deedLine {P : gb_F → Prop} (hW : gb_sm P) (w5 : gb_w5c P) {n : Nat} {f : gb_F} {w : Int64} (h : P f) : gb_pm P (ms_deedLine n f w) := by
  unfold ms_deedLine
  refine pm_ltV (fun x_1 => ?_)
  refine pm_bd (cm_takes hW w5 h) (fun f_2 wl_3 r_4 hf_2 => ?_)
  refine pm_ltV (fun x_7 => ?_)
  refine pm_if ?_ ?_
  · refine pm_ltV (fun x_88 => ?_)
    refine pm_if ?_ ?_
    · exact cm_deedLine_39 hW w5 hf_2
    · refine pm_bd (cm_also hW w5 hf_2) (fun f_90 wl_91 _ hf_90 => ?_)
      exact cm_deedLine_39 hW w5 hf_90
  · exact cm_deedLine_39 hW w5 hf_2
theorem cm_termLine_99 {P : gb_F → Prop} (hW : gb_sm P) (w5 : gb_w5c P) {n : Nat} {f : gb_F} {w : Int64} {v2 : Int32} {v3 : Int32} {v4 : Int32} (h : P f) : gb_pm P (ms_termLine_99 n f w v2 v3 v4) := by
  unfold ms_termLine_99
  refine pm_if ?_ ?_
  · refine pm_bd (cm_numbered hW w5 h) (fun f_33 wl_34 r_35 hf_33 => ?_)
    refine pm_bd (cm_adds hW hf_33) (fun f_38 wl_39 _ hf_38 => ?_)
    refine pm_bd (cm_endsLine hW w5 hf_38) (fun f_43 wl_44 _ hf_43 => ?_)
    exact pm_some hf_43
  · refine pm_bd (cm_adds hW h) (fun f_23 wl_24 _ hf_23 => ?_)
    refine pm_bd (cm_endsLine hW w5 hf_23) (fun f_28 wl_29 _ hf_28 => ?_)
    exact pm_some hf_28
theorem cm_termLine_86 {P : gb_F → Prop} (hW : gb_sm P) (w5 : gb_w5c P) {n : Nat} {f : gb_F} {w : Int64} {v2 : Int32} {v3 : Int32} {v4 : Int32} (h : P f) : gb_pm P (ms_termLine_86 n f w v2 v3 v4) := by
  unfold ms_termLine_86
  refine pm_if ?_ ?_
  · refine pm_bd (cm_numbered hW w5 h) (fun f_48 wl_49 r_50 hf_48 => ?_)
    exact cm_termLine_99 hW w5 hf_48
  · exact cm_termLine_99 hW w5 h
theorem cm_termLine_68 {P : gb_F → Prop} (hW : gb_sm P) (w5 : gb_w5c P) {n : Nat} {f : gb_F} {w : Int64} {v2 : Int32} (h : P f) : gb_pm P (ms_termLine_68 n f w v2) := by
  unfold ms_termLine_68
  refine pm_bd (cm_numbered hW w5 h) (fun f_11 wl_12 r_13 hf_11 => ?_)
  refine pm_bd (cm_numbered hW w5 hf_11) (fun f_16 wl_17 r_18 hf_16 => ?_)
  exact cm_termLine_86 hW w5 hf_16
theorem cm_termLine_58 {P : gb_F → Prop} (hW : gb_sm P) (w5 : gb_w5c P) {n : Nat} {f : gb_F} {w : Int64} {v2 : Int32} {v3 : Int32} {v4 : Int32} (h : P f) : gb_pm P (ms_termLine_58 n f w v2 v3 v4) := by
  unfold ms_termLine_58
  refine pm_if ?_ ?_
  · exact cm_termLine_68 hW w5 h
  · refine pm_if ?_ ?_
    · exact cm_termLine_68 hW w5 h
    · exact cm_termLine_86 hW w5 h
theorem cm_termLine_41 {P : gb_F → Prop} (hW : gb_sm P) (w5 : gb_w5c P) {n : Nat} {f : gb_F} {w : Int64} {v2 : Int32} (h : P f) : gb_pm P (ms_termLine_41 n f w v2) := by
  unfold ms_termLine_41
  refine pm_if ?_ ?_
  · refine pm_bd (cm_numbered hW w5 h) (fun f_54 wl_55 r_56 hf_54 => ?_)
    exact cm_termLine_58 hW w5 hf_54
  · exact cm_termLine_58 hW w5 h
theorem cm_termLine {P : gb_F → Prop} (hW : gb_sm P) (w5 : gb_w5c P) {n : Nat} {f : gb_F} {w : Int64} (h : P f) : gb_pm P (ms_termLine n f w) := by
  unfold ms_termLine
  refine pm_ltV (fun x_1 => ?_)
  refine pm_bd (cm_takes hW w5 h) (fun f_2 wl_3 r_4 hf_2 => ?_)
  refine pm_ltV (fun x_7 => ?_)
  refine pm_if ?_ ?_
  · refine pm_ltV (fun x_59 => ?_)
    refine pm_if ?_ ?_
    · exact cm_termLine_41 hW w5 hf_2
    · refine pm_bd (cm_also hW w5 hf_2) (fun f_61 wl_62 _ hf_61 => ?_)
      exact cm_termLine_41 hW w5 hf_61
  · exact cm_termLine_41 hW w5 hf_2
theorem cm_seenLine_54 {P : gb_F → Prop} (hW : gb_sm P) (w5 : gb_w5c P) {n : Nat} : ∀ (mm : Nat) (f : gb_F) (w : Int64) (v2 : Int32) (v3 : Int32) (v4 : Int32), P f → gb_pm P (ms_seenLine_54 n mm f w v2 v3 v4) := by
  intro mm
  induction mm with
  | zero =>
    intros
    exact pm_none
  | succ mm ih =>
    intro f w v2 v3 v4 h
    unfold ms_seenLine_54
    refine pm_ltV (fun x_18 => ?_)
    refine pm_if ?_ ?_
    · refine pm_bd (cm_adds hW h) (fun f_20 wl_21 _ hf_20 => ?_)
      refine pm_bd (cm_endsLine hW w5 hf_20) (fun f_25 wl_26 _ hf_25 => ?_)
      exact pm_some hf_25
    · refine pm_if ?_ ?_
      · refine pm_ck ?_
        refine pm_ltV (fun x_34 => ?_)
        refine pm_if ?_ ?_
        · refine pm_ltS (hW.1 _ _ h) (fun f_38 hf_38 => ?_)
          refine pm_ltV (fun x_39 => ?_)
          exact ih _ _ _ _ _ hf_38
        · refine pm_ltS (hW.1 _ _ h) (fun f_36 hf_36 => ?_)
          refine pm_ltV (fun x_37 => ?_)
          exact ih _ _ _ _ _ hf_36
      · refine pm_ltS (hW.1 _ _ h) (fun f_31 hf_31 => ?_)
        refine pm_ltV (fun x_32 => ?_)
        exact ih _ _ _ _ _ hf_31
theorem cm_seenLine {P : gb_F → Prop} (hW : gb_sm P) (w5 : gb_w5c P) {n : Nat} {f : gb_F} {w : Int64} (h : P f) : gb_pm P (ms_seenLine n f w) := by
  unfold ms_seenLine
  refine pm_ltV (fun x_1 => ?_)
  refine pm_bd (cm_takes hW w5 h) (fun f_2 wl_3 r_4 hf_2 => ?_)
  refine pm_if ?_ ?_
  · refine pm_ltV (fun x_40 => ?_)
    refine pm_if ?_ ?_
    · refine pm_bd (cm_pathTold hW w5 hf_2) (fun f_42 wl_43 r_44 hf_42 => ?_)
      refine pm_bd (cm_numbered hW w5 hf_42) (fun f_47 wl_48 r_49 hf_47 => ?_)
      exact cm_seenLine_54 hW w5 _ _ _ _ _ _ hf_47
    · refine pm_bd (cm_also hW w5 hf_2) (fun f_52 wl_53 _ hf_52 => ?_)
      refine pm_bd (cm_pathTold hW w5 hf_52) (fun f_57 wl_58 r_59 hf_57 => ?_)
      refine pm_bd (cm_numbered hW w5 hf_57) (fun f_62 wl_63 r_64 hf_62 => ?_)
      exact cm_seenLine_54 hW w5 _ _ _ _ _ _ hf_62
  · refine pm_bd (cm_pathTold hW w5 hf_2) (fun f_8 wl_9 r_10 hf_8 => ?_)
    refine pm_bd (cm_numbered hW w5 hf_8) (fun f_13 wl_14 r_15 hf_13 => ?_)
    exact cm_seenLine_54 hW w5 _ _ _ _ _ _ hf_13
theorem cm_placeOf {P : gb_F → Prop} (hW : gb_sm P) {n : Nat} {f : gb_F} {w : Int64} {p1 : Int32} {p2 : Int32} (h : P f) : gb_pm P (ms_placeOf n f w p1 p2) := by
  unfold ms_placeOf
  refine pm_if ?_ ?_
  · exact pm_some h
  · refine pm_if ?_ ?_
    · exact pm_some h
    · refine pm_if ?_ ?_
      · exact pm_some h
      · exact pm_some h
theorem cm_sizeOf {P : gb_F → Prop} (hW : gb_sm P) {n : Nat} {f : gb_F} {w : Int64} {p1 : Int32} (h : P f) : gb_pm P (ms_sizeOf n f w p1) := by
  unfold ms_sizeOf
  refine pm_if ?_ ?_
  · exact pm_some h
  · refine pm_if ?_ ?_
    · exact pm_some h
    · refine pm_if ?_ ?_
      · exact pm_some h
      · exact pm_some h
theorem cm_isOf {P : gb_F → Prop} (hW : gb_sm P) {n : Nat} {f : gb_F} {w : Int64} {p1 : Int32} {p2 : Int32} (h : P f) : gb_pm P (ms_isOf n f w p1 p2) := by
  unfold ms_isOf
  refine pm_ck ?_
  refine pm_ltV (fun x_2 => ?_)
  refine pm_bd (cm_isIn hW h) (fun f_3 wl_4 r_5 hf_3 => ?_)
  refine pm_cb ?_
  exact pm_some hf_3
theorem cm_text_248 {P : gb_F → Prop} (hW : gb_sm P) (w1 : gb_w1c P) {n : Nat} : ∀ (mm : Nat) (f : gb_F) (w : Int64) (v1 : Int32) (v3 : Int32) (v4 : Int32), P f → gb_pm P (ms_text_248 n mm f w v1 v3 v4) := by
  intro mm
  induction mm with
  | zero =>
    intros
    exact pm_none
  | succ mm ih =>
    intro f w v1 v3 v4 h
    unfold ms_text_248
    refine pm_bd (cm_sizeOf hW h) (fun f_36 wl_37 r_38 hf_36 => ?_)
    refine pm_if ?_ ?_
    · exact pm_some hf_36
    · refine pm_bd (cm_placeOf hW hf_36) (fun f_42 wl_43 r_44 hf_42 => ?_)
      refine pm_ck ?_
      refine pm_ltV (fun x_48 => ?_)
      refine pm_ck ?_
      refine pm_ltS (w1 _ _ hf_42) (fun f_50 hf_50 => ?_)
      refine pm_ltV (fun x_51 => ?_)
      exact ih _ _ _ _ _ hf_50
theorem cm_text_229 {P : gb_F → Prop} (hW : gb_sm P) (w1 : gb_w1c P) {n : Nat} {f : gb_F} {w : Int64} {v1 : Int32} {v2 : Int32} {t0 : Int32} (h : P f) : gb_pm P (ms_text_229 n f w v1 v2 t0) := by
  unfold ms_text_229
  refine pm_if ?_ ?_
  · refine pm_ck ?_
    refine pm_ltV (fun x_53 => ?_)
    refine pm_ck ?_
    refine pm_ltS (w1 _ _ h) (fun f_55 hf_55 => ?_)
    exact cm_text_248 hW w1 _ _ _ _ _ _ hf_55
  · exact cm_text_248 hW w1 _ _ _ _ _ _ h
theorem cm_text_203 {P : gb_F → Prop} (hW : gb_sm P) (w1 : gb_w1c P) {n : Nat} {f : gb_F} {w : Int64} {v1 : Int32} {v2 : Int32} (h : P f) : gb_pm P (ms_text_203 n f w v1 v2) := by
  unfold ms_text_203
  refine pm_ltV (fun x_32 => ?_)
  refine pm_if ?_ ?_
  · refine pm_if ?_ ?_
    · refine pm_ck ?_
      refine pm_ltV (fun x_57 => ?_)
      exact cm_text_229 hW w1 h
    · exact cm_text_229 hW w1 h
  · exact pm_some h
theorem cm_text_178 {P : gb_F → Prop} (hW : gb_sm P) (w1 : gb_w1c P) (w5 : gb_w5c P) {n : Nat} {f : gb_F} {w : Int64} {v1 : Int32} {v2 : Int32} (h : P f) : gb_pm P (ms_text_178 n f w v1 v2) := by
  unfold ms_text_178
  refine pm_ltV (fun x_30 => ?_)
  refine pm_if ?_ ?_
  · refine pm_if ?_ ?_
    · exact cm_text_203 hW w1 h
    · refine pm_bd (cm_also hW w5 h) (fun f_59 wl_60 _ hf_59 => ?_)
      exact cm_text_203 hW w1 hf_59
  · exact cm_text_203 hW w1 h
theorem cm_text_122 {P : gb_F → Prop} (hW : gb_sm P) (w1 : gb_w1c P) (w5 : gb_w5c P) {n : Nat} : ∀ (mm : Nat) (f : gb_F) (w : Int64) (v1 : Int32) (v2 : Int32), P f → gb_pm P (ms_text_122 n mm f w v1 v2) := by
  intro mm
  induction mm with
  | zero =>
    intros
    exact pm_none
  | succ mm ih =>
    intro f w v1 v2 h
    unfold ms_text_122
    refine pm_if ?_ ?_
    · refine pm_if ?_ ?_
      · exact cm_text_178 hW w1 w5 h
      · refine pm_if ?_ ?_
        · refine pm_bd (cm_borderLine hW w5 h) (fun f_83 wl_84 _ hf_83 => ?_)
          exact ih _ _ _ _ hf_83
        · refine pm_if ?_ ?_
          · refine pm_bd (cm_deedLine hW w5 h) (fun f_78 wl_79 _ hf_78 => ?_)
            exact ih _ _ _ _ hf_78
          · refine pm_if ?_ ?_
            · refine pm_bd (cm_termLine hW w5 h) (fun f_73 wl_74 _ hf_73 => ?_)
              exact ih _ _ _ _ hf_73
            · refine pm_bd (cm_seenLine hW w5 h) (fun f_68 wl_69 _ hf_68 => ?_)
              exact ih _ _ _ _ hf_68
    · exact cm_text_178 hW w1 w5 h
theorem cm_text_88 {P : gb_F → Prop} (hW : gb_sm P) (w1 : gb_w1c P) (w5 : gb_w5c P) {n : Nat} : ∀ (mm : Nat) (f : gb_F) (w : Int64) (v1 : Int32) (v2 : Int32) (v3 : Int32), P f → gb_pm P (ms_text_88 n mm f w v1 v2 v3) := by
  intro mm
  induction mm with
  | zero =>
    intros
    exact pm_none
  | succ mm ih =>
    intro f w v1 v2 v3 h
    unfold ms_text_88
    refine pm_if ?_ ?_
    · refine pm_if ?_ ?_
      · refine pm_ltS (hW.2 _ _ _ (by decide) h) (fun f_88 hf_88 => ?_)
        refine pm_bd (cm_advance hW hf_88) (fun f_89 wl_90 _ hf_89 => ?_)
        exact cm_text_122 hW w1 w5 _ _ _ _ _ hf_89
      · refine pm_bd (cm_advance hW h) (fun f_24 wl_25 _ hf_24 => ?_)
        exact cm_text_122 hW w1 w5 _ _ _ _ _ hf_24
    · refine pm_ck ?_
      refine pm_ltS (hW.2 _ _ _ (by decide) h) (fun f_95 hf_95 => ?_)
      refine pm_ltV (fun x_96 => ?_)
      exact ih _ _ _ _ _ hf_95
theorem cm_text {P : gb_F → Prop} (hW : gb_sm P) (w1 : gb_w1c P) (w5 : gb_w5c P) {n : Nat} {f : gb_F} {w : Int64} {p1 : Int32} {p2 : Int32} (h : P f) : gb_pm P (ms_text n f w p1 p2) := by
  unfold ms_text
  refine pm_ltV (fun x_1 => ?_)
  refine pm_ltS (hW.1 _ _ h) (fun f_2 hf_2 => ?_)
  refine pm_ltS (w1 _ _ hf_2) (fun f_3 hf_3 => ?_)
  refine pm_ltS (w5 _ _ hf_3).1 (fun f_4 hf_4 => ?_)
  refine pm_ltS (w5 _ _ hf_4).2 (fun f_5 hf_5 => ?_)
  refine pm_bd (cm_isIn hW hf_5) (fun f_6 wl_7 r_8 hf_6 => ?_)
  refine pm_if ?_ ?_
  · exact pm_some hf_6
  · refine pm_if ?_ ?_
    · refine pm_ck ?_
      refine pm_ltV (fun x_98 => ?_)
      refine pm_if ?_ ?_
      · refine pm_ltS (hW.1 _ _ hf_6) (fun f_100 hf_100 => ?_)
        refine pm_ltS (hW.1 _ _ hf_100) (fun f_101 hf_101 => ?_)
        refine pm_ltS (hW.1 _ _ hf_101) (fun f_102 hf_102 => ?_)
        exact cm_text_88 hW w1 w5 _ _ _ _ _ _ hf_102
      · exact pm_some hf_6
    · refine pm_bd (cm_isOf hW hf_6) (fun f_13 wl_14 r_15 hf_13 => ?_)
      refine pm_if ?_ ?_
      · exact pm_some hf_13
      · refine pm_ltS (hW.1 _ _ hf_13) (fun f_19 hf_19 => ?_)
        refine pm_ltS (hW.1 _ _ hf_19) (fun f_20 hf_20 => ?_)
        refine pm_ltS (hW.1 _ _ hf_20) (fun f_21 hf_21 => ?_)
        exact cm_text_88 hW w1 w5 _ _ _ _ _ _ hf_21
theorem cm_fault {P : gb_F → Prop} (hW : gb_sm P) {n : Nat} {f : gb_F} {w : Int64} {p1 : Int32} (h : P f) : gb_pm P (ms_fault n f w p1) := by
  unfold ms_fault
  refine pm_if ?_ ?_
  · refine pm_ltV (fun x_4 => ?_)
    exact pm_some h
  · refine pm_if ?_ ?_
    · refine pm_ltV (fun x_3 => ?_)
      exact pm_some h
    · exact pm_some h
theorem cm_isBorder {P : gb_F → Prop} (hW : gb_sm P) {n : Nat} {f : gb_F} {w : Int64} {p1 : Int32} (h : P f) : gb_pm P (ms_isBorder n f w p1) := by
  unfold ms_isBorder
  refine pm_bd (cm_isOf hW h) (fun f_1 wl_2 r_3 hf_1 => ?_)
  refine pm_if ?_ ?_
  · exact pm_some hf_1
  · refine pm_bd (cm_placeOf hW hf_1) (fun f_7 wl_8 r_9 hf_7 => ?_)
    refine pm_ltS (hW.1 _ _ hf_7) (fun f_12 hf_12 => ?_)
    exact pm_some hf_12
theorem cm_of {P : gb_F → Prop} (hW : gb_sm P) {n : Nat} {f : gb_F} {w : Int64} {p1 : Int32} (h : P f) : gb_pm P (ms_of n f w p1) := by
  unfold ms_of
  refine pm_ck ?_
  refine pm_ltV (fun x_2 => ?_)
  exact pm_some h
theorem cm_paths {P : gb_F → Prop} (hW : gb_sm P) {n : Nat} {f : gb_F} {w : Int64} (h : P f) : gb_pm P (ms_paths n f w) := by
  unfold ms_paths
  refine pm_bd (cm_of hW h) (fun f_1 wl_2 r_3 hf_1 => ?_)
  exact pm_some hf_1
theorem cm_geese {P : gb_F → Prop} (hW : gb_sm P) {n : Nat} {f : gb_F} {w : Int64} (h : P f) : gb_pm P (ms_geese n f w) := by
  unfold ms_geese
  refine pm_bd (cm_of hW h) (fun f_1 wl_2 r_3 hf_1 => ?_)
  exact pm_some hf_1
theorem cm_isPath {P : gb_F → Prop} (hW : gb_sm P) {n : Nat} {f : gb_F} {w : Int64} {p1 : Int32} (h : P f) : gb_pm P (ms_isPath n f w p1) := by
  unfold ms_isPath
  refine pm_bd (cm_paths hW h) (fun f_1 wl_2 r_3 hf_1 => ?_)
  refine pm_bd (cm_isIn hW hf_1) (fun f_6 wl_7 r_8 hf_6 => ?_)
  refine pm_cb ?_
  exact pm_some hf_6
theorem cm_isGoose {P : gb_F → Prop} (hW : gb_sm P) {n : Nat} {f : gb_F} {w : Int64} {p1 : Int32} (h : P f) : gb_pm P (ms_isGoose n f w p1) := by
  unfold ms_isGoose
  refine pm_bd (cm_geese hW h) (fun f_1 wl_2 r_3 hf_1 => ?_)
  refine pm_bd (cm_isIn hW hf_1) (fun f_6 wl_7 r_8 hf_6 => ?_)
  refine pm_cb ?_
  exact pm_some hf_6
theorem cm_ofPath {P : gb_F → Prop} (hW : gb_sm P) {n : Nat} {f : gb_F} {w : Int64} {p1 : Int32} {p2 : Int32} (h : P f) : gb_pm P (ms_ofPath n f w p1 p2) := by
  unfold ms_ofPath
  refine pm_bd (cm_of hW h) (fun f_1 wl_2 r_3 hf_1 => ?_)
  exact pm_some hf_1
theorem cm_ofGoose {P : gb_F → Prop} (hW : gb_sm P) {n : Nat} {f : gb_F} {w : Int64} {p1 : Int32} {p2 : Int32} (h : P f) : gb_pm P (ms_ofGoose n f w p1 p2) := by
  unfold ms_ofGoose
  refine pm_bd (cm_of hW h) (fun f_1 wl_2 r_3 hf_1 => ?_)
  exact pm_some hf_1
theorem cm_border {P : gb_F → Prop} (hW : gb_sm P) {n : Nat} {f : gb_F} {w : Int64} {p1 : Int32} {p2 : Int32} (h : P f) : gb_pm P (ms_border n f w p1 p2) := by
  unfold ms_border
  refine pm_bd (cm_isBorder hW h) (fun f_1 wl_2 r_3 hf_1 => ?_)
  refine pm_if ?_ ?_
  · exact pm_some hf_1
  · refine pm_bd (cm_isIn hW hf_1) (fun f_7 wl_8 r_9 hf_7 => ?_)
    refine pm_if ?_ ?_
    · refine pm_ltV (fun x_13 => ?_)
      refine pm_bd (cm_isIn hW hf_7) (fun f_14 wl_15 r_16 hf_14 => ?_)
      refine pm_if ?_ ?_
      · refine pm_bd (cm_isIn hW hf_14) (fun f_20 wl_21 r_22 hf_20 => ?_)
        refine pm_if ?_ ?_
        · exact pm_some hf_20
        · refine pm_bd (cm_isGoose hW hf_20) (fun f_26 wl_27 r_28 hf_26 => ?_)
          refine pm_if ?_ ?_
          · exact pm_some hf_26
          · refine pm_ltV (fun x_32 => ?_)
            refine pm_bd (cm_ofGoose hW hf_26) (fun f_33 wl_34 r_35 hf_33 => ?_)
            exact pm_some hf_33
      · refine pm_bd (cm_isPath hW hf_14) (fun f_38 wl_39 r_40 hf_38 => ?_)
        refine pm_if ?_ ?_
        · exact pm_some hf_38
        · refine pm_ltV (fun x_44 => ?_)
          refine pm_bd (cm_ofPath hW hf_38) (fun f_45 wl_46 r_47 hf_45 => ?_)
          exact pm_some hf_45
    · refine pm_bd (cm_of hW hf_7) (fun f_50 wl_51 r_52 hf_50 => ?_)
      exact pm_some hf_50
theorem cm_left_10 {P : gb_F → Prop} (hW : gb_sm P) {n : Nat} {f : gb_F} {w : Int64} {v1 : Int32} {v2 : Int32} {v4 : Int32} {v5 : Int32} {t0 : Int32} (h : P f) : gb_pm P (ms_left_10 n f w v1 v2 v4 v5 t0) := by
  unfold ms_left_10
  refine pm_bd (cm_ofGoose hW h) (fun f_2 wl_3 r_4 hf_2 => ?_)
  refine pm_bd (cm_ofGoose hW hf_2) (fun f_7 wl_8 r_9 hf_7 => ?_)
  refine pm_ltV (fun x_12 => ?_)
  refine pm_if ?_ ?_
  · exact pm_some hf_7
  · exact pm_some hf_7
theorem cm_left {P : gb_F → Prop} (hW : gb_sm P) {n : Nat} {f : gb_F} {w : Int64} {p1 : Int32} {p2 : Int32} {p3 : Int32} {p4 : Int32} {p5 : Int32} (h : P f) : gb_pm P (ms_left n f w p1 p2 p3 p4 p5) := by
  unfold ms_left
  refine pm_if ?_ ?_
  · exact cm_left_10 hW h
  · exact cm_left_10 hW h
theorem cm_firstMarks {P : gb_F → Prop} (hW : gb_sm P) {n : Nat} {f : gb_F} {w : Int64} {p1 : Int32} {p2 : Int32} (h : P f) : gb_pm P (ms_firstMarks n f w p1 p2) := by
  unfold ms_firstMarks
  refine pm_bd (cm_ofPath hW h) (fun f_1 wl_2 r_3 hf_1 => ?_)
  refine pm_bd (cm_ofGoose hW hf_1) (fun f_6 wl_7 r_8 hf_6 => ?_)
  refine pm_bd (cm_ofGoose hW hf_6) (fun f_11 wl_12 r_13 hf_11 => ?_)
  refine pm_bd (cm_left hW hf_11) (fun f_16 wl_17 r_18 hf_16 => ?_)
  exact pm_some hf_16
theorem cm_marks {P : gb_F → Prop} (hW : gb_sm P) {n : Nat} {f : gb_F} {w : Int64} {p1 : Int32} {p2 : Int32} {p3 : Int32} {p4 : Int32} (h : P f) : gb_pm P (ms_marks n f w p1 p2 p3 p4) := by
  unfold ms_marks
  refine pm_bd (cm_isBorder hW h) (fun f_1 wl_2 r_3 hf_1 => ?_)
  refine pm_if ?_ ?_
  · exact pm_some hf_1
  · refine pm_bd (cm_isGoose hW hf_1) (fun f_7 wl_8 r_9 hf_7 => ?_)
    refine pm_if ?_ ?_
    · exact pm_some hf_7
    · refine pm_bd (cm_isPath hW hf_7) (fun f_13 wl_14 r_15 hf_13 => ?_)
      refine pm_if ?_ ?_
      · exact pm_some hf_13
      · refine pm_bd (cm_ofPath hW hf_13) (fun f_19 wl_20 r_21 hf_19 => ?_)
        refine pm_bd (cm_ofGoose hW hf_19) (fun f_24 wl_25 r_26 hf_24 => ?_)
        refine pm_bd (cm_ofGoose hW hf_24) (fun f_29 wl_30 r_31 hf_29 => ?_)
        refine pm_bd (cm_left hW hf_29) (fun f_34 wl_35 r_36 hf_34 => ?_)
        exact pm_some hf_34
theorem cm_deeds {P : gb_F → Prop} (hW : gb_sm P) {n : Nat} {f : gb_F} {w : Int64} (h : P f) : gb_pm P (ms_deeds n f w) := by
  unfold ms_deeds
  refine pm_ck ?_
  refine pm_ltV (fun x_2 => ?_)
  exact pm_some h
theorem cm_deedOf {P : gb_F → Prop} (hW : gb_sm P) {n : Nat} {f : gb_F} {w : Int64} {p1 : Int32} {p2 : Int32} (h : P f) : gb_pm P (ms_deedOf n f w p1 p2) := by
  unfold ms_deedOf
  refine pm_ck ?_
  refine pm_ltV (fun x_2 => ?_)
  exact pm_some h
theorem cm_deed {P : gb_F → Prop} (hW : gb_sm P) {n : Nat} {f : gb_F} {w : Int64} {p1 : Int32} {p2 : Int32} {p3 : Int32} (h : P f) : gb_pm P (ms_deed n f w p1 p2 p3) := by
  unfold ms_deed
  refine pm_bd (cm_isOf hW h) (fun f_1 wl_2 r_3 hf_1 => ?_)
  refine pm_if ?_ ?_
  · exact pm_some hf_1
  · refine pm_bd (cm_placeOf hW hf_1) (fun f_7 wl_8 r_9 hf_7 => ?_)
    refine pm_ltS (hW.1 _ _ hf_7) (fun f_12 hf_12 => ?_)
    refine pm_if ?_ ?_
    · refine pm_if ?_ ?_
      · refine pm_bd (cm_deeds hW hf_12) (fun f_37 wl_38 r_39 hf_37 => ?_)
        exact pm_some hf_37
      · exact pm_some hf_12
    · refine pm_bd (cm_deeds hW hf_12) (fun f_14 wl_15 r_16 hf_14 => ?_)
      refine pm_bd (cm_isIn hW hf_14) (fun f_19 wl_20 r_21 hf_19 => ?_)
      refine pm_if ?_ ?_
      · exact pm_some hf_19
      · refine pm_bd (cm_isIn hW hf_19) (fun f_25 wl_26 r_27 hf_25 => ?_)
        refine pm_if ?_ ?_
        · exact pm_some hf_25
        · refine pm_bd (cm_deedOf hW hf_25) (fun f_31 wl_32 r_33 hf_31 => ?_)
          exact pm_some hf_31
theorem cm_begins_105 {P : gb_F → Prop} (hW : gb_sm P) {n : Nat} : ∀ (mm : Nat) (f : gb_F) (w : Int64) (v1 : Int32), P f → gb_pm P (ms_begins_105 n mm f w v1) := by
  intro mm
  induction mm with
  | zero =>
    intros
    exact pm_none
  | succ mm ih =>
    intro f w v1 h
    unfold ms_begins_105
    refine pm_if ?_ ?_
    · refine pm_ltS (hW.1 _ _ h) (fun f_3 hf_3 => ?_)
      refine pm_ltS (hW.1 _ _ hf_3) (fun f_4 hf_4 => ?_)
      exact pm_some hf_4
    · refine pm_ck ?_
      refine pm_ltS (hW.2 _ _ _ (by decide) h) (fun f_6 hf_6 => ?_)
      refine pm_ck ?_
      refine pm_ltS (hW.2 _ _ _ (by decide) hf_6) (fun f_8 hf_8 => ?_)
      refine pm_ck ?_
      refine pm_ltS (hW.2 _ _ _ (by decide) hf_8) (fun f_10 hf_10 => ?_)
      refine pm_ltV (fun x_11 => ?_)
      exact ih _ _ _ hf_10
theorem cm_begins_75 {P : gb_F → Prop} (hW : gb_sm P) {n : Nat} {k2 : gb_F → Int64 → Int32 → gb_MR Unit} (h_k2 : ∀ (s : gb_F) (x1 : Int64) (x2 : Int32), P s → gb_pm P (k2 s x1 x2)) : ∀ (mm : Nat) (f : gb_F) (w : Int64) (v1 : Int32) (v2 : Int32), P f → gb_pm P (ms_begins_75 n k2 mm f w v1 v2) := by
  intro mm
  induction mm with
  | zero =>
    intros
    exact pm_none
  | succ mm ih =>
    intro f w v1 v2 h
    unfold ms_begins_75
    refine pm_if ?_ ?_
    · refine pm_ltV (fun x_32 => ?_)
      exact h_k2 _ _ _ h
    · refine pm_ck ?_
      refine pm_ltS (hW.2 _ _ _ (by decide) h) (fun f_34 hf_34 => ?_)
      refine pm_ltV (fun x_35 => ?_)
      exact ih _ _ _ _ hf_34
theorem cm_begins_38 {P : gb_F → Prop} (hW : gb_sm P) {n : Nat} {k2 : gb_F → Int64 → Int32 → gb_MR Unit} (h_k2 : ∀ (s : gb_F) (x1 : Int64) (x2 : Int32), P s → gb_pm P (k2 s x1 x2)) {f : gb_F} {w : Int64} {v1 : Int32} {t0 : Int32} {t1 : Int32} (h : P f) : gb_pm P (ms_begins_38 n k2 f w v1 t0 t1) := by
  unfold ms_begins_38
  refine pm_ck ?_
  refine pm_ltS (hW.2 _ _ _ (by decide) h) (fun f_21 hf_21 => ?_)
  refine pm_ck ?_
  refine pm_ltV (fun x_23 => ?_)
  refine pm_if ?_ ?_
  · refine pm_ck ?_
    refine pm_ltS (hW.2 _ _ _ (by decide) hf_21) (fun f_26 hf_26 => ?_)
    refine pm_ck ?_
    refine pm_ltS (hW.2 _ _ _ (by decide) hf_26) (fun f_28 hf_28 => ?_)
    refine pm_ck ?_
    refine pm_ltS (hW.2 _ _ _ (by decide) hf_28) (fun f_30 hf_30 => ?_)
    exact cm_begins_75 hW h_k2 _ _ _ _ _ hf_30
  · refine pm_ck ?_
    refine pm_ltS (hW.2 _ _ _ (by decide) hf_21) (fun f_37 hf_37 => ?_)
    refine pm_ck ?_
    refine pm_ltS (hW.2 _ _ _ (by decide) hf_37) (fun f_39 hf_39 => ?_)
    refine pm_ck ?_
    refine pm_ltS (hW.2 _ _ _ (by decide) hf_39) (fun f_41 hf_41 => ?_)
    exact cm_begins_75 hW h_k2 _ _ _ _ _ hf_41
theorem cm_begins_2 {P : gb_F → Prop} (hW : gb_sm P) {n : Nat} : ∀ (mm : Nat) (f : gb_F) (w : Int64) (v1 : Int32), P f → gb_pm P (ms_begins_2 n mm f w v1) := by
  intro mm
  induction mm with
  | zero =>
    intros
    exact pm_none
  | succ mm ih =>
    intro f w v1 h
    unfold ms_begins_2
    refine pm_if ?_ ?_
    · exact cm_begins_105 hW _ _ _ _ h
    · refine pm_ck ?_
      refine pm_ltS (hW.2 _ _ _ (by decide) h) (fun f_13 hf_13 => ?_)
      refine pm_bd (cm_isGoose hW hf_13) (fun f_14 wl_15 r_16 hf_14 => ?_)
      refine pm_if ?_ ?_
      · refine cm_begins_38 hW ?_ hf_14
        · intro f w v1 hf
          exact ih _ _ _ hf
      · refine pm_bd (cm_ofGoose hW hf_14) (fun f_42 wl_43 r_44 hf_42 => ?_)
        refine cm_begins_38 hW ?_ hf_42
        · intro f w v1 hf
          exact ih _ _ _ hf
theorem cm_begins {P : gb_F → Prop} (hW : gb_sm P) {n : Nat} {f : gb_F} {w : Int64} (h : P f) : gb_pm P (ms_begins n f w) := by
  unfold ms_begins
  exact cm_begins_2 hW _ _ _ _ h
theorem cm_foxed_4 {P : gb_F → Prop} (hW : gb_sm P) {n : Nat} : ∀ (mm : Nat) (f : gb_F) (w : Int64) (v1 : Int32) (v2 : Int32) (v3 : Int32), P f → gb_pm P (ms_foxed_4 n mm f w v1 v2 v3) := by
  intro mm
  induction mm with
  | zero =>
    intros
    exact pm_none
  | succ mm ih =>
    intro f w v1 v2 v3 h
    unfold ms_foxed_4
    refine pm_bd (cm_geese hW h) (fun f_1 wl_2 r_3 hf_1 => ?_)
    refine pm_if ?_ ?_
    · exact pm_some hf_1
    · refine pm_ck ?_
      refine pm_ltV (fun x_8 => ?_)
      refine pm_if ?_ ?_
      · refine pm_ltV (fun x_10 => ?_)
        exact ih _ _ _ _ _ hf_1
      · refine pm_ck ?_
        refine pm_ltV (fun x_12 => ?_)
        refine pm_if ?_ ?_
        · refine pm_ltV (fun x_23 => ?_)
          exact ih _ _ _ _ _ hf_1
        · refine pm_if ?_ ?_
          · refine pm_ltV (fun x_15 => ?_)
            exact ih _ _ _ _ _ hf_1
          · refine pm_ck ?_
            refine pm_ltV (fun x_17 => ?_)
            refine pm_ck ?_
            refine pm_ltV (fun x_19 => ?_)
            refine pm_if ?_ ?_
            · refine pm_ltV (fun x_21 => ?_)
              exact ih _ _ _ _ _ hf_1
            · refine pm_ltV (fun x_22 => ?_)
              exact ih _ _ _ _ _ hf_1
theorem cm_foxed {P : gb_F → Prop} (hW : gb_sm P) {n : Nat} {f : gb_F} {w : Int64} {p1 : Int32} (h : P f) : gb_pm P (ms_foxed n f w p1) := by
  unfold ms_foxed
  exact cm_foxed_4 hW _ _ _ _ _ _ h
theorem cm_isAt {P : gb_F → Prop} (hW : gb_sm P) {n : Nat} {f : gb_F} {w : Int64} {p1 : Int32} {p2 : Int32} (h : P f) : gb_pm P (ms_isAt n f w p1 p2) := by
  unfold ms_isAt
  refine pm_bd (cm_isGoose hW h) (fun f_1 wl_2 r_3 hf_1 => ?_)
  refine pm_if ?_ ?_
  · exact pm_some hf_1
  · refine pm_ck ?_
    refine pm_ltV (fun x_8 => ?_)
    refine pm_if ?_ ?_
    · exact pm_some hf_1
    · exact pm_some hf_1
theorem cm_can {P : gb_F → Prop} (hW : gb_sm P) {n : Nat} {f : gb_F} {w : Int64} {p1 : Int32} (h : P f) : gb_pm P (ms_can n f w p1) := by
  unfold ms_can
  refine pm_bd (cm_deedOf hW h) (fun f_1 wl_2 r_3 hf_1 => ?_)
  refine pm_bd (cm_deedOf hW hf_1) (fun f_6 wl_7 r_8 hf_6 => ?_)
  refine pm_bd (cm_deedOf hW hf_6) (fun f_11 wl_12 r_13 hf_11 => ?_)
  refine pm_if ?_ ?_
  · refine pm_bd (cm_isAt hW hf_11) (fun f_17 wl_18 r_19 hf_17 => ?_)
    refine pm_if ?_ ?_
    · exact pm_some hf_17
    · refine pm_bd (cm_isPath hW hf_17) (fun f_23 wl_24 r_25 hf_23 => ?_)
      refine pm_if ?_ ?_
      · exact pm_some hf_23
      · exact pm_some hf_23
  · refine pm_if ?_ ?_
    · refine pm_bd (cm_isAt hW hf_11) (fun f_30 wl_31 r_32 hf_30 => ?_)
      refine pm_if ?_ ?_
      · exact pm_some hf_30
      · refine pm_bd (cm_isPath hW hf_30) (fun f_36 wl_37 r_38 hf_36 => ?_)
        refine pm_if ?_ ?_
        · exact pm_some hf_36
        · exact pm_some hf_36
    · refine pm_if ?_ ?_
      · refine pm_bd (cm_isAt hW hf_11) (fun f_43 wl_44 r_45 hf_43 => ?_)
        refine pm_if ?_ ?_
        · exact pm_some hf_43
        · refine pm_bd (cm_isPath hW hf_43) (fun f_49 wl_50 r_51 hf_49 => ?_)
          refine pm_if ?_ ?_
          · exact pm_some hf_49
          · exact pm_some hf_49
      · refine pm_if ?_ ?_
        · refine pm_bd (cm_isAt hW hf_11) (fun f_56 wl_57 r_58 hf_56 => ?_)
          refine pm_if ?_ ?_
          · exact pm_some hf_56
          · refine pm_bd (cm_isAt hW hf_56) (fun f_62 wl_63 r_64 hf_62 => ?_)
            refine pm_if ?_ ?_
            · exact pm_some hf_62
            · refine pm_bd (cm_deedOf hW hf_62) (fun f_68 wl_69 r_70 hf_68 => ?_)
              refine pm_bd (cm_isPath hW hf_68) (fun f_73 wl_74 r_75 hf_73 => ?_)
              refine pm_if ?_ ?_
              · exact pm_some hf_73
              · exact pm_some hf_73
        · refine pm_if ?_ ?_
          · refine pm_bd (cm_isGoose hW hf_11) (fun f_80 wl_81 r_82 hf_80 => ?_)
            refine pm_if ?_ ?_
            · exact pm_some hf_80
            · refine pm_ck ?_
              refine pm_ltV (fun x_87 => ?_)
              refine pm_if ?_ ?_
              · exact pm_some hf_80
              · exact pm_some hf_80
          · refine pm_if ?_ ?_
            · exact pm_some hf_11
            · refine pm_if ?_ ?_
              · exact pm_some hf_11
              · refine pm_if ?_ ?_
                · exact pm_some hf_11
                · refine pm_if ?_ ?_
                  · refine pm_bd (cm_isPath hW hf_11) (fun f_93 wl_94 r_95 hf_93 => ?_)
                    refine pm_if ?_ ?_
                    · exact pm_some hf_93
                    · refine pm_bd (cm_foxed hW hf_93) (fun f_99 wl_100 r_101 hf_99 => ?_)
                      refine pm_if ?_ ?_
                      · exact pm_some hf_99
                      · exact pm_some hf_99
                  · exact pm_some hf_11
theorem cm_walks_122 {P : gb_F → Prop} (hW : gb_sm P) {n : Nat} {f : gb_F} {w : Int64} {v1 : Int32} {v2 : Int32} {v3 : Int32} {v5 : Int32} (h : P f) : gb_pm P (ms_walks_122 n f w v1 v2 v3 v5) := by
  unfold ms_walks_122
  refine pm_ck ?_
  refine pm_ltS (hW.2 _ _ _ (by decide) h) (fun f_25 hf_25 => ?_)
  refine pm_ck ?_
  refine pm_ltS (hW.2 _ _ _ (by decide) hf_25) (fun f_27 hf_27 => ?_)
  refine pm_ck ?_
  refine pm_ltS (hW.2 _ _ _ (by decide) hf_27) (fun f_29 hf_29 => ?_)
  exact pm_some hf_29
theorem cm_walks_120 {P : gb_F → Prop} (hW : gb_sm P) {n : Nat} {f : gb_F} {w : Int64} {v1 : Int32} {v2 : Int32} {v3 : Int32} {v5 : Int32} {t0 : Int32} {t1 : Int32} {t2 : Int32} (h : P f) : gb_pm P (ms_walks_120 n f w v1 v2 v3 v5 t0 t1 t2) := by
  unfold ms_walks_120
  refine pm_ck ?_
  refine pm_ltS (hW.2 _ _ _ (by decide) h) (fun f_43 hf_43 => ?_)
  exact cm_walks_122 hW hf_43
theorem cm_walks_100 {P : gb_F → Prop} (hW : gb_sm P) {n : Nat} {f : gb_F} {w : Int64} {v1 : Int32} {v2 : Int32} {v3 : Int32} {v4 : Int32} {v5 : Int32} {v7 : Int32} {t0 : Int32} {t1 : Int32} {t2 : Int32} (h : P f) : gb_pm P (ms_walks_100 n f w v1 v2 v3 v4 v5 v7 t0 t1 t2) := by
  unfold ms_walks_100
  refine pm_ck ?_
  refine pm_ltS (hW.2 _ _ _ (by decide) h) (fun f_38 hf_38 => ?_)
  refine pm_ck ?_
  refine pm_ltV (fun x_40 => ?_)
  refine pm_if ?_ ?_
  · exact cm_walks_120 hW hf_38
  · exact cm_walks_120 hW hf_38
theorem cm_walks_62 {P : gb_F → Prop} (hW : gb_sm P) {n : Nat} {f : gb_F} {w : Int64} {v1 : Int32} {v2 : Int32} {v3 : Int32} {v4 : Int32} {v5 : Int32} {v7 : Int32} {t0 : Int32} {t1 : Int32} (h : P f) : gb_pm P (ms_walks_62 n f w v1 v2 v3 v4 v5 v7 t0 t1) := by
  unfold ms_walks_62
  refine pm_ck ?_
  refine pm_ltS (hW.2 _ _ _ (by decide) h) (fun f_22 hf_22 => ?_)
  refine pm_if ?_ ?_
  · exact cm_walks_122 hW hf_22
  · refine pm_ck ?_
    refine pm_ltV (fun x_31 => ?_)
    refine pm_ck ?_
    refine pm_ltS (hW.2 _ _ _ (by decide) hf_22) (fun f_33 hf_33 => ?_)
    refine pm_ck ?_
    refine pm_ltV (fun x_35 => ?_)
    refine pm_if ?_ ?_
    · exact cm_walks_100 hW hf_33
    · exact cm_walks_100 hW hf_33
theorem cm_walks {P : gb_F → Prop} (hW : gb_sm P) {n : Nat} {f : gb_F} {w : Int64} {p1 : Int32} {p2 : Int32} {p3 : Int32} {p4 : Int32} {p5 : Int32} (h : P f) : gb_pm P (ms_walks n f w p1 p2 p3 p4 p5) := by
  unfold ms_walks
  refine pm_bd (cm_ofPath hW h) (fun f_1 wl_2 r_3 hf_1 => ?_)
  refine pm_ck ?_
  refine pm_ltV (fun x_7 => ?_)
  refine pm_bd (cm_ofGoose hW hf_1) (fun f_8 wl_9 r_10 hf_8 => ?_)
  refine pm_bd (cm_left hW hf_8) (fun f_13 wl_14 r_15 hf_13 => ?_)
  refine pm_ck ?_
  refine pm_ltV (fun x_19 => ?_)
  refine pm_if ?_ ?_
  · exact cm_walks_62 hW hf_13
  · refine pm_ck ?_
    refine pm_ltV (fun x_45 => ?_)
    exact cm_walks_62 hW hf_13
theorem cm_rains_2 {P : gb_F → Prop} (hW : gb_sm P) {n : Nat} : ∀ (mm : Nat) (f : gb_F) (w : Int64) (v1 : Int32) (v2 : Int32), P f → gb_pm P (ms_rains_2 n mm f w v1 v2) := by
  intro mm
  induction mm with
  | zero =>
    intros
    exact pm_none
  | succ mm ih =>
    intro f w v1 v2 h
    unfold ms_rains_2
    refine pm_bd (cm_paths hW h) (fun f_1 wl_2 r_3 hf_1 => ?_)
    refine pm_if ?_ ?_
    · exact pm_some hf_1
    · refine pm_ck ?_
      refine pm_ltV (fun x_8 => ?_)
      refine pm_ltV (fun x_9 => ?_)
      refine pm_ck ?_
      refine pm_ltV (fun x_11 => ?_)
      refine pm_ltV (fun x_12 => ?_)
      refine pm_ck ?_
      refine pm_ltV (fun x_14 => ?_)
      refine pm_ck ?_
      refine pm_ltS (hW.2 _ _ _ (by decide) hf_1) (fun f_16 hf_16 => ?_)
      refine pm_ck ?_
      refine pm_ltV (fun x_18 => ?_)
      refine pm_ck ?_
      refine pm_ltS (hW.2 _ _ _ (by decide) hf_16) (fun f_20 hf_20 => ?_)
      refine pm_ck ?_
      refine pm_ltV (fun x_22 => ?_)
      refine pm_ck ?_
      refine pm_ltS (hW.2 _ _ _ (by decide) hf_20) (fun f_24 hf_24 => ?_)
      refine pm_ltV (fun x_25 => ?_)
      exact ih _ _ _ _ hf_24
theorem cm_rains {P : gb_F → Prop} (hW : gb_sm P) {n : Nat} {f : gb_F} {w : Int64} {p1 : Int32} (h : P f) : gb_pm P (ms_rains n f w p1) := by
  unfold ms_rains
  exact cm_rains_2 hW _ _ _ _ _ h
theorem cm_does {P : gb_F → Prop} (hW : gb_sm P) {n : Nat} {f : gb_F} {w : Int64} {p1 : Int32} (h : P f) : gb_pm P (ms_does n f w p1) := by
  unfold ms_does
  refine pm_bd (cm_deedOf hW h) (fun f_1 wl_2 r_3 hf_1 => ?_)
  refine pm_bd (cm_deedOf hW hf_1) (fun f_6 wl_7 r_8 hf_6 => ?_)
  refine pm_bd (cm_deedOf hW hf_6) (fun f_11 wl_12 r_13 hf_11 => ?_)
  refine pm_if ?_ ?_
  · refine pm_bd (cm_walks hW hf_11) (fun f_17 wl_18 _ hf_17 => ?_)
    exact pm_some hf_17
  · refine pm_if ?_ ?_
    · refine pm_bd (cm_walks hW hf_11) (fun f_23 wl_24 _ hf_23 => ?_)
      exact pm_some hf_23
    · refine pm_if ?_ ?_
      · refine pm_bd (cm_walks hW hf_11) (fun f_29 wl_30 _ hf_29 => ?_)
        exact pm_some hf_29
      · refine pm_if ?_ ?_
        · refine pm_bd (cm_deedOf hW hf_11) (fun f_35 wl_36 r_37 hf_35 => ?_)
          refine pm_bd (cm_walks hW hf_35) (fun f_40 wl_41 _ hf_40 => ?_)
          refine pm_ck ?_
          refine pm_ltS (hW.2 _ _ _ (by decide) hf_40) (fun f_46 hf_46 => ?_)
          refine pm_bd (cm_deedOf hW hf_46) (fun f_47 wl_48 r_49 hf_47 => ?_)
          refine pm_ck ?_
          refine pm_ltS (hW.2 _ _ _ (by decide) hf_47) (fun f_53 hf_53 => ?_)
          exact pm_some hf_53
        · refine pm_if ?_ ?_
          · refine pm_ck ?_
            refine pm_ltS (hW.2 _ _ _ (by decide) hf_11) (fun f_56 hf_56 => ?_)
            refine pm_ck ?_
            refine pm_ltS (hW.2 _ _ _ (by decide) hf_56) (fun f_58 hf_58 => ?_)
            exact pm_some hf_58
          · refine pm_if ?_ ?_
            · refine pm_bd (cm_rains hW hf_11) (fun f_60 wl_61 _ hf_60 => ?_)
              exact pm_some hf_60
            · refine pm_if ?_ ?_
              · refine pm_ltS (hW.1 _ _ hf_11) (fun f_66 hf_66 => ?_)
                exact pm_some hf_66
              · refine pm_if ?_ ?_
                · refine pm_ltS (hW.1 _ _ hf_11) (fun f_68 hf_68 => ?_)
                  exact pm_some hf_68
                · refine pm_bd (cm_foxed hW hf_11) (fun f_69 wl_70 r_71 hf_69 => ?_)
                  refine pm_ck ?_
                  refine pm_ltS (hW.2 _ _ _ (by decide) hf_69) (fun f_75 hf_75 => ?_)
                  exact pm_some hf_75
theorem cm_areTold {P : gb_F → Prop} (hW : gb_sm P) {n : Nat} {f : gb_F} {w : Int64} {p1 : Int32} {p2 : Int32} (h : P f) : gb_pm P (ms_areTold n f w p1 p2) := by
  unfold ms_areTold
  refine pm_bd (cm_isBorder hW h) (fun f_1 wl_2 r_3 hf_1 => ?_)
  refine pm_if ?_ ?_
  · exact pm_some hf_1
  · refine pm_bd (cm_isOf hW hf_1) (fun f_7 wl_8 r_9 hf_7 => ?_)
    refine pm_if ?_ ?_
    · exact pm_some hf_7
    · refine pm_bd (cm_placeOf hW hf_7) (fun f_13 wl_14 r_15 hf_13 => ?_)
      refine pm_ltS (hW.1 _ _ hf_13) (fun f_18 hf_18 => ?_)
      refine pm_ltS (hW.1 _ _ hf_18) (fun f_19 hf_19 => ?_)
      exact pm_some hf_19
theorem cm_runs_4 {P : gb_F → Prop} (hW : gb_sm P) {n : Nat} : ∀ (mm : Nat) (f : gb_F) (w : Int64) (v1 : Int32), P f → gb_pm P (ms_runs_4 n mm f w v1) := by
  intro mm
  induction mm with
  | zero =>
    intros
    exact pm_none
  | succ mm ih =>
    intro f w v1 h
    unfold ms_runs_4
    refine pm_if ?_ ?_
    · exact pm_some h
    · refine pm_bd (cm_deeds hW h) (fun f_7 wl_8 r_9 hf_7 => ?_)
      refine pm_if ?_ ?_
      · exact pm_some hf_7
      · refine pm_bd (cm_can hW hf_7) (fun f_13 wl_14 r_15 hf_13 => ?_)
        refine pm_if ?_ ?_
        · exact pm_some hf_13
        · refine pm_bd (cm_does hW hf_13) (fun f_19 wl_20 _ hf_19 => ?_)
          refine pm_ltS (hW.1 _ _ hf_19) (fun f_24 hf_24 => ?_)
          exact ih _ _ _ hf_24
theorem cm_runs {P : gb_F → Prop} (hW : gb_sm P) {n : Nat} {f : gb_F} {w : Int64} {p1 : Int32} (h : P f) : gb_pm P (ms_runs n f w p1) := by
  unfold ms_runs
  refine pm_bd (cm_begins hW h) (fun f_1 wl_2 _ hf_1 => ?_)
  exact cm_runs_4 hW _ _ _ _ hf_1
theorem cm_stop {P : gb_F → Prop} (hW : gb_sm P) {n : Nat} {f : gb_F} {w : Int64} {p1 : Int32} {p2 : Int32} (h : P f) : gb_pm P (ms_stop n f w p1 p2) := by
  unfold ms_stop
  refine pm_bd (cm_areTold hW h) (fun f_1 wl_2 r_3 hf_1 => ?_)
  refine pm_if ?_ ?_
  · exact pm_some hf_1
  · refine pm_bd (cm_runs hW hf_1) (fun f_7 wl_8 _ hf_7 => ?_)
    exact pm_some hf_7
theorem cm_isState {P : gb_F → Prop} (hW : gb_sm P) {n : Nat} {f : gb_F} {w : Int64} {p1 : Int32} {p2 : Int32} {p3 : Int32} (h : P f) : gb_pm P (ms_isState n f w p1 p2 p3) := by
  unfold ms_isState
  refine pm_bd (cm_areTold hW h) (fun f_1 wl_2 r_3 hf_1 => ?_)
  refine pm_if ?_ ?_
  · exact pm_some hf_1
  · refine pm_if ?_ ?_
    · refine pm_bd (cm_runs hW hf_1) (fun f_8 wl_9 _ hf_8 => ?_)
      refine pm_if ?_ ?_
      · exact pm_some hf_8
      · exact pm_some hf_8
    · exact pm_some hf_1
theorem cm_goose {P : gb_F → Prop} (hW : gb_sm P) {n : Nat} {f : gb_F} {w : Int64} {p1 : Int32} {p2 : Int32} {p3 : Int32} {p4 : Int32} {p5 : Int32} (h : P f) : gb_pm P (ms_goose n f w p1 p2 p3 p4 p5) := by
  unfold ms_goose
  refine pm_bd (cm_isState hW h) (fun f_1 wl_2 r_3 hf_1 => ?_)
  refine pm_if ?_ ?_
  · exact pm_some hf_1
  · refine pm_bd (cm_isGoose hW hf_1) (fun f_7 wl_8 r_9 hf_7 => ?_)
    refine pm_if ?_ ?_
    · exact pm_some hf_7
    · refine pm_if ?_ ?_
      · refine pm_ck ?_
        refine pm_ltV (fun x_24 => ?_)
        exact pm_some hf_7
      · refine pm_if ?_ ?_
        · refine pm_ck ?_
          refine pm_ltV (fun x_22 => ?_)
          exact pm_some hf_7
        · refine pm_if ?_ ?_
          · refine pm_ck ?_
            refine pm_ltV (fun x_20 => ?_)
            exact pm_some hf_7
          · refine pm_if ?_ ?_
            · refine pm_ck ?_
              refine pm_ltV (fun x_18 => ?_)
              exact pm_some hf_7
            · exact pm_some hf_7
theorem cm_tally {P : gb_F → Prop} (hW : gb_sm P) {n : Nat} {f : gb_F} {w : Int64} {p1 : Int32} (h : P f) : gb_pm P (ms_tally n f w p1) := by
  unfold ms_tally
  refine pm_ck ?_
  refine pm_ltV (fun x_2 => ?_)
  refine pm_ck ?_
  refine pm_ltV (fun x_4 => ?_)
  refine pm_if ?_ ?_
  · exact pm_some h
  · refine pm_ck ?_
    refine pm_ltV (fun x_7 => ?_)
    refine pm_ck ?_
    refine pm_ltV (fun x_9 => ?_)
    exact pm_some h
theorem cm_padded {P : gb_F → Prop} (hW : gb_sm P) {n : Nat} {f : gb_F} {w : Int64} {p1 : Int32} {p2 : Int32} (h : P f) : gb_pm P (ms_padded n f w p1 p2) := by
  unfold ms_padded
  refine pm_bd (cm_ofPath hW h) (fun f_1 wl_2 r_3 hf_1 => ?_)
  refine pm_ltV (fun x_6 => ?_)
  exact pm_some hf_1
theorem cm_pay {P : gb_F → Prop} (hW : gb_sm P) {n : Nat} {f : gb_F} {w : Int64} {p1 : Int32} (h : P f) : gb_pm P (ms_pay n f w p1) := by
  unfold ms_pay
  refine pm_bd (cm_ofPath hW h) (fun f_1 wl_2 r_3 hf_1 => ?_)
  refine pm_bd (cm_tally hW hf_1) (fun f_6 wl_7 r_8 hf_6 => ?_)
  refine pm_bd (cm_padded hW hf_6) (fun f_11 wl_12 r_13 hf_11 => ?_)
  exact pm_some hf_11
theorem cm_allPay_4 {P : gb_F → Prop} (hW : gb_sm P) {n : Nat} : ∀ (mm : Nat) (f : gb_F) (w : Int64) (v1 : Int32) (v2 : Int32), P f → gb_pm P (ms_allPay_4 n mm f w v1 v2) := by
  intro mm
  induction mm with
  | zero =>
    intros
    exact pm_none
  | succ mm ih =>
    intro f w v1 v2 h
    unfold ms_allPay_4
    refine pm_bd (cm_paths hW h) (fun f_1 wl_2 r_3 hf_1 => ?_)
    refine pm_if ?_ ?_
    · exact pm_some hf_1
    · refine pm_bd (cm_pay hW hf_1) (fun f_7 wl_8 r_9 hf_7 => ?_)
      refine pm_ltV (fun x_12 => ?_)
      refine pm_ltV (fun x_13 => ?_)
      exact ih _ _ _ _ hf_7
theorem cm_allPay {P : gb_F → Prop} (hW : gb_sm P) {n : Nat} {f : gb_F} {w : Int64} (h : P f) : gb_pm P (ms_allPay n f w) := by
  unfold ms_allPay
  exact cm_allPay_4 hW _ _ _ _ _ h
theorem cm_path {P : gb_F → Prop} (hW : gb_sm P) {n : Nat} {f : gb_F} {w : Int64} {p1 : Int32} {p2 : Int32} {p3 : Int32} {p4 : Int32} {p5 : Int32} (h : P f) : gb_pm P (ms_path n f w p1 p2 p3 p4 p5) := by
  unfold ms_path
  refine pm_bd (cm_isState hW h) (fun f_1 wl_2 r_3 hf_1 => ?_)
  refine pm_if ?_ ?_
  · exact pm_some hf_1
  · refine pm_bd (cm_isPath hW hf_1) (fun f_7 wl_8 r_9 hf_7 => ?_)
    refine pm_if ?_ ?_
    · exact pm_some hf_7
    · refine pm_if ?_ ?_
      · refine pm_ck ?_
        refine pm_ltV (fun x_15 => ?_)
        exact pm_some hf_7
      · refine pm_if ?_ ?_
        · refine pm_ck ?_
          refine pm_ltV (fun x_18 => ?_)
          exact pm_some hf_7
        · refine pm_if ?_ ?_
          · refine pm_bd (cm_tally hW hf_7) (fun f_20 wl_21 r_22 hf_20 => ?_)
            exact pm_some hf_20
          · refine pm_if ?_ ?_
            · refine pm_bd (cm_tally hW hf_7) (fun f_26 wl_27 r_28 hf_26 => ?_)
              refine pm_bd (cm_padded hW hf_26) (fun f_31 wl_32 r_33 hf_31 => ?_)
              exact pm_some hf_31
            · refine pm_if ?_ ?_
              · refine pm_bd (cm_pay hW hf_7) (fun f_37 wl_38 r_39 hf_37 => ?_)
                exact pm_some hf_37
              · refine pm_if ?_ ?_
                · refine pm_ck ?_
                  refine pm_ltV (fun x_44 => ?_)
                  exact pm_some hf_7
                · exact pm_some hf_7
theorem cm_worn_4 {P : gb_F → Prop} (hW : gb_sm P) {n : Nat} : ∀ (mm : Nat) (f : gb_F) (w : Int64) (v1 : Int32) (v2 : Int32), P f → gb_pm P (ms_worn_4 n mm f w v1 v2) := by
  intro mm
  induction mm with
  | zero =>
    intros
    exact pm_none
  | succ mm ih =>
    intro f w v1 v2 h
    unfold ms_worn_4
    refine pm_bd (cm_geese hW h) (fun f_1 wl_2 r_3 hf_1 => ?_)
    refine pm_if ?_ ?_
    · exact pm_some hf_1
    · refine pm_ck ?_
      refine pm_ltV (fun x_8 => ?_)
      refine pm_if ?_ ?_
      · refine pm_ltV (fun x_10 => ?_)
        refine pm_ltV (fun x_11 => ?_)
        exact ih _ _ _ _ hf_1
      · refine pm_ck ?_
        refine pm_ltV (fun x_13 => ?_)
        refine pm_if ?_ ?_
        · refine pm_ltV (fun x_17 => ?_)
          refine pm_ltV (fun x_18 => ?_)
          exact ih _ _ _ _ hf_1
        · refine pm_ltV (fun x_15 => ?_)
          refine pm_ltV (fun x_16 => ?_)
          exact ih _ _ _ _ hf_1
theorem cm_worn {P : gb_F → Prop} (hW : gb_sm P) {n : Nat} {f : gb_F} {w : Int64} (h : P f) : gb_pm P (ms_worn n f w) := by
  unfold ms_worn
  exact cm_worn_4 hW _ _ _ _ _ h
theorem cm_state_112 {P : gb_F → Prop} (hW : gb_sm P) {n : Nat} {k79 : gb_F → Int64 → Int32 → Int32 → Int32 → Int32 → gb_MR Int32} (h_k79 : ∀ (s : gb_F) (x1 : Int64) (x2 : Int32) (x3 : Int32) (x4 : Int32) (x5 : Int32), P s → gb_pm P (k79 s x1 x2 x3 x4 x5)) {f : gb_F} {w : Int64} {v4 : Int32} {v6 : Int32} {v7 : Int32} {t0 : Int32} {t1 : Int32} (h : P f) : gb_pm P (ms_state_112 n k79 f w v4 v6 v7 t0 t1) := by
  unfold ms_state_112
  refine pm_ltV (fun x_27 => ?_)
  refine pm_ck ?_
  refine pm_ltV (fun x_29 => ?_)
  refine pm_ltV (fun x_30 => ?_)
  refine pm_if ?_ ?_
  · refine pm_bd (cm_ofGoose hW h) (fun f_34 wl_35 r_36 hf_34 => ?_)
    refine pm_ltV (fun x_39 => ?_)
    refine pm_ltV (fun x_40 => ?_)
    exact h_k79 _ _ _ _ _ _ hf_34
  · refine pm_ltV (fun x_32 => ?_)
    refine pm_ltV (fun x_33 => ?_)
    exact h_k79 _ _ _ _ _ _ h
theorem cm_state_79 {P : gb_F → Prop} (hW : gb_sm P) {n : Nat} : ∀ (mm : Nat) (f : gb_F) (w : Int64) (v4 : Int32) (v5 : Int32) (v6 : Int32) (v7 : Int32), P f → gb_pm P (ms_state_79 n mm f w v4 v5 v6 v7) := by
  intro mm
  induction mm with
  | zero =>
    intros
    exact pm_none
  | succ mm ih =>
    intro f w v4 v5 v6 v7 h
    unfold ms_state_79
    refine pm_bd (cm_geese hW h) (fun f_16 wl_17 r_18 hf_16 => ?_)
    refine pm_if ?_ ?_
    · refine pm_if ?_ ?_
      · exact pm_some hf_16
      · exact pm_some hf_16
    · refine pm_ck ?_
      refine pm_ltV (fun x_24 => ?_)
      refine pm_ltV (fun x_25 => ?_)
      refine pm_if ?_ ?_
      · refine cm_state_112 hW ?_ hf_16
        · intro f w v4 v5 v6 v7 hf
          exact ih _ _ _ _ _ _ hf
      · refine cm_state_112 hW ?_ hf_16
        · intro f w v4 v5 v6 v7 hf
          exact ih _ _ _ _ _ _ hf
theorem cm_state {P : gb_F → Prop} (hW : gb_sm P) {n : Nat} {f : gb_F} {w : Int64} {p1 : Int32} {p2 : Int32} {p3 : Int32} {p4 : Int32} (h : P f) : gb_pm P (ms_state n f w p1 p2 p3 p4) := by
  unfold ms_state
  refine pm_bd (cm_isState hW h) (fun f_1 wl_2 r_3 hf_1 => ?_)
  refine pm_if ?_ ?_
  · exact pm_some hf_1
  · refine pm_if ?_ ?_
    · refine pm_bd (cm_worn hW hf_1) (fun f_47 wl_48 r_49 hf_47 => ?_)
      exact pm_some hf_47
    · refine pm_if ?_ ?_
      · refine pm_bd (cm_allPay hW hf_1) (fun f_42 wl_43 r_44 hf_42 => ?_)
        exact pm_some hf_42
      · refine pm_if ?_ ?_
        · refine pm_if ?_ ?_
          · exact pm_some hf_1
          · exact pm_some hf_1
        · refine pm_bd (cm_isIn hW hf_1) (fun f_10 wl_11 r_12 hf_10 => ?_)
          refine pm_if ?_ ?_
          · exact pm_some hf_10
          · exact cm_state_79 hW _ _ _ _ _ _ _ hf_10
theorem cm_termOf {P : gb_F → Prop} (hW : gb_sm P) {n : Nat} {f : gb_F} {w : Int64} {p1 : Int32} {p2 : Int32} (h : P f) : gb_pm P (ms_termOf n f w p1 p2) := by
  unfold ms_termOf
  refine pm_ck ?_
  refine pm_ltV (fun x_2 => ?_)
  exact pm_some h
theorem cm_term {P : gb_F → Prop} (hW : gb_sm P) {n : Nat} {f : gb_F} {w : Int64} {p1 : Int32} {p2 : Int32} {p3 : Int32} (h : P f) : gb_pm P (ms_term n f w p1 p2 p3) := by
  unfold ms_term
  refine pm_bd (cm_isOf hW h) (fun f_1 wl_2 r_3 hf_1 => ?_)
  refine pm_if ?_ ?_
  · exact pm_some hf_1
  · refine pm_bd (cm_placeOf hW hf_1) (fun f_7 wl_8 r_9 hf_7 => ?_)
    refine pm_ltS (hW.1 _ _ hf_7) (fun f_12 hf_12 => ?_)
    refine pm_if ?_ ?_
    · refine pm_if ?_ ?_
      · refine pm_ck ?_
        refine pm_ltV (fun x_35 => ?_)
        exact pm_some hf_12
      · exact pm_some hf_12
    · refine pm_ck ?_
      refine pm_ltV (fun x_15 => ?_)
      refine pm_bd (cm_isIn hW hf_12) (fun f_16 wl_17 r_18 hf_16 => ?_)
      refine pm_if ?_ ?_
      · exact pm_some hf_16
      · refine pm_bd (cm_isIn hW hf_16) (fun f_22 wl_23 r_24 hf_22 => ?_)
        refine pm_if ?_ ?_
        · exact pm_some hf_22
        · refine pm_bd (cm_termOf hW hf_22) (fun f_28 wl_29 r_30 hf_28 => ?_)
          exact pm_some hf_28
theorem cm_paysBy_4 {P : gb_F → Prop} (hW : gb_sm P) {n : Nat} : ∀ (mm : Nat) (f : gb_F) (w : Int64) (v1 : Int32) (v2 : Int32) (v3 : Int32), P f → gb_pm P (ms_paysBy_4 n mm f w v1 v2 v3) := by
  intro mm
  induction mm with
  | zero =>
    intros
    exact pm_none
  | succ mm ih =>
    intro f w v1 v2 v3 h
    unfold ms_paysBy_4
    refine pm_ck ?_
    refine pm_ltV (fun x_2 => ?_)
    refine pm_if ?_ ?_
    · exact pm_some h
    · refine pm_bd (cm_termOf hW h) (fun f_4 wl_5 r_6 hf_4 => ?_)
      refine pm_bd (cm_termOf hW hf_4) (fun f_9 wl_10 r_11 hf_9 => ?_)
      refine pm_bd (cm_termOf hW hf_9) (fun f_14 wl_15 r_16 hf_14 => ?_)
      refine pm_if ?_ ?_
      · refine pm_ltV (fun x_20 => ?_)
        refine pm_ltV (fun x_21 => ?_)
        exact ih _ _ _ _ _ hf_14
      · refine pm_if ?_ ?_
        · refine pm_if ?_ ?_
          · refine pm_ltV (fun x_24 => ?_)
            refine pm_ltV (fun x_25 => ?_)
            exact ih _ _ _ _ _ hf_14
          · refine pm_ltV (fun x_26 => ?_)
            refine pm_ltV (fun x_27 => ?_)
            exact ih _ _ _ _ _ hf_14
        · refine pm_if ?_ ?_
          · refine pm_if ?_ ?_
            · refine pm_ltV (fun x_30 => ?_)
              refine pm_ltV (fun x_31 => ?_)
              exact ih _ _ _ _ _ hf_14
            · refine pm_ltV (fun x_32 => ?_)
              refine pm_ltV (fun x_33 => ?_)
              exact ih _ _ _ _ _ hf_14
          · refine pm_if ?_ ?_
            · refine pm_ltV (fun x_35 => ?_)
              refine pm_if ?_ ?_
              · refine pm_ltV (fun x_39 => ?_)
                refine pm_ltV (fun x_40 => ?_)
                exact ih _ _ _ _ _ hf_14
              · refine pm_ltV (fun x_37 => ?_)
                refine pm_ltV (fun x_38 => ?_)
                exact ih _ _ _ _ _ hf_14
            · refine pm_if ?_ ?_
              · refine pm_ltV (fun x_42 => ?_)
                exact ih _ _ _ _ _ hf_14
              · refine pm_ltV (fun x_43 => ?_)
                exact ih _ _ _ _ _ hf_14
theorem cm_paysBy {P : gb_F → Prop} (hW : gb_sm P) {n : Nat} {f : gb_F} {w : Int64} {p1 : Int32} (h : P f) : gb_pm P (ms_paysBy n f w p1) := by
  unfold ms_paysBy
  exact cm_paysBy_4 hW _ _ _ _ _ _ h
theorem cm_pays {P : gb_F → Prop} (hW : gb_sm P) {n : Nat} {f : gb_F} {w : Int64} {p1 : Int32} {p2 : Int32} (h : P f) : gb_pm P (ms_pays n f w p1 p2) := by
  unfold ms_pays
  refine pm_bd (cm_isOf hW h) (fun f_1 wl_2 r_3 hf_1 => ?_)
  refine pm_if ?_ ?_
  · exact pm_some hf_1
  · refine pm_bd (cm_isIn hW hf_1) (fun f_7 wl_8 r_9 hf_7 => ?_)
    refine pm_if ?_ ?_
    · exact pm_some hf_7
    · refine pm_bd (cm_placeOf hW hf_7) (fun f_13 wl_14 r_15 hf_13 => ?_)
      refine pm_ltS (hW.1 _ _ hf_13) (fun f_18 hf_18 => ?_)
      refine pm_bd (cm_paysBy hW hf_18) (fun f_19 wl_20 r_21 hf_19 => ?_)
      exact pm_some hf_19
theorem cm_measures_12 {P : gb_F → Prop} (hW : gb_sm P) {n : Nat} {k2 : gb_F → Int64 → Int32 → gb_MR Unit} (h_k2 : ∀ (s : gb_F) (x1 : Int64) (x2 : Int32), P s → gb_pm P (k2 s x1 x2)) : ∀ (mm : Nat) (f : gb_F) (w : Int64) (v1 : Int32) (v2 : Int32), P f → gb_pm P (ms_measures_12 n k2 mm f w v1 v2) := by
  intro mm
  induction mm with
  | zero =>
    intros
    exact pm_none
  | succ mm ih =>
    intro f w v1 v2 h
    unfold ms_measures_12
    refine pm_bd (cm_paths hW h) (fun f_7 wl_8 r_9 hf_7 => ?_)
    refine pm_if ?_ ?_
    · refine pm_ltV (fun x_13 => ?_)
      exact h_k2 _ _ _ hf_7
    · refine pm_bd (cm_firstMarks hW hf_7) (fun f_14 wl_15 r_16 hf_14 => ?_)
      refine pm_ck ?_
      refine pm_ltS (hW.2 _ _ _ (by decide) hf_14) (fun f_20 hf_20 => ?_)
      refine pm_ltV (fun x_21 => ?_)
      exact ih _ _ _ _ hf_20
theorem cm_measures_2 {P : gb_F → Prop} (hW : gb_sm P) {n : Nat} : ∀ (mm : Nat) (f : gb_F) (w : Int64) (v1 : Int32), P f → gb_pm P (ms_measures_2 n mm f w v1) := by
  intro mm
  induction mm with
  | zero =>
    intros
    exact pm_none
  | succ mm ih =>
    intro f w v1 h
    unfold ms_measures_2
    refine pm_bd (cm_geese hW h) (fun f_1 wl_2 r_3 hf_1 => ?_)
    refine pm_if ?_ ?_
    · exact pm_some hf_1
    · refine cm_measures_12 hW ?_ _ _ _ _ _ hf_1
      · intro f w v1 hf
        exact ih _ _ _ hf
theorem cm_measures {P : gb_F → Prop} (hW : gb_sm P) {n : Nat} {f : gb_F} {w : Int64} (h : P f) : gb_pm P (ms_measures n f w) := by
  unfold ms_measures
  exact cm_measures_2 hW _ _ _ _ h
theorem cm_codes_4 {P : gb_F → Prop} (hW : gb_sm P) {n : Nat} : ∀ (mm : Nat) (f : gb_F) (w : Int64) (v1 : Int32) (v2 : Int32), P f → gb_pm P (ms_codes_4 n mm f w v1 v2) := by
  intro mm
  induction mm with
  | zero =>
    intros
    exact pm_none
  | succ mm ih =>
    intro f w v1 v2 h
    unfold ms_codes_4
    refine pm_bd (cm_geese hW h) (fun f_1 wl_2 r_3 hf_1 => ?_)
    refine pm_if ?_ ?_
    · exact pm_some hf_1
    · refine pm_bd (cm_paths hW hf_1) (fun f_7 wl_8 r_9 hf_7 => ?_)
      refine pm_ltV (fun x_12 => ?_)
      refine pm_ltV (fun x_13 => ?_)
      exact ih _ _ _ _ hf_7
theorem cm_codes {P : gb_F → Prop} (hW : gb_sm P) {n : Nat} {f : gb_F} {w : Int64} (h : P f) : gb_pm P (ms_codes n f w) := by
  unfold ms_codes
  exact cm_codes_4 hW _ _ _ _ _ h
theorem cm_sums_29 {P : gb_F → Prop} (hW : gb_sm P) {n : Nat} : ∀ (mm : Nat) (f : gb_F) (w : Int64) (v2 : Int32) (v3 : Int32), P f → gb_pm P (ms_sums_29 n mm f w v2 v3) := by
  intro mm
  induction mm with
  | zero =>
    intros
    exact pm_none
  | succ mm ih =>
    intro f w v2 v3 h
    unfold ms_sums_29
    refine pm_if ?_ ?_
    · exact pm_some h
    · refine pm_bd (cm_paths hW h) (fun f_9 wl_10 r_11 hf_9 => ?_)
      refine pm_nz ?_
      refine pm_ltV (fun x_15 => ?_)
      refine pm_ck ?_
      refine pm_ltV (fun x_17 => ?_)
      refine pm_bd (cm_paths hW hf_9) (fun f_18 wl_19 r_20 hf_18 => ?_)
      refine pm_nz ?_
      refine pm_ltV (fun x_24 => ?_)
      refine pm_ck ?_
      refine pm_ltV (fun x_26 => ?_)
      refine pm_ck ?_
      refine pm_ltS (hW.2 _ _ _ (by decide) hf_18) (fun f_28 hf_28 => ?_)
      refine pm_bd (cm_paths hW hf_28) (fun f_29 wl_30 r_31 hf_29 => ?_)
      refine pm_nz ?_
      refine pm_ltV (fun x_35 => ?_)
      refine pm_ltV (fun x_36 => ?_)
      exact ih _ _ _ _ hf_29
theorem cm_sums_2 {P : gb_F → Prop} (hW : gb_sm P) {n : Nat} : ∀ (mm : Nat) (f : gb_F) (w : Int64) (v1 : Int32) (v2 : Int32), P f → gb_pm P (ms_sums_2 n mm f w v1 v2) := by
  intro mm
  induction mm with
  | zero =>
    intros
    exact pm_none
  | succ mm ih =>
    intro f w v1 v2 h
    unfold ms_sums_2
    refine pm_if ?_ ?_
    · refine pm_bd (cm_geese hW h) (fun f_2 wl_3 r_4 hf_2 => ?_)
      refine pm_ltV (fun x_7 => ?_)
      exact cm_sums_29 hW _ _ _ _ _ hf_2
    · refine pm_ck ?_
      refine pm_ltS (hW.2 _ _ _ (by decide) h) (fun f_38 hf_38 => ?_)
      refine pm_ltV (fun x_39 => ?_)
      exact ih _ _ _ _ hf_38
theorem cm_sums {P : gb_F → Prop} (hW : gb_sm P) {n : Nat} {f : gb_F} {w : Int64} {p1 : Int32} (h : P f) : gb_pm P (ms_sums n f w p1) := by
  unfold ms_sums
  exact cm_sums_2 hW _ _ _ _ _ h
theorem cm_payOf {P : gb_F → Prop} (hW : gb_sm P) {n : Nat} {f : gb_F} {w : Int64} {p1 : Int32} (h : P f) : gb_pm P (ms_payOf n f w p1) := by
  unfold ms_payOf
  refine pm_bd (cm_ofPath hW h) (fun f_1 wl_2 r_3 hf_1 => ?_)
  refine pm_ck ?_
  refine pm_ltV (fun x_7 => ?_)
  refine pm_bd (cm_padded hW hf_1) (fun f_8 wl_9 r_10 hf_8 => ?_)
  exact pm_some hf_8
theorem cm_worthOf_76 {P : gb_F → Prop} (hW : gb_sm P) {n : Nat} {k24 : gb_F → Int64 → Int32 → Int32 → Int32 → Int32 → Int32 → gb_MR Int32} (h_k24 : ∀ (s : gb_F) (x1 : Int64) (x2 : Int32) (x3 : Int32) (x4 : Int32) (x5 : Int32) (x6 : Int32), P s → gb_pm P (k24 s x1 x2 x3 x4 x5 x6)) {f : gb_F} {w : Int64} {v2 : Int32} {v3 : Int32} {v5 : Int32} {v6 : Int32} {t0 : Int32} (h : P f) : gb_pm P (ms_worthOf_76 n k24 f w v2 v3 v5 v6 t0) := by
  unfold ms_worthOf_76
  refine pm_if ?_ ?_
  · refine pm_ltV (fun x_36 => ?_)
    exact h_k24 _ _ _ _ _ _ _ h
  · refine pm_ck ?_
    refine pm_ltV (fun x_38 => ?_)
    refine pm_bd (cm_padded hW h) (fun f_39 wl_40 r_41 hf_39 => ?_)
    refine pm_bd (cm_paysBy hW hf_39) (fun f_44 wl_45 r_46 hf_44 => ?_)
    refine pm_ltV (fun x_49 => ?_)
    refine pm_ltV (fun x_50 => ?_)
    exact h_k24 _ _ _ _ _ _ _ hf_44
theorem cm_worthOf_53 {P : gb_F → Prop} (hW : gb_sm P) {n : Nat} {k24 : gb_F → Int64 → Int32 → Int32 → Int32 → Int32 → Int32 → gb_MR Int32} (h_k24 : ∀ (s : gb_F) (x1 : Int64) (x2 : Int32) (x3 : Int32) (x4 : Int32) (x5 : Int32) (x6 : Int32), P s → gb_pm P (k24 s x1 x2 x3 x4 x5 x6)) {f : gb_F} {w : Int64} {v2 : Int32} {v4 : Int32} {v5 : Int32} {v6 : Int32} {t0 : Int32} (h : P f) : gb_pm P (ms_worthOf_53 n k24 f w v2 v4 v5 v6 t0) := by
  unfold ms_worthOf_53
  refine pm_bd (cm_payOf hW h) (fun f_29 wl_30 r_31 hf_29 => ?_)
  refine pm_if ?_ ?_
  · exact cm_worthOf_76 hW h_k24 hf_29
  · refine pm_bd (cm_payOf hW hf_29) (fun f_51 wl_52 r_53 hf_51 => ?_)
    exact cm_worthOf_76 hW h_k24 hf_51
theorem cm_worthOf_24 {P : gb_F → Prop} (hW : gb_sm P) {n : Nat} : ∀ (mm : Nat) (f : gb_F) (w : Int64) (v2 : Int32) (v3 : Int32) (v4 : Int32) (v5 : Int32) (v6 : Int32), P f → gb_pm P (ms_worthOf_24 n mm f w v2 v3 v4 v5 v6) := by
  intro mm
  induction mm with
  | zero =>
    intros
    exact pm_none
  | succ mm ih =>
    intro f w v2 v3 v4 v5 v6 h
    unfold ms_worthOf_24
    refine pm_bd (cm_paths hW h) (fun f_16 wl_17 r_18 hf_16 => ?_)
    refine pm_if ?_ ?_
    · refine pm_if ?_ ?_
      · exact pm_some hf_16
      · exact pm_some hf_16
    · refine pm_bd (cm_payOf hW hf_16) (fun f_23 wl_24 r_25 hf_23 => ?_)
      refine pm_if ?_ ?_
      · refine cm_worthOf_53 hW ?_ hf_23
        · intro f w v2 v3 v4 v5 v6 hf
          exact ih _ _ _ _ _ _ _ hf
      · refine pm_bd (cm_payOf hW hf_23) (fun f_56 wl_57 r_58 hf_56 => ?_)
        refine cm_worthOf_53 hW ?_ hf_56
        · intro f w v2 v3 v4 v5 v6 hf
          exact ih _ _ _ _ _ _ _ hf
theorem cm_worthOf {P : gb_F → Prop} (hW : gb_sm P) {n : Nat} {f : gb_F} {w : Int64} {p1 : Int32} {p2 : Int32} (h : P f) : gb_pm P (ms_worthOf n f w p1 p2) := by
  unfold ms_worthOf
  refine pm_bd (cm_sums hW h) (fun f_1 wl_2 _ hf_1 => ?_)
  refine pm_bd (cm_payOf hW hf_1) (fun f_6 wl_7 r_8 hf_6 => ?_)
  refine pm_bd (cm_payOf hW hf_6) (fun f_11 wl_12 r_13 hf_11 => ?_)
  exact cm_worthOf_24 hW _ _ _ _ _ _ _ _ hf_11
theorem cm_bestWorth_13 {P : gb_F → Prop} (hW : gb_sm P) {n : Nat} : ∀ (mm : Nat) (f : gb_F) (w : Int64) (v1 : Int32) (v2 : Int32) (v3 : Int32), P f → gb_pm P (ms_bestWorth_13 n mm f w v1 v2 v3) := by
  intro mm
  induction mm with
  | zero =>
    intros
    exact pm_none
  | succ mm ih =>
    intro f w v1 v2 v3 h
    unfold ms_bestWorth_13
    refine pm_bd (cm_codes hW h) (fun f_7 wl_8 r_9 hf_7 => ?_)
    refine pm_if ?_ ?_
    · exact pm_some hf_7
    · refine pm_bd (cm_worthOf hW hf_7) (fun f_13 wl_14 r_15 hf_13 => ?_)
      refine pm_if ?_ ?_
      · refine pm_ltS (hW.1 _ _ hf_13) (fun f_19 hf_19 => ?_)
        refine pm_ltV (fun x_20 => ?_)
        exact ih _ _ _ _ _ hf_19
      · refine pm_if ?_ ?_
        · refine pm_if ?_ ?_
          · refine pm_ltS (hW.1 _ _ hf_13) (fun f_23 hf_23 => ?_)
            refine pm_ltV (fun x_24 => ?_)
            exact ih _ _ _ _ _ hf_23
          · refine pm_ltV (fun x_25 => ?_)
            exact ih _ _ _ _ _ hf_13
        · refine pm_if ?_ ?_
          · refine pm_ltS (hW.1 _ _ hf_13) (fun f_27 hf_27 => ?_)
            refine pm_ltV (fun x_28 => ?_)
            exact ih _ _ _ _ _ hf_27
          · refine pm_ltV (fun x_29 => ?_)
            exact ih _ _ _ _ _ hf_13
theorem cm_bestWorth {P : gb_F → Prop} (hW : gb_sm P) {n : Nat} {f : gb_F} {w : Int64} {p1 : Int32} (h : P f) : gb_pm P (ms_bestWorth n f w p1) := by
  unfold ms_bestWorth
  refine pm_bd (cm_measures hW h) (fun f_1 wl_2 _ hf_1 => ?_)
  refine pm_ltS (hW.1 _ _ hf_1) (fun f_6 hf_6 => ?_)
  exact cm_bestWorth_13 hW _ _ _ _ _ _ hf_6
theorem cm_canMarch {P : gb_F → Prop} (hW : gb_sm P) {n : Nat} {f : gb_F} {w : Int64} {p1 : Int32} (h : P f) : gb_pm P (ms_canMarch n f w p1) := by
  unfold ms_canMarch
  refine pm_bd (cm_isBorder hW h) (fun f_1 wl_2 r_3 hf_1 => ?_)
  refine pm_if ?_ ?_
  · exact pm_some hf_1
  · refine pm_bd (cm_geese hW hf_1) (fun f_7 wl_8 r_9 hf_7 => ?_)
    refine pm_if ?_ ?_
    · exact pm_some hf_7
    · refine pm_bd (cm_paths hW hf_7) (fun f_13 wl_14 r_15 hf_13 => ?_)
      refine pm_if ?_ ?_
      · exact pm_some hf_13
      · exact pm_some hf_13
theorem cm_figure_12 {P : gb_F → Prop} (hW : gb_sm P) {n : Nat} : ∀ (mm : Nat) (f : gb_F) (w : Int64) (v1 : Int32) (v2 : Int32) (v3 : Int32), P f → gb_pm P (ms_figure_12 n mm f w v1 v2 v3) := by
  intro mm
  induction mm with
  | zero =>
    intros
    exact pm_none
  | succ mm ih =>
    intro f w v1 v2 v3 h
    unfold ms_figure_12
    refine pm_if ?_ ?_
    · refine pm_bd (cm_paths hW h) (fun f_9 wl_10 r_11 hf_9 => ?_)
      refine pm_nz ?_
      refine pm_ltV (fun x_15 => ?_)
      exact pm_some hf_9
    · refine pm_bd (cm_paths hW h) (fun f_16 wl_17 r_18 hf_16 => ?_)
      refine pm_nz ?_
      refine pm_ltV (fun x_22 => ?_)
      refine pm_ltV (fun x_23 => ?_)
      exact ih _ _ _ _ _ hf_16
theorem cm_figure {P : gb_F → Prop} (hW : gb_sm P) {n : Nat} {f : gb_F} {w : Int64} {p1 : Int32} (h : P f) : gb_pm P (ms_figure n f w p1) := by
  unfold ms_figure
  refine pm_ltV (fun x_1 => ?_)
  refine pm_bd (cm_geese hW h) (fun f_2 wl_3 r_4 hf_2 => ?_)
  refine pm_ltV (fun x_7 => ?_)
  exact cm_figure_12 hW _ _ _ _ _ _ hf_2
theorem cm_even_36 {P : gb_F → Prop} (hW : gb_sm P) {n : Nat} {f : gb_F} {w : Int64} {v2 : Int32} (h : P f) : gb_pm P (ms_even_36 n f w v2) := by
  unfold ms_even_36
  refine pm_bd (cm_bestWorth hW h) (fun f_8 wl_9 r_10 hf_8 => ?_)
  refine pm_if ?_ ?_
  · exact pm_some hf_8
  · refine pm_if ?_ ?_
    · refine pm_bd (cm_sums hW hf_8) (fun f_15 wl_16 _ hf_15 => ?_)
      refine pm_bd (cm_payOf hW hf_15) (fun f_20 wl_21 r_22 hf_20 => ?_)
      exact pm_some hf_20
    · refine pm_bd (cm_figure hW hf_8) (fun f_25 wl_26 r_27 hf_25 => ?_)
      exact pm_some hf_25
theorem cm_even {P : gb_F → Prop} (hW : gb_sm P) {n : Nat} {f : gb_F} {w : Int64} {p1 : Int32} {p2 : Int32} (h : P f) : gb_pm P (ms_even n f w p1 p2) := by
  unfold ms_even
  refine pm_bd (cm_canMarch hW h) (fun f_1 wl_2 r_3 hf_1 => ?_)
  refine pm_if ?_ ?_
  · exact pm_some hf_1
  · refine pm_if ?_ ?_
    · exact cm_even_36 hW hf_1
    · refine pm_bd (cm_isGoose hW hf_1) (fun f_30 wl_31 r_32 hf_30 => ?_)
      refine pm_if ?_ ?_
      · refine pm_bd (cm_isPath hW hf_30) (fun f_36 wl_37 r_38 hf_36 => ?_)
        refine pm_if ?_ ?_
        · exact pm_some hf_36
        · exact cm_even_36 hW hf_36
      · exact cm_even_36 hW hf_30
theorem cm_richest_34 {P : gb_F → Prop} (hW : gb_sm P) {n : Nat} {f : gb_F} {w : Int64} {v2 : Int32} {v3 : Int32} (h : P f) : gb_pm P (ms_richest_34 n f w v2 v3) := by
  unfold ms_richest_34
  refine pm_bd (cm_placeOf hW h) (fun f_14 wl_15 r_16 hf_14 => ?_)
  refine pm_ltS (hW.1 _ _ hf_14) (fun f_19 hf_19 => ?_)
  refine pm_bd (cm_bestWorth hW hf_19) (fun f_20 wl_21 r_22 hf_20 => ?_)
  refine pm_if ?_ ?_
  · exact pm_some hf_20
  · refine pm_bd (cm_figure hW hf_20) (fun f_26 wl_27 r_28 hf_26 => ?_)
    exact pm_some hf_26
theorem cm_richest {P : gb_F → Prop} (hW : gb_sm P) {n : Nat} {f : gb_F} {w : Int64} {p1 : Int32} {p2 : Int32} {p3 : Int32} (h : P f) : gb_pm P (ms_richest n f w p1 p2 p3) := by
  unfold ms_richest
  refine pm_bd (cm_canMarch hW h) (fun f_1 wl_2 r_3 hf_1 => ?_)
  refine pm_if ?_ ?_
  · exact pm_some hf_1
  · refine pm_bd (cm_isOf hW hf_1) (fun f_7 wl_8 r_9 hf_7 => ?_)
    refine pm_if ?_ ?_
    · exact pm_some hf_7
    · refine pm_if ?_ ?_
      · exact cm_richest_34 hW hf_7
      · refine pm_bd (cm_isGoose hW hf_7) (fun f_31 wl_32 r_33 hf_31 => ?_)
        refine pm_if ?_ ?_
        · exact pm_some hf_31
        · exact cm_richest_34 hW hf_31
theorem cm_tar_136 {P : gb_F → Prop} (hW : gb_sm P) {n : Nat} {k87 : gb_F → Int64 → Int32 → Int32 → Int32 → Int32 → Int32 → gb_MR Int32} {k95 : gb_F → Int64 → Int32 → Int32 → Int32 → Int32 → Int32 → Int32 → gb_MR Int32} (h_k87 : ∀ (s : gb_F) (x1 : Int64) (x2 : Int32) (x3 : Int32) (x4 : Int32) (x5 : Int32) (x6 : Int32), P s → gb_pm P (k87 s x1 x2 x3 x4 x5 x6)) (h_k95 : ∀ (s : gb_F) (x1 : Int64) (x2 : Int32) (x3 : Int32) (x4 : Int32) (x5 : Int32) (x6 : Int32) (x7 : Int32), P s → gb_pm P (k95 s x1 x2 x3 x4 x5 x6 x7)) : ∀ (mm : Nat) (f : gb_F) (w : Int64) (v3 : Int32) (v4 : Int32) (v5 : Int32) (v6 : Int32) (v7 : Int32) (v8 : Int32) (v9 : Int32) (v10 : Int32), P f → gb_pm P (ms_tar_136 n k87 k95 mm f w v3 v4 v5 v6 v7 v8 v9 v10) := by
  intro mm
  induction mm with
  | zero =>
    intros
    exact pm_none
  | succ mm ih =>
    intro f w v3 v4 v5 v6 v7 v8 v9 v10 h
    unfold ms_tar_136
    refine pm_if ?_ ?_
    · refine pm_ltV (fun x_56 => ?_)
      exact h_k95 _ _ _ _ _ _ _ _ h
    · refine pm_if ?_ ?_
      · refine pm_if ?_ ?_
        · refine pm_ltV (fun x_60 => ?_)
          exact h_k95 _ _ _ _ _ _ _ _ h
        · refine pm_ltV (fun x_61 => ?_)
          refine pm_ltV (fun x_62 => ?_)
          refine pm_ltV (fun x_63 => ?_)
          exact ih _ _ _ _ _ _ _ _ _ _ h
      · refine pm_ltV (fun x_58 => ?_)
        exact h_k95 _ _ _ _ _ _ _ _ h
theorem cm_tar_95 {P : gb_F → Prop} (hW : gb_sm P) {n : Nat} {k87 : gb_F → Int64 → Int32 → Int32 → Int32 → Int32 → Int32 → gb_MR Int32} (h_k87 : ∀ (s : gb_F) (x1 : Int64) (x2 : Int32) (x3 : Int32) (x4 : Int32) (x5 : Int32) (x6 : Int32), P s → gb_pm P (k87 s x1 x2 x3 x4 x5 x6)) : ∀ (mm : Nat) (f : gb_F) (w : Int64) (v3 : Int32) (v4 : Int32) (v5 : Int32) (v6 : Int32) (v7 : Int32) (v8 : Int32), P f → gb_pm P (ms_tar_95 n k87 mm f w v3 v4 v5 v6 v7 v8) := by
  intro mm
  induction mm with
  | zero =>
    intros
    exact pm_none
  | succ mm ih =>
    intro f w v3 v4 v5 v6 v7 v8 h
    unfold ms_tar_95
    refine pm_bd (cm_geese hW h) (fun f_32 wl_33 r_34 hf_32 => ?_)
    refine pm_if ?_ ?_
    · refine pm_ltV (fun x_38 => ?_)
      exact h_k87 _ _ _ _ _ _ _ hf_32
    · refine pm_bd (cm_ofGoose hW hf_32) (fun f_39 wl_40 r_41 hf_39 => ?_)
      refine pm_bd (cm_ofGoose hW hf_39) (fun f_44 wl_45 r_46 hf_44 => ?_)
      refine pm_bd (cm_ofGoose hW hf_44) (fun f_49 wl_50 r_51 hf_49 => ?_)
      refine pm_ltV (fun x_54 => ?_)
      refine cm_tar_136 hW h_k87 ?_ _ _ _ _ _ _ _ _ _ _ _ hf_49
      · intro f w v3 v4 v5 v6 v7 v8 hf
        exact ih _ _ _ _ _ _ _ _ hf
theorem cm_tar_87 {P : gb_F → Prop} (hW : gb_sm P) {n : Nat} : ∀ (mm : Nat) (f : gb_F) (w : Int64) (v3 : Int32) (v4 : Int32) (v5 : Int32) (v6 : Int32) (v7 : Int32), P f → gb_pm P (ms_tar_87 n mm f w v3 v4 v5 v6 v7) := by
  intro mm
  induction mm with
  | zero =>
    intros
    exact pm_none
  | succ mm ih =>
    intro f w v3 v4 v5 v6 v7 h
    unfold ms_tar_87
    refine pm_if ?_ ?_
    · refine pm_if ?_ ?_
      · exact pm_some h
      · exact pm_some h
    · refine cm_tar_95 hW ?_ _ _ _ _ _ _ _ _ _ h
      · intro f w v3 v4 v5 v6 v7 hf
        exact ih _ _ _ _ _ _ _ hf
theorem cm_tar_43 {P : gb_F → Prop} (hW : gb_sm P) {n : Nat} : ∀ (mm : Nat) (f : gb_F) (w : Int64) (v3 : Int32) (v4 : Int32) (v5 : Int32) (v6 : Int32), P f → gb_pm P (ms_tar_43 n mm f w v3 v4 v5 v6) := by
  intro mm
  induction mm with
  | zero =>
    intros
    exact pm_none
  | succ mm ih =>
    intro f w v3 v4 v5 v6 h
    unfold ms_tar_43
    refine pm_bd (cm_geese hW h) (fun f_24 wl_25 r_26 hf_24 => ?_)
    refine pm_if ?_ ?_
    · exact cm_tar_87 hW _ _ _ _ _ _ _ _ hf_24
    · refine pm_bd (cm_ofGoose hW hf_24) (fun f_64 wl_65 r_66 hf_64 => ?_)
      refine pm_bd (cm_left hW hf_64) (fun f_69 wl_70 r_71 hf_69 => ?_)
      refine pm_ltV (fun x_74 => ?_)
      refine pm_ltV (fun x_75 => ?_)
      exact ih _ _ _ _ _ _ hf_69
theorem cm_tar {P : gb_F → Prop} (hW : gb_sm P) {n : Nat} {f : gb_F} {w : Int64} {p1 : Int32} {p2 : Int32} {p3 : Int32} (h : P f) : gb_pm P (ms_tar n f w p1 p2 p3) := by
  unfold ms_tar
  refine pm_bd (cm_isBorder hW h) (fun f_1 wl_2 r_3 hf_1 => ?_)
  refine pm_if ?_ ?_
  · exact pm_some hf_1
  · refine pm_bd (cm_isPath hW hf_1) (fun f_7 wl_8 r_9 hf_7 => ?_)
    refine pm_if ?_ ?_
    · exact pm_some hf_7
    · refine pm_bd (cm_isIn hW hf_7) (fun f_13 wl_14 r_15 hf_13 => ?_)
      refine pm_if ?_ ?_
      · exact pm_some hf_13
      · refine pm_bd (cm_ofPath hW hf_13) (fun f_19 wl_20 r_21 hf_19 => ?_)
        exact cm_tar_43 hW _ _ _ _ _ _ _ hf_19
theorem cm_lamePay_5 {P : gb_F → Prop} (hW : gb_sm P) {n : Nat} : ∀ (mm : Nat) (f : gb_F) (w : Int64) (v1 : Int32) (v2 : Int32) (v3 : Int32) (v4 : Int32), P f → gb_pm P (ms_lamePay_5 n mm f w v1 v2 v3 v4) := by
  intro mm
  induction mm with
  | zero =>
    intros
    exact pm_none
  | succ mm ih =>
    intro f w v1 v2 v3 v4 h
    unfold ms_lamePay_5
    refine pm_bd (cm_geese hW h) (fun f_1 wl_2 r_3 hf_1 => ?_)
    refine pm_if ?_ ?_
    · refine pm_bd (cm_ofPath hW hf_1) (fun f_7 wl_8 r_9 hf_7 => ?_)
      refine pm_bd (cm_padded hW hf_7) (fun f_12 wl_13 r_14 hf_12 => ?_)
      exact pm_some hf_12
    · refine pm_bd (cm_ofPath hW hf_1) (fun f_17 wl_18 r_19 hf_17 => ?_)
      refine pm_bd (cm_ofGoose hW hf_17) (fun f_22 wl_23 r_24 hf_22 => ?_)
      refine pm_if ?_ ?_
      · refine pm_bd (cm_left hW hf_22) (fun f_28 wl_29 r_30 hf_28 => ?_)
        refine pm_ltV (fun x_33 => ?_)
        refine pm_ltV (fun x_34 => ?_)
        exact ih _ _ _ _ _ _ hf_28
      · refine pm_bd (cm_ofGoose hW hf_22) (fun f_35 wl_36 r_37 hf_35 => ?_)
        refine pm_bd (cm_left hW hf_35) (fun f_40 wl_41 r_42 hf_40 => ?_)
        refine pm_ltV (fun x_45 => ?_)
        refine pm_ltV (fun x_46 => ?_)
        exact ih _ _ _ _ _ _ hf_40
theorem cm_lamePay {P : gb_F → Prop} (hW : gb_sm P) {n : Nat} {f : gb_F} {w : Int64} {p1 : Int32} {p2 : Int32} (h : P f) : gb_pm P (ms_lamePay n f w p1 p2) := by
  unfold ms_lamePay
  exact cm_lamePay_5 hW _ _ _ _ _ _ _ h
theorem cm_bestPath_7 {P : gb_F → Prop} (hW : gb_sm P) {n : Nat} : ∀ (mm : Nat) (f : gb_F) (w : Int64) (v1 : Int32) (v2 : Int32) (v3 : Int32) (v4 : Int32), P f → gb_pm P (ms_bestPath_7 n mm f w v1 v2 v3 v4) := by
  intro mm
  induction mm with
  | zero =>
    intros
    exact pm_none
  | succ mm ih =>
    intro f w v1 v2 v3 v4 h
    unfold ms_bestPath_7
    refine pm_bd (cm_paths hW h) (fun f_1 wl_2 r_3 hf_1 => ?_)
    refine pm_if ?_ ?_
    · exact pm_some hf_1
    · refine pm_bd (cm_ofPath hW hf_1) (fun f_7 wl_8 r_9 hf_7 => ?_)
      refine pm_bd (cm_firstMarks hW hf_7) (fun f_12 wl_13 r_14 hf_12 => ?_)
      refine pm_bd (cm_padded hW hf_12) (fun f_17 wl_18 r_19 hf_17 => ?_)
      refine pm_ltV (fun x_22 => ?_)
      refine pm_if ?_ ?_
      · refine pm_ltV (fun x_24 => ?_)
        exact ih _ _ _ _ _ _ hf_17
      · refine pm_if ?_ ?_
        · refine pm_ltV (fun x_26 => ?_)
          exact ih _ _ _ _ _ _ hf_17
        · refine pm_ltV (fun x_27 => ?_)
          exact ih _ _ _ _ _ _ hf_17
theorem cm_bestPath {P : gb_F → Prop} (hW : gb_sm P) {n : Nat} {f : gb_F} {w : Int64} {p1 : Int32} (h : P f) : gb_pm P (ms_bestPath n f w p1) := by
  unfold ms_bestPath
  exact cm_bestPath_7 hW _ _ _ _ _ _ _ h
theorem cm_lame {P : gb_F → Prop} (hW : gb_sm P) {n : Nat} {f : gb_F} {w : Int64} {p1 : Int32} {p2 : Int32} {p3 : Int32} (h : P f) : gb_pm P (ms_lame n f w p1 p2 p3) := by
  unfold ms_lame
  refine pm_bd (cm_isBorder hW h) (fun f_1 wl_2 r_3 hf_1 => ?_)
  refine pm_if ?_ ?_
  · exact pm_some hf_1
  · refine pm_bd (cm_isIn hW hf_1) (fun f_7 wl_8 r_9 hf_7 => ?_)
    refine pm_if ?_ ?_
    · refine pm_bd (cm_isPath hW hf_7) (fun f_13 wl_14 r_15 hf_13 => ?_)
      refine pm_if ?_ ?_
      · exact pm_some hf_13
      · refine pm_bd (cm_lamePay hW hf_13) (fun f_19 wl_20 r_21 hf_19 => ?_)
        refine pm_bd (cm_lamePay hW hf_19) (fun f_24 wl_25 r_26 hf_24 => ?_)
        exact pm_some hf_24
    · refine pm_bd (cm_isGoose hW hf_7) (fun f_29 wl_30 r_31 hf_29 => ?_)
      refine pm_if ?_ ?_
      · exact pm_some hf_29
      · refine pm_bd (cm_bestPath hW hf_29) (fun f_35 wl_36 r_37 hf_35 => ?_)
        exact pm_some hf_35
theorem cm_takeOf_97 {P : gb_F → Prop} (hW : gb_sm P) {n : Nat} {f : gb_F} {w : Int64} {v2 : Int32} {v4 : Int32} (h : P f) : gb_pm P (ms_takeOf_97 n f w v2 v4) := by
  unfold ms_takeOf_97
  refine pm_if ?_ ?_
  · refine pm_bd (cm_ofPath hW h) (fun f_15 wl_16 r_17 hf_15 => ?_)
    refine pm_bd (cm_tally hW hf_15) (fun f_20 wl_21 r_22 hf_20 => ?_)
    exact pm_some hf_20
  · refine pm_bd (cm_pay hW h) (fun f_25 wl_26 r_27 hf_25 => ?_)
    exact pm_some hf_25
theorem cm_takeOf_70 {P : gb_F → Prop} (hW : gb_sm P) {n : Nat} {f : gb_F} {w : Int64} {v2 : Int32} {v3 : Int32} {t0 : Int32} (h : P f) : gb_pm P (ms_takeOf_70 n f w v2 v3 t0) := by
  unfold ms_takeOf_70
  refine pm_bd (cm_of hW h) (fun f_8 wl_9 r_10 hf_8 => ?_)
  refine pm_if ?_ ?_
  · exact cm_takeOf_97 hW hf_8
  · refine pm_bd (cm_of hW hf_8) (fun f_30 wl_31 r_32 hf_30 => ?_)
    refine pm_if ?_ ?_
    · exact cm_takeOf_97 hW hf_30
    · refine pm_if ?_ ?_
      · exact cm_takeOf_97 hW hf_30
      · exact pm_some hf_30
theorem cm_takeOf_5 {P : gb_F → Prop} (hW : gb_sm P) {n : Nat} : ∀ (mm : Nat) (f : gb_F) (w : Int64) (v1 : Int32) (v2 : Int32) (v3 : Int32) (v4 : Int32), P f → gb_pm P (ms_takeOf_5 n mm f w v1 v2 v3 v4) := by
  intro mm
  induction mm with
  | zero =>
    intros
    exact pm_none
  | succ mm ih =>
    intro f w v1 v2 v3 v4 h
    unfold ms_takeOf_5
    refine pm_bd (cm_paths hW h) (fun f_1 wl_2 r_3 hf_1 => ?_)
    refine pm_if ?_ ?_
    · refine pm_if ?_ ?_
      · exact cm_takeOf_70 hW hf_1
      · exact cm_takeOf_70 hW hf_1
    · refine pm_if ?_ ?_
      · refine pm_bd (cm_pay hW hf_1) (fun f_50 wl_51 r_52 hf_50 => ?_)
        refine pm_ltV (fun x_55 => ?_)
        refine pm_ltV (fun x_56 => ?_)
        exact ih _ _ _ _ _ _ hf_50
      · refine pm_bd (cm_ofPath hW hf_1) (fun f_38 wl_39 r_40 hf_38 => ?_)
        refine pm_bd (cm_tally hW hf_38) (fun f_43 wl_44 r_45 hf_43 => ?_)
        refine pm_ltV (fun x_48 => ?_)
        refine pm_ltV (fun x_49 => ?_)
        exact ih _ _ _ _ _ _ hf_43
theorem cm_takeOf {P : gb_F → Prop} (hW : gb_sm P) {n : Nat} {f : gb_F} {w : Int64} {p1 : Int32} {p2 : Int32} (h : P f) : gb_pm P (ms_takeOf n f w p1 p2) := by
  unfold ms_takeOf
  exact cm_takeOf_5 hW _ _ _ _ _ _ _ h
theorem cm_isRest_4 {P : gb_F → Prop} (hW : gb_sm P) {n : Nat} : ∀ (mm : Nat) (f : gb_F) (w : Int64) (v1 : Int32) (v2 : Int32) (v3 : Int32), P f → gb_pm P (ms_isRest_4 n mm f w v1 v2 v3) := by
  intro mm
  induction mm with
  | zero =>
    intros
    exact pm_none
  | succ mm ih =>
    intro f w v1 v2 v3 h
    unfold ms_isRest_4
    refine pm_bd (cm_paths hW h) (fun f_1 wl_2 r_3 hf_1 => ?_)
    refine pm_if ?_ ?_
    · refine pm_cb ?_
      exact pm_some hf_1
    · refine pm_if ?_ ?_
      · refine pm_ltV (fun x_9 => ?_)
        exact ih _ _ _ _ _ hf_1
      · refine pm_bd (cm_takeOf hW hf_1) (fun f_10 wl_11 r_12 hf_10 => ?_)
        refine pm_bd (cm_takeOf hW hf_10) (fun f_15 wl_16 r_17 hf_15 => ?_)
        refine pm_if ?_ ?_
        · refine pm_ltV (fun x_21 => ?_)
          exact ih _ _ _ _ _ hf_15
        · refine pm_ltV (fun x_22 => ?_)
          exact ih _ _ _ _ _ hf_15
theorem cm_isRest {P : gb_F → Prop} (hW : gb_sm P) {n : Nat} {f : gb_F} {w : Int64} {p1 : Int32} (h : P f) : gb_pm P (ms_isRest n f w p1) := by
  unfold ms_isRest
  exact cm_isRest_4 hW _ _ _ _ _ _ h
theorem cm_rest_29 {P : gb_F → Prop} (hW : gb_sm P) {n : Nat} : ∀ (mm : Nat) (f : gb_F) (w : Int64) (v3 : Int32) (v4 : Int32) (v5 : Int32), P f → gb_pm P (ms_rest_29 n mm f w v3 v4 v5) := by
  intro mm
  induction mm with
  | zero =>
    intros
    exact pm_none
  | succ mm ih =>
    intro f w v3 v4 v5 h
    unfold ms_rest_29
    refine pm_bd (cm_paths hW h) (fun f_13 wl_14 r_15 hf_13 => ?_)
    refine pm_if ?_ ?_
    · refine pm_if ?_ ?_
      · exact pm_some hf_13
      · exact pm_some hf_13
    · refine pm_bd (cm_isRest hW hf_13) (fun f_20 wl_21 r_22 hf_20 => ?_)
      refine pm_if ?_ ?_
      · refine pm_ltV (fun x_29 => ?_)
        exact ih _ _ _ _ _ hf_20
      · refine pm_if ?_ ?_
        · exact pm_some hf_20
        · refine pm_ltV (fun x_27 => ?_)
          refine pm_ltV (fun x_28 => ?_)
          exact ih _ _ _ _ _ hf_20
theorem cm_rest {P : gb_F → Prop} (hW : gb_sm P) {n : Nat} {f : gb_F} {w : Int64} {p1 : Int32} {p2 : Int32} {p3 : Int32} (h : P f) : gb_pm P (ms_rest n f w p1 p2 p3) := by
  unfold ms_rest
  refine pm_bd (cm_areTold hW h) (fun f_1 wl_2 r_3 hf_1 => ?_)
  refine pm_if ?_ ?_
  · exact pm_some hf_1
  · refine pm_if ?_ ?_
    · refine pm_bd (cm_runs hW hf_1) (fun f_8 wl_9 _ hf_8 => ?_)
      exact cm_rest_29 hW _ _ _ _ _ _ hf_8
    · exact pm_some hf_1
theorem cm_take {P : gb_F → Prop} (hW : gb_sm P) {n : Nat} {f : gb_F} {w : Int64} {p1 : Int32} {p2 : Int32} {p3 : Int32} {p4 : Int32} (h : P f) : gb_pm P (ms_take n f w p1 p2 p3 p4) := by
  unfold ms_take
  refine pm_bd (cm_areTold hW h) (fun f_1 wl_2 r_3 hf_1 => ?_)
  refine pm_if ?_ ?_
  · exact pm_some hf_1
  · refine pm_bd (cm_isPath hW hf_1) (fun f_7 wl_8 r_9 hf_7 => ?_)
    refine pm_if ?_ ?_
    · exact pm_some hf_7
    · refine pm_bd (cm_paths hW hf_7) (fun f_13 wl_14 r_15 hf_13 => ?_)
      refine pm_bd (cm_isIn hW hf_13) (fun f_18 wl_19 r_20 hf_18 => ?_)
      refine pm_if ?_ ?_
      · exact pm_some hf_18
      · refine pm_bd (cm_runs hW hf_18) (fun f_24 wl_25 _ hf_24 => ?_)
        refine pm_bd (cm_takeOf hW hf_24) (fun f_29 wl_30 r_31 hf_29 => ?_)
        exact pm_some hf_29
theorem cm_honest {P : gb_F → Prop} (hW : gb_sm P) {n : Nat} {f : gb_F} {w : Int64} {p1 : Int32} {p2 : Int32} {p3 : Int32} (h : P f) : gb_pm P (ms_honest n f w p1 p2 p3) := by
  unfold ms_honest
  refine pm_bd (cm_areTold hW h) (fun f_1 wl_2 r_3 hf_1 => ?_)
  refine pm_if ?_ ?_
  · exact pm_some hf_1
  · refine pm_bd (cm_isPath hW hf_1) (fun f_7 wl_8 r_9 hf_7 => ?_)
    refine pm_if ?_ ?_
    · exact pm_some hf_7
    · refine pm_bd (cm_runs hW hf_7) (fun f_13 wl_14 _ hf_13 => ?_)
      refine pm_bd (cm_pay hW hf_13) (fun f_18 wl_19 r_20 hf_18 => ?_)
      refine pm_bd (cm_ofPath hW hf_18) (fun f_23 wl_24 r_25 hf_23 => ?_)
      refine pm_bd (cm_tally hW hf_23) (fun f_28 wl_29 r_30 hf_28 => ?_)
      exact pm_some hf_28
theorem cm_seenOf {P : gb_F → Prop} (hW : gb_sm P) {n : Nat} {f : gb_F} {w : Int64} {p1 : Int32} {p2 : Int32} (h : P f) : gb_pm P (ms_seenOf n f w p1 p2) := by
  unfold ms_seenOf
  refine pm_ck ?_
  refine pm_ltV (fun x_2 => ?_)
  exact pm_some h
theorem cm_seen {P : gb_F → Prop} (hW : gb_sm P) {n : Nat} {f : gb_F} {w : Int64} {p1 : Int32} {p2 : Int32} {p3 : Int32} (h : P f) : gb_pm P (ms_seen n f w p1 p2 p3) := by
  unfold ms_seen
  refine pm_bd (cm_isOf hW h) (fun f_1 wl_2 r_3 hf_1 => ?_)
  refine pm_if ?_ ?_
  · exact pm_some hf_1
  · refine pm_bd (cm_placeOf hW hf_1) (fun f_7 wl_8 r_9 hf_7 => ?_)
    refine pm_ltS (hW.1 _ _ hf_7) (fun f_12 hf_12 => ?_)
    refine pm_if ?_ ?_
    · refine pm_if ?_ ?_
      · refine pm_ck ?_
        refine pm_ltV (fun x_35 => ?_)
        exact pm_some hf_12
      · exact pm_some hf_12
    · refine pm_ck ?_
      refine pm_ltV (fun x_15 => ?_)
      refine pm_bd (cm_isIn hW hf_12) (fun f_16 wl_17 r_18 hf_16 => ?_)
      refine pm_if ?_ ?_
      · exact pm_some hf_16
      · refine pm_bd (cm_isIn hW hf_16) (fun f_22 wl_23 r_24 hf_22 => ?_)
        refine pm_if ?_ ?_
        · exact pm_some hf_22
        · refine pm_bd (cm_seenOf hW hf_22) (fun f_28 wl_29 r_30 hf_28 => ?_)
          exact pm_some hf_28
theorem cm_isWhole_4 {P : gb_F → Prop} (hW : gb_sm P) {n : Nat} : ∀ (mm : Nat) (f : gb_F) (w : Int64) (v1 : Int32) (v2 : Int32), P f → gb_pm P (ms_isWhole_4 n mm f w v1 v2) := by
  intro mm
  induction mm with
  | zero =>
    intros
    exact pm_none
  | succ mm ih =>
    intro f w v1 v2 h
    unfold ms_isWhole_4
    refine pm_if ?_ ?_
    · refine pm_cb ?_
      exact pm_some h
    · refine pm_if ?_ ?_
      · refine pm_ltV (fun x_4 => ?_)
        exact ih _ _ _ _ h
      · refine pm_ck ?_
        refine pm_ltV (fun x_6 => ?_)
        refine pm_if ?_ ?_
        · refine pm_ltV (fun x_8 => ?_)
          exact ih _ _ _ _ h
        · refine pm_ck ?_
          refine pm_ltV (fun x_10 => ?_)
          refine pm_ck ?_
          refine pm_ltV (fun x_12 => ?_)
          refine pm_if ?_ ?_
          · refine pm_ltV (fun x_15 => ?_)
            exact ih _ _ _ _ h
          · refine pm_ltV (fun x_14 => ?_)
            exact ih _ _ _ _ h
theorem cm_isWhole {P : gb_F → Prop} (hW : gb_sm P) {n : Nat} {f : gb_F} {w : Int64} (h : P f) : gb_pm P (ms_isWhole n f w) := by
  unfold ms_isWhole
  exact cm_isWhole_4 hW _ _ _ _ _ h
theorem cm_counts_93 {P : gb_F → Prop} (hW : gb_sm P) {n : Nat} {f : gb_F} {w : Int64} {v1 : Int32} {v2 : Int32} {t0 : Int32} (h : P f) : gb_pm P (ms_counts_93 n f w v1 v2 t0) := by
  unfold ms_counts_93
  refine pm_ltS (hW.1 _ _ h) (fun f_15 hf_15 => ?_)
  refine pm_if ?_ ?_
  · refine pm_ltS (hW.1 _ _ hf_15) (fun f_17 hf_17 => ?_)
    refine pm_ltS (hW.1 _ _ hf_17) (fun f_18 hf_18 => ?_)
    exact pm_some hf_18
  · refine pm_ltS (hW.1 _ _ hf_15) (fun f_19 hf_19 => ?_)
    refine pm_ltS (hW.1 _ _ hf_19) (fun f_20 hf_20 => ?_)
    exact pm_some hf_20
theorem cm_counts_14 {P : gb_F → Prop} (hW : gb_sm P) {n : Nat} : ∀ (mm : Nat) (f : gb_F) (w : Int64) (v1 : Int32) (v2 : Int32) (v3 : Int32), P f → gb_pm P (ms_counts_14 n mm f w v1 v2 v3) := by
  intro mm
  induction mm with
  | zero =>
    intros
    exact pm_none
  | succ mm ih =>
    intro f w v1 v2 v3 h
    unfold ms_counts_14
    refine pm_bd (cm_geese hW h) (fun f_7 wl_8 r_9 hf_7 => ?_)
    refine pm_if ?_ ?_
    · refine pm_ltV (fun wl_13 => ?_)
      refine pm_if ?_ ?_
      · exact cm_counts_93 hW hf_7
      · exact cm_counts_93 hW hf_7
    · refine pm_ck ?_
      refine pm_ltV (fun x_22 => ?_)
      refine pm_if ?_ ?_
      · refine pm_ltV (fun x_24 => ?_)
        refine pm_ltV (fun x_25 => ?_)
        refine pm_ck ?_
        refine pm_ltV (fun x_27 => ?_)
        refine pm_ck ?_
        refine pm_ltV (fun x_29 => ?_)
        refine pm_ck ?_
        refine pm_ltS (hW.2 _ _ _ (by decide) hf_7) (fun f_31 hf_31 => ?_)
        refine pm_ltV (fun x_32 => ?_)
        exact ih _ _ _ _ _ hf_31
      · refine pm_ltV (fun x_33 => ?_)
        exact ih _ _ _ _ _ hf_7
theorem cm_counts {P : gb_F → Prop} (hW : gb_sm P) {n : Nat} {f : gb_F} {w : Int64} (h : P f) : gb_pm P (ms_counts n f w) := by
  unfold ms_counts
  refine pm_bd (cm_isWhole hW h) (fun f_1 wl_2 r_3 hf_1 => ?_)
  refine pm_if ?_ ?_
  · exact pm_some hf_1
  · exact cm_counts_14 hW _ _ _ _ _ _ hf_1
theorem cm_opens_95 {P : gb_F → Prop} (hW : gb_sm P) {n : Nat} : ∀ (mm : Nat) (f : gb_F) (w : Int64) (v1 : Int32), P f → gb_pm P (ms_opens_95 n mm f w v1) := by
  intro mm
  induction mm with
  | zero =>
    intros
    exact pm_none
  | succ mm ih =>
    intro f w v1 h
    unfold ms_opens_95
    refine pm_if ?_ ?_
    · exact pm_some h
    · refine pm_ck ?_
      refine pm_ltS (hW.2 _ _ _ (by decide) h) (fun f_16 hf_16 => ?_)
      refine pm_ltV (fun x_17 => ?_)
      exact ih _ _ _ hf_16
theorem cm_opens_29 {P : gb_F → Prop} (hW : gb_sm P) {n : Nat} : ∀ (mm : Nat) (f : gb_F) (w : Int64) (v1 : Int32), P f → gb_pm P (ms_opens_29 n mm f w v1) := by
  intro mm
  induction mm with
  | zero =>
    intros
    exact pm_none
  | succ mm ih =>
    intro f w v1 h
    unfold ms_opens_29
    refine pm_ck ?_
    refine pm_ltV (fun x_3 => ?_)
    refine pm_if ?_ ?_
    · refine pm_ltV (fun wl_5 => ?_)
      refine pm_ltS (hW.1 _ _ h) (fun f_6 hf_6 => ?_)
      refine pm_ltS (hW.1 _ _ hf_6) (fun f_7 hf_7 => ?_)
      refine pm_bd (cm_geese hW hf_7) (fun f_8 wl_9 r_10 hf_8 => ?_)
      refine pm_ltS (hW.1 _ _ hf_8) (fun f_13 hf_13 => ?_)
      exact cm_opens_95 hW _ _ _ _ hf_13
    · refine pm_bd (cm_seenOf hW h) (fun f_18 wl_19 r_20 hf_18 => ?_)
      refine pm_bd (cm_seenOf hW hf_18) (fun f_23 wl_24 r_25 hf_23 => ?_)
      refine pm_ck ?_
      refine pm_ltS (hW.2 _ _ _ (by decide) hf_23) (fun f_29 hf_29 => ?_)
      refine pm_ltV (fun x_30 => ?_)
      exact ih _ _ _ hf_29
theorem cm_opens_2 {P : gb_F → Prop} (hW : gb_sm P) {n : Nat} : ∀ (mm : Nat) (f : gb_F) (w : Int64) (v1 : Int32), P f → gb_pm P (ms_opens_2 n mm f w v1) := by
  intro mm
  induction mm with
  | zero =>
    intros
    exact pm_none
  | succ mm ih =>
    intro f w v1 h
    unfold ms_opens_2
    refine pm_if ?_ ?_
    · exact cm_opens_29 hW _ _ _ _ h
    · refine pm_ck ?_
      refine pm_ltS (hW.2 _ _ _ (by decide) h) (fun f_32 hf_32 => ?_)
      refine pm_ck ?_
      refine pm_ltS (hW.2 _ _ _ (by decide) hf_32) (fun f_34 hf_34 => ?_)
      refine pm_ltV (fun x_35 => ?_)
      exact ih _ _ _ hf_34
theorem cm_opens {P : gb_F → Prop} (hW : gb_sm P) {n : Nat} {f : gb_F} {w : Int64} (h : P f) : gb_pm P (ms_opens n f w) := by
  unfold ms_opens
  exact cm_opens_2 hW _ _ _ _ h
theorem cm_isNext_38 {P : gb_F → Prop} (hW : gb_sm P) {n : Nat} {f : gb_F} {w : Int64} {v1 : Int32} (h : P f) : gb_pm P (ms_isNext_38 n f w v1) := by
  unfold ms_isNext_38
  refine pm_ck ?_
  refine pm_ltS (hW.2 _ _ _ (by decide) h) (fun f_5 hf_5 => ?_)
  refine pm_ck ?_
  refine pm_ltV (fun x_7 => ?_)
  refine pm_ck ?_
  refine pm_ltS (hW.2 _ _ _ (by decide) hf_5) (fun f_9 hf_9 => ?_)
  refine pm_ck ?_
  refine pm_ltV (fun x_11 => ?_)
  refine pm_if ?_ ?_
  · refine pm_if ?_ ?_
    · exact pm_some hf_9
    · exact pm_some hf_9
  · refine pm_bd (cm_paths hW hf_9) (fun f_14 wl_15 r_16 hf_14 => ?_)
    refine pm_if ?_ ?_
    · refine pm_ck ?_
      refine pm_ltV (fun x_21 => ?_)
      refine pm_if ?_ ?_
      · exact pm_some hf_14
      · refine pm_ck ?_
        refine pm_ltV (fun x_24 => ?_)
        refine pm_ck ?_
        refine pm_ltV (fun x_26 => ?_)
        refine pm_ck ?_
        refine pm_ltV (fun x_28 => ?_)
        refine pm_if ?_ ?_
        · refine pm_ck ?_
          refine pm_ltV (fun x_31 => ?_)
          refine pm_ck ?_
          refine pm_ltV (fun x_33 => ?_)
          refine pm_ck ?_
          refine pm_ltS (hW.2 _ _ _ (by decide) hf_14) (fun f_35 hf_35 => ?_)
          refine pm_ck ?_
          refine pm_ltS (hW.2 _ _ _ (by decide) hf_35) (fun f_37 hf_37 => ?_)
          exact pm_some hf_37
        · exact pm_some hf_14
    · refine pm_if ?_ ?_
      · exact pm_some hf_14
      · exact pm_some hf_14
theorem cm_isNext {P : gb_F → Prop} (hW : gb_sm P) {n : Nat} {f : gb_F} {w : Int64} {p1 : Int32} (h : P f) : gb_pm P (ms_isNext n f w p1) := by
  unfold ms_isNext
  refine pm_ck ?_
  refine pm_ltV (fun x_2 => ?_)
  refine pm_if ?_ ?_
  · exact cm_isNext_38 hW h
  · refine pm_ck ?_
    refine pm_ltV (fun x_40 => ?_)
    refine pm_ck ?_
    refine pm_ltV (fun x_42 => ?_)
    refine pm_ck ?_
    refine pm_ltV (fun x_44 => ?_)
    refine pm_ck ?_
    refine pm_ltV (fun x_46 => ?_)
    refine pm_ck ?_
    refine pm_ltS (hW.2 _ _ _ (by decide) h) (fun f_48 hf_48 => ?_)
    exact cm_isNext_38 hW hf_48
theorem cm_tries_87 {P : gb_F → Prop} (hW : gb_sm P) {n : Nat} {k37 : gb_F → Int64 → Int32 → gb_MR Unit} (h_k37 : ∀ (s : gb_F) (x1 : Int64) (x2 : Int32), P s → gb_pm P (k37 s x1 x2)) {f : gb_F} {w : Int64} {v1 : Int32} {v2 : Int32} (h : P f) : gb_pm P (ms_tries_87 n k37 f w v1 v2) := by
  unfold ms_tries_87
  refine pm_if ?_ ?_
  · exact h_k37 _ _ _ h
  · refine pm_ltV (fun x_35 => ?_)
    refine pm_ck ?_
    refine pm_ltS (hW.2 _ _ _ (by decide) h) (fun f_37 hf_37 => ?_)
    refine pm_ck ?_
    refine pm_ltS (hW.2 _ _ _ (by decide) hf_37) (fun f_39 hf_39 => ?_)
    exact h_k37 _ _ _ hf_39
theorem cm_tries_37 {P : gb_F → Prop} (hW : gb_sm P) {n : Nat} : ∀ (mm : Nat) (f : gb_F) (w : Int64) (v1 : Int32), P f → gb_pm P (ms_tries_37 n mm f w v1) := by
  intro mm
  induction mm with
  | zero =>
    intros
    exact pm_none
  | succ mm ih =>
    intro f w v1 h
    unfold ms_tries_37
    refine pm_if ?_ ?_
    · exact pm_some h
    · refine pm_bd (cm_isNext hW h) (fun f_20 wl_21 r_22 hf_20 => ?_)
      refine pm_ck ?_
      refine pm_ltV (fun x_26 => ?_)
      refine pm_bd (cm_paths hW hf_20) (fun f_27 wl_28 r_29 hf_27 => ?_)
      refine pm_if ?_ ?_
      · refine pm_if ?_ ?_
        · refine cm_tries_87 hW ?_ hf_27
          · intro f w v1 hf
            exact ih _ _ _ hf
        · refine pm_bd (cm_geese hW hf_27) (fun f_40 wl_41 r_42 hf_40 => ?_)
          refine pm_if ?_ ?_
          · refine pm_bd (cm_counts hW hf_40) (fun f_46 wl_47 _ hf_46 => ?_)
            exact ih _ _ _ hf_46
          · refine cm_tries_87 hW ?_ hf_40
            · intro f w v1 hf
              exact ih _ _ _ hf
      · refine pm_ltV (fun x_51 => ?_)
        exact ih _ _ _ hf_27
theorem cm_tries {P : gb_F → Prop} (hW : gb_sm P) {n : Nat} {f : gb_F} {w : Int64} (h : P f) : gb_pm P (ms_tries n f w) := by
  unfold ms_tries
  refine pm_bd (cm_measures hW h) (fun f_1 wl_2 _ hf_1 => ?_)
  refine pm_bd (cm_opens hW hf_1) (fun f_6 wl_7 _ hf_6 => ?_)
  refine pm_bd (cm_geese hW hf_6) (fun f_11 wl_12 r_13 hf_11 => ?_)
  refine pm_if ?_ ?_
  · refine pm_bd (cm_counts hW hf_11) (fun f_52 wl_53 _ hf_52 => ?_)
    exact pm_some hf_52
  · refine pm_ltS (hW.2 _ _ _ (by decide) hf_11) (fun f_17 hf_17 => ?_)
    refine pm_ltS (hW.2 _ _ _ (by decide) hf_17) (fun f_18 hf_18 => ?_)
    exact cm_tries_37 hW _ _ _ _ hf_18
theorem cm_areSeen {P : gb_F → Prop} (hW : gb_sm P) {n : Nat} {f : gb_F} {w : Int64} {p1 : Int32} {p2 : Int32} (h : P f) : gb_pm P (ms_areSeen n f w p1 p2) := by
  unfold ms_areSeen
  refine pm_bd (cm_isBorder hW h) (fun f_1 wl_2 r_3 hf_1 => ?_)
  refine pm_if ?_ ?_
  · exact pm_some hf_1
  · refine pm_bd (cm_isOf hW hf_1) (fun f_7 wl_8 r_9 hf_7 => ?_)
    refine pm_if ?_ ?_
    · exact pm_some hf_7
    · refine pm_bd (cm_placeOf hW hf_7) (fun f_13 wl_14 r_15 hf_13 => ?_)
      refine pm_ltS (hW.1 _ _ hf_13) (fun f_18 hf_18 => ?_)
      exact pm_some hf_18
theorem cm_fits {P : gb_F → Prop} (hW : gb_sm P) {n : Nat} {f : gb_F} {w : Int64} {p1 : Int32} {p2 : Int32} (h : P f) : gb_pm P (ms_fits n f w p1 p2) := by
  unfold ms_fits
  refine pm_bd (cm_areSeen hW h) (fun f_1 wl_2 r_3 hf_1 => ?_)
  refine pm_if ?_ ?_
  · exact pm_some hf_1
  · refine pm_bd (cm_tries hW hf_1) (fun f_7 wl_8 _ hf_7 => ?_)
    exact pm_some hf_7
theorem cm_toe_16 {P : gb_F → Prop} (hW : gb_sm P) {n : Nat} {k6 : gb_F → Int64 → Int32 → gb_MR Int32} (h_k6 : ∀ (s : gb_F) (x1 : Int64) (x2 : Int32), P s → gb_pm P (k6 s x1 x2)) : ∀ (mm : Nat) (f : gb_F) (w : Int64) (v1 : Int32) (v2 : Int32), P f → gb_pm P (ms_toe_16 n k6 mm f w v1 v2) := by
  intro mm
  induction mm with
  | zero =>
    intros
    exact pm_none
  | succ mm ih =>
    intro f w v1 v2 h
    unfold ms_toe_16
    refine pm_ck ?_
    refine pm_ltV (fun x_13 => ?_)
    refine pm_if ?_ ?_
    · refine pm_ltV (fun x_15 => ?_)
      exact h_k6 _ _ _ h
    · refine pm_bd (cm_seenOf hW h) (fun f_16 wl_17 r_18 hf_16 => ?_)
      refine pm_bd (cm_isPath hW hf_16) (fun f_21 wl_22 r_23 hf_21 => ?_)
      refine pm_if ?_ ?_
      · refine pm_ltV (fun x_27 => ?_)
        exact ih _ _ _ _ hf_21
      · refine pm_bd (cm_seenOf hW hf_21) (fun f_28 wl_29 r_30 hf_28 => ?_)
        refine pm_ck ?_
        refine pm_ltV (fun x_34 => ?_)
        refine pm_bd (cm_seenOf hW hf_28) (fun f_35 wl_36 r_37 hf_35 => ?_)
        refine pm_if ?_ ?_
        · exact pm_some hf_35
        · refine pm_ltV (fun x_41 => ?_)
          exact ih _ _ _ _ hf_35
theorem cm_toe_6 {P : gb_F → Prop} (hW : gb_sm P) {n : Nat} : ∀ (mm : Nat) (f : gb_F) (w : Int64) (v1 : Int32), P f → gb_pm P (ms_toe_6 n mm f w v1) := by
  intro mm
  induction mm with
  | zero =>
    intros
    exact pm_none
  | succ mm ih =>
    intro f w v1 h
    unfold ms_toe_6
    refine pm_bd (cm_geese hW h) (fun f_6 wl_7 r_8 hf_6 => ?_)
    refine pm_if ?_ ?_
    · exact pm_some hf_6
    · refine cm_toe_16 hW ?_ _ _ _ _ _ hf_6
      · intro f w v1 hf
        exact ih _ _ _ hf
theorem cm_toe {P : gb_F → Prop} (hW : gb_sm P) {n : Nat} {f : gb_F} {w : Int64} (h : P f) : gb_pm P (ms_toe n f w) := by
  unfold ms_toe
  refine pm_bd (cm_measures hW h) (fun f_1 wl_2 _ hf_1 => ?_)
  exact cm_toe_6 hW _ _ _ _ hf_1
theorem cm_told_45 {P : gb_F → Prop} (hW : gb_sm P) {n : Nat} {f : gb_F} {w : Int64} {v3 : Int32} (h : P f) : gb_pm P (ms_told_45 n f w v3) := by
  unfold ms_told_45
  refine pm_bd (cm_tries hW h) (fun f_14 wl_15 _ hf_14 => ?_)
  refine pm_if ?_ ?_
  · exact pm_some hf_14
  · refine pm_if ?_ ?_
    · exact pm_some hf_14
    · refine pm_if ?_ ?_
      · exact pm_some hf_14
      · refine pm_if ?_ ?_
        · exact pm_some hf_14
        · refine pm_ck ?_
          refine pm_ltV (fun x_24 => ?_)
          exact pm_some hf_14
theorem cm_told {P : gb_F → Prop} (hW : gb_sm P) {n : Nat} {f : gb_F} {w : Int64} {p1 : Int32} {p2 : Int32} {p3 : Int32} (h : P f) : gb_pm P (ms_told n f w p1 p2 p3) := by
  unfold ms_told
  refine pm_bd (cm_areSeen hW h) (fun f_1 wl_2 r_3 hf_1 => ?_)
  refine pm_if ?_ ?_
  · exact pm_some hf_1
  · refine pm_if ?_ ?_
    · refine pm_bd (cm_toe hW hf_1) (fun f_31 wl_32 r_33 hf_31 => ?_)
      exact pm_some hf_31
    · refine pm_bd (cm_isIn hW hf_1) (fun f_8 wl_9 r_10 hf_8 => ?_)
      refine pm_if ?_ ?_
      · refine pm_bd (cm_isGoose hW hf_8) (fun f_25 wl_26 r_27 hf_25 => ?_)
        refine pm_if ?_ ?_
        · exact pm_some hf_25
        · exact cm_told_45 hW hf_25
      · exact cm_told_45 hW hf_8
theorem cm_lacks_32 {P : gb_F → Prop} (hW : gb_sm P) {n : Nat} : ∀ (mm : Nat) (f : gb_F) (w : Int64) (v4 : Int32) (v5 : Int32), P f → gb_pm P (ms_lacks_32 n mm f w v4 v5) := by
  intro mm
  induction mm with
  | zero =>
    intros
    exact pm_none
  | succ mm ih =>
    intro f w v4 v5 h
    unfold ms_lacks_32
    refine pm_ck ?_
    refine pm_ltV (fun x_19 => ?_)
    refine pm_if ?_ ?_
    · exact pm_some h
    · refine pm_bd (cm_seenOf hW h) (fun f_21 wl_22 r_23 hf_21 => ?_)
      refine pm_bd (cm_isPath hW hf_21) (fun f_26 wl_27 r_28 hf_26 => ?_)
      refine pm_if ?_ ?_
      · refine pm_ltV (fun x_32 => ?_)
        refine pm_ltV (fun x_33 => ?_)
        exact ih _ _ _ _ hf_26
      · refine pm_bd (cm_seenOf hW hf_26) (fun f_34 wl_35 r_36 hf_34 => ?_)
        refine pm_bd (cm_seenOf hW hf_34) (fun f_39 wl_40 r_41 hf_39 => ?_)
        refine pm_bd (cm_tally hW hf_39) (fun f_44 wl_45 r_46 hf_44 => ?_)
        refine pm_if ?_ ?_
        · refine pm_ltV (fun x_50 => ?_)
          refine pm_ltV (fun x_51 => ?_)
          exact ih _ _ _ _ hf_44
        · refine pm_bd (cm_seenOf hW hf_44) (fun f_52 wl_53 r_54 hf_52 => ?_)
          refine pm_ltV (fun x_57 => ?_)
          refine pm_ltV (fun x_58 => ?_)
          exact ih _ _ _ _ hf_52
theorem cm_lacks {P : gb_F → Prop} (hW : gb_sm P) {n : Nat} {f : gb_F} {w : Int64} {p1 : Int32} {p2 : Int32} {p3 : Int32} (h : P f) : gb_pm P (ms_lacks n f w p1 p2 p3) := by
  unfold ms_lacks
  refine pm_bd (cm_areTold hW h) (fun f_1 wl_2 r_3 hf_1 => ?_)
  refine pm_if ?_ ?_
  · exact pm_some hf_1
  · refine pm_bd (cm_areSeen hW hf_1) (fun f_7 wl_8 r_9 hf_7 => ?_)
    refine pm_if ?_ ?_
    · exact pm_some hf_7
    · refine pm_bd (cm_runs hW hf_7) (fun f_13 wl_14 _ hf_13 => ?_)
      exact cm_lacks_32 hW _ _ _ _ _ hf_13
theorem cm_who_34 {P : gb_F → Prop} (hW : gb_sm P) {n : Nat} : ∀ (mm : Nat) (f : gb_F) (w : Int64) (v3 : Int32) (v4 : Int32) (v5 : Int32) (v6 : Int32), P f → gb_pm P (ms_who_34 n mm f w v3 v4 v5 v6) := by
  intro mm
  induction mm with
  | zero =>
    intros
    exact pm_none
  | succ mm ih =>
    intro f w v3 v4 v5 v6 h
    unfold ms_who_34
    refine pm_if ?_ ?_
    · exact pm_some h
    · refine pm_bd (cm_deedOf hW h) (fun f_20 wl_21 r_22 hf_20 => ?_)
      refine pm_if ?_ ?_
      · refine pm_bd (cm_deedOf hW hf_20) (fun f_27 wl_28 r_29 hf_27 => ?_)
        refine pm_if ?_ ?_
        · refine pm_ltS (hW.1 _ _ hf_27) (fun f_33 hf_33 => ?_)
          refine pm_bd (cm_runs hW hf_33) (fun f_34 wl_35 _ hf_34 => ?_)
          refine pm_if ?_ ?_
          · refine pm_bd (cm_tally hW hf_34) (fun f_41 wl_42 r_43 hf_41 => ?_)
            refine pm_if ?_ ?_
            · exact pm_some hf_41
            · refine pm_ltV (fun x_47 => ?_)
              exact ih _ _ _ _ _ _ hf_41
          · refine pm_ltV (fun x_40 => ?_)
            exact ih _ _ _ _ _ _ hf_34
        · refine pm_ltV (fun x_48 => ?_)
          exact ih _ _ _ _ _ _ hf_27
      · refine pm_ltV (fun x_26 => ?_)
        exact ih _ _ _ _ _ _ hf_20
theorem cm_who {P : gb_F → Prop} (hW : gb_sm P) {n : Nat} {f : gb_F} {w : Int64} {p1 : Int32} {p2 : Int32} {p3 : Int32} {p4 : Int32} (h : P f) : gb_pm P (ms_who n f w p1 p2 p3 p4) := by
  unfold ms_who
  refine pm_bd (cm_areTold hW h) (fun f_1 wl_2 r_3 hf_1 => ?_)
  refine pm_if ?_ ?_
  · exact pm_some hf_1
  · refine pm_bd (cm_isPath hW hf_1) (fun f_7 wl_8 r_9 hf_7 => ?_)
    refine pm_if ?_ ?_
    · exact pm_some hf_7
    · refine pm_bd (cm_runs hW hf_7) (fun f_13 wl_14 _ hf_13 => ?_)
      refine pm_ltV (fun x_18 => ?_)
      exact cm_who_34 hW _ _ _ _ _ _ _ hf_13
theorem cm_below {P : gb_F → Prop} (hW : gb_sm P) {n : Nat} {f : gb_F} {w : Int64} {p1 : Int32} (h : P f) : gb_pm P (ms_below n f w p1) := by
  unfold ms_below
  refine pm_ltS (hW.1 _ _ h) (fun f_1 hf_1 => ?_)
  refine pm_nz ?_
  refine pm_ltV (fun x_3 => ?_)
  exact pm_some hf_1
theorem cm_draws_92 {P : gb_F → Prop} (hW : gb_sm P) {n : Nat} : ∀ (mm : Nat) (f : gb_F) (w : Int64) (v1 : Int32) (v2 : Int32), P f → gb_pm P (ms_draws_92 n mm f w v1 v2) := by
  intro mm
  induction mm with
  | zero =>
    intros
    exact pm_none
  | succ mm ih =>
    intro f w v1 v2 h
    unfold ms_draws_92
    refine pm_bd (cm_paths hW h) (fun f_13 wl_14 r_15 hf_13 => ?_)
    refine pm_if ?_ ?_
    · exact pm_some hf_13
    · refine pm_ck ?_
      refine pm_ltV (fun x_20 => ?_)
      refine pm_ck ?_
      refine pm_ltV (fun x_22 => ?_)
      refine pm_ltV (fun x_23 => ?_)
      refine pm_ltV (fun x_24 => ?_)
      refine pm_ck ?_
      refine pm_ltV (fun x_26 => ?_)
      refine pm_ck ?_
      refine pm_ltS (hW.2 _ _ _ (by decide) hf_13) (fun f_28 hf_28 => ?_)
      refine pm_bd (cm_ofPath hW hf_28) (fun f_29 wl_30 r_31 hf_29 => ?_)
      refine pm_bd (cm_padded hW hf_29) (fun f_34 wl_35 r_36 hf_34 => ?_)
      refine pm_ltS (hW.1 _ _ hf_34) (fun f_39 hf_39 => ?_)
      refine pm_bd (cm_below hW hf_39) (fun f_40 wl_41 r_42 hf_40 => ?_)
      refine pm_bd (cm_ofPath hW hf_40) (fun f_45 wl_46 r_47 hf_45 => ?_)
      refine pm_if ?_ ?_
      · refine pm_ltS (hW.1 _ _ hf_45) (fun f_51 hf_51 => ?_)
        refine pm_ltV (fun x_52 => ?_)
        exact ih _ _ _ _ hf_51
      · refine pm_ltS (hW.1 _ _ hf_45) (fun f_53 hf_53 => ?_)
        refine pm_ltV (fun x_54 => ?_)
        exact ih _ _ _ _ hf_53
theorem cm_draws_22 {P : gb_F → Prop} (hW : gb_sm P) {n : Nat} : ∀ (mm : Nat) (f : gb_F) (w : Int64) (v1 : Int32), P f → gb_pm P (ms_draws_22 n mm f w v1) := by
  intro mm
  induction mm with
  | zero =>
    intros
    exact pm_none
  | succ mm ih =>
    intro f w v1 h
    unfold ms_draws_22
    refine pm_bd (cm_geese hW h) (fun f_2 wl_3 r_4 hf_2 => ?_)
    refine pm_if ?_ ?_
    · refine pm_bd (cm_below hW hf_2) (fun f_8 wl_9 r_10 hf_8 => ?_)
      exact cm_draws_92 hW _ _ _ _ _ hf_8
    · refine pm_bd (cm_paths hW hf_2) (fun f_55 wl_56 r_57 hf_55 => ?_)
      refine pm_bd (cm_below hW hf_55) (fun f_60 wl_61 r_62 hf_60 => ?_)
      refine pm_ck ?_
      refine pm_ltV (fun x_66 => ?_)
      refine pm_ck ?_
      refine pm_ltV (fun x_68 => ?_)
      refine pm_ck ?_
      refine pm_ltS (hW.2 _ _ _ (by decide) hf_60) (fun f_70 hf_70 => ?_)
      refine pm_ck ?_
      refine pm_ltV (fun x_72 => ?_)
      refine pm_ck ?_
      refine pm_ltV (fun x_74 => ?_)
      refine pm_ck ?_
      refine pm_ltS (hW.2 _ _ _ (by decide) hf_70) (fun f_76 hf_76 => ?_)
      refine pm_ltV (fun x_77 => ?_)
      exact ih _ _ _ hf_76
theorem cm_draws_2 {P : gb_F → Prop} (hW : gb_sm P) {n : Nat} : ∀ (mm : Nat) (f : gb_F) (w : Int64) (v1 : Int32), P f → gb_pm P (ms_draws_2 n mm f w v1) := by
  intro mm
  induction mm with
  | zero =>
    intros
    exact pm_none
  | succ mm ih =>
    intro f w v1 h
    unfold ms_draws_2
    refine pm_if ?_ ?_
    · exact cm_draws_22 hW _ _ _ _ h
    · refine pm_ck ?_
      refine pm_ltS (hW.2 _ _ _ (by decide) h) (fun f_79 hf_79 => ?_)
      refine pm_ltV (fun x_80 => ?_)
      exact ih _ _ _ hf_79
theorem cm_draws {P : gb_F → Prop} (hW : gb_sm P) {n : Nat} {f : gb_F} {w : Int64} (h : P f) : gb_pm P (ms_draws n f w) := by
  unfold ms_draws
  exact cm_draws_2 hW _ _ _ _ h
theorem cm_drawn_212 {P : gb_F → Prop} (hW : gb_sm P) {n : Nat} : ∀ (mm : Nat) (f : gb_F) (w : Int64) (v5 : Int32) (v6 : Int32), P f → gb_pm P (ms_drawn_212 n mm f w v5 v6) := by
  intro mm
  induction mm with
  | zero =>
    intros
    exact pm_none
  | succ mm ih =>
    intro f w v5 v6 h
    unfold ms_drawn_212
    refine pm_if ?_ ?_
    · exact pm_some h
    · refine pm_ck ?_
      refine pm_ltV (fun x_41 => ?_)
      refine pm_ltV (fun x_42 => ?_)
      refine pm_ltV (fun x_43 => ?_)
      exact ih _ _ _ _ h
theorem cm_drawn_130 {P : gb_F → Prop} (hW : gb_sm P) {n : Nat} : ∀ (mm : Nat) (f : gb_F) (w : Int64) (v3 : Int32) (v4 : Int32) (v5 : Int32), P f → gb_pm P (ms_drawn_130 n mm f w v3 v4 v5) := by
  intro mm
  induction mm with
  | zero =>
    intros
    exact pm_none
  | succ mm ih =>
    intro f w v3 v4 v5 h
    unfold ms_drawn_130
    refine pm_if ?_ ?_
    · refine pm_if ?_ ?_
      · exact pm_some h
      · refine pm_if ?_ ?_
        · exact pm_some h
        · refine pm_if ?_ ?_
          · exact cm_drawn_212 hW _ _ _ _ _ h
          · refine pm_if ?_ ?_
            · refine pm_ck ?_
              refine pm_ltV (fun x_46 => ?_)
              exact pm_some h
            · refine pm_ck ?_
              refine pm_ltV (fun x_48 => ?_)
              exact pm_some h
    · refine pm_bd (cm_draws hW h) (fun f_49 wl_50 _ hf_49 => ?_)
      refine pm_ltV (fun x_54 => ?_)
      exact ih _ _ _ _ _ hf_49
theorem cm_drawn_106 {P : gb_F → Prop} (hW : gb_sm P) {n : Nat} : ∀ (mm : Nat) (f : gb_F) (w : Int64) (v3 : Int32) (v4 : Int32) (v5 : Int32), P f → gb_pm P (ms_drawn_106 n mm f w v3 v4 v5) := by
  intro mm
  induction mm with
  | zero =>
    intros
    exact pm_none
  | succ mm ih =>
    intro f w v3 v4 v5 h
    unfold ms_drawn_106
    refine pm_if ?_ ?_
    · exact cm_drawn_130 hW _ _ _ _ _ _ h
    · refine pm_ck ?_
      refine pm_ltS (hW.2 _ _ _ (by decide) h) (fun f_56 hf_56 => ?_)
      refine pm_ltV (fun x_57 => ?_)
      exact ih _ _ _ _ _ hf_56
theorem cm_drawn_83 {P : gb_F → Prop} (hW : gb_sm P) {n : Nat} : ∀ (mm : Nat) (f : gb_F) (w : Int64) (v3 : Int32) (v4 : Int32) (v5 : Int32), P f → gb_pm P (ms_drawn_83 n mm f w v3 v4 v5) := by
  intro mm
  induction mm with
  | zero =>
    intros
    exact pm_none
  | succ mm ih =>
    intro f w v3 v4 v5 h
    unfold ms_drawn_83
    refine pm_if ?_ ?_
    · exact cm_drawn_106 hW _ _ _ _ _ _ h
    · refine pm_ck ?_
      refine pm_ltS (hW.2 _ _ _ (by decide) h) (fun f_59 hf_59 => ?_)
      refine pm_ltV (fun x_60 => ?_)
      exact ih _ _ _ _ _ hf_59
theorem cm_drawn {P : gb_F → Prop} (hW : gb_sm P) {n : Nat} {f : gb_F} {w : Int64} {p1 : Int32} {p2 : Int32} {p3 : Int32} {p4 : Int32} (h : P f) : gb_pm P (ms_drawn n f w p1 p2 p3 p4) := by
  unfold ms_drawn
  refine pm_bd (cm_isBorder hW h) (fun f_1 wl_2 r_3 hf_1 => ?_)
  refine pm_if ?_ ?_
  · exact pm_some hf_1
  · refine pm_bd (cm_paths hW hf_1) (fun f_7 wl_8 r_9 hf_7 => ?_)
    refine pm_if ?_ ?_
    · exact pm_some hf_7
    · refine pm_bd (cm_isIn hW hf_7) (fun f_13 wl_14 r_15 hf_13 => ?_)
      refine pm_if ?_ ?_
      · exact pm_some hf_13
      · refine pm_bd (cm_isIn hW hf_13) (fun f_19 wl_20 r_21 hf_19 => ?_)
        refine pm_if ?_ ?_
        · refine pm_bd (cm_isPath hW hf_19) (fun f_61 wl_62 r_63 hf_61 => ?_)
          refine pm_if ?_ ?_
          · refine pm_bd (cm_isGoose hW hf_61) (fun f_75 wl_76 r_77 hf_75 => ?_)
            refine pm_if ?_ ?_
            · exact pm_some hf_75
            · refine pm_bd (cm_measures hW hf_75) (fun f_81 wl_82 _ hf_81 => ?_)
              refine pm_ltS (hW.1 _ _ hf_81) (fun f_86 hf_86 => ?_)
              refine pm_ltS (hW.1 _ _ hf_86) (fun f_87 hf_87 => ?_)
              refine pm_ltS (hW.1 _ _ hf_87) (fun f_88 hf_88 => ?_)
              exact cm_drawn_83 hW _ _ _ _ _ _ hf_88
          · refine pm_bd (cm_measures hW hf_61) (fun f_67 wl_68 _ hf_67 => ?_)
            refine pm_ltS (hW.1 _ _ hf_67) (fun f_72 hf_72 => ?_)
            refine pm_ltS (hW.1 _ _ hf_72) (fun f_73 hf_73 => ?_)
            refine pm_ltS (hW.1 _ _ hf_73) (fun f_74 hf_74 => ?_)
            exact cm_drawn_83 hW _ _ _ _ _ _ hf_74
        · refine pm_bd (cm_measures hW hf_19) (fun f_25 wl_26 _ hf_25 => ?_)
          refine pm_ltS (hW.1 _ _ hf_25) (fun f_30 hf_30 => ?_)
          refine pm_ltS (hW.1 _ _ hf_30) (fun f_31 hf_31 => ?_)
          refine pm_ltS (hW.1 _ _ hf_31) (fun f_32 hf_32 => ?_)
          exact cm_drawn_83 hW _ _ _ _ _ _ hf_32
theorem cm_alike_37 {P : gb_F → Prop} (hW : gb_sm P) {n : Nat} : ∀ (mm : Nat) (f : gb_F) (w : Int64) (v2 : Int32) (v3 : Int32) (v4 : Int32) (v5 : Int32), P f → gb_pm P (ms_alike_37 n mm f w v2 v3 v4 v5) := by
  intro mm
  induction mm with
  | zero =>
    intros
    exact pm_none
  | succ mm ih =>
    intro f w v2 v3 v4 v5 h
    unfold ms_alike_37
    refine pm_bd (cm_paths hW h) (fun f_20 wl_21 r_22 hf_20 => ?_)
    refine pm_if ?_ ?_
    · exact pm_some hf_20
    · refine pm_bd (cm_firstMarks hW hf_20) (fun f_26 wl_27 r_28 hf_26 => ?_)
      refine pm_bd (cm_firstMarks hW hf_26) (fun f_31 wl_32 r_33 hf_31 => ?_)
      refine pm_if ?_ ?_
      · refine pm_ltV (fun x_39 => ?_)
        refine pm_ltV (fun x_40 => ?_)
        exact ih _ _ _ _ _ _ hf_31
      · refine pm_ltV (fun x_37 => ?_)
        refine pm_ltV (fun x_38 => ?_)
        exact ih _ _ _ _ _ _ hf_31
theorem cm_alike {P : gb_F → Prop} (hW : gb_sm P) {n : Nat} {f : gb_F} {w : Int64} {p1 : Int32} {p2 : Int32} {p3 : Int32} (h : P f) : gb_pm P (ms_alike n f w p1 p2 p3) := by
  unfold ms_alike
  refine pm_bd (cm_isBorder hW h) (fun f_1 wl_2 r_3 hf_1 => ?_)
  refine pm_if ?_ ?_
  · exact pm_some hf_1
  · refine pm_bd (cm_isGoose hW hf_1) (fun f_7 wl_8 r_9 hf_7 => ?_)
    refine pm_if ?_ ?_
    · exact pm_some hf_7
    · refine pm_bd (cm_isGoose hW hf_7) (fun f_13 wl_14 r_15 hf_13 => ?_)
      refine pm_if ?_ ?_
      · exact pm_some hf_13
      · refine pm_if ?_ ?_
        · exact pm_some hf_13
        · exact cm_alike_37 hW _ _ _ _ _ _ _ hf_13
theorem cm_span_56 {P : gb_F → Prop} (hW : gb_sm P) {n : Nat} {k36 : gb_F → Int64 → Int32 → Int32 → Int32 → Int32 → Int32 → gb_MR Int32} (h_k36 : ∀ (s : gb_F) (x1 : Int64) (x2 : Int32) (x3 : Int32) (x4 : Int32) (x5 : Int32) (x6 : Int32), P s → gb_pm P (k36 s x1 x2 x3 x4 x5 x6)) : ∀ (mm : Nat) (f : gb_F) (w : Int64) (v2 : Int32) (v3 : Int32) (v4 : Int32) (v5 : Int32) (v6 : Int32) (v7 : Int32) (v8 : Int32) (v9 : Int32), P f → gb_pm P (ms_span_56 n k36 mm f w v2 v3 v4 v5 v6 v7 v8 v9) := by
  intro mm
  induction mm with
  | zero =>
    intros
    exact pm_none
  | succ mm ih =>
    intro f w v2 v3 v4 v5 v6 v7 v8 v9 h
    unfold ms_span_56
    refine pm_bd (cm_geese hW h) (fun f_30 wl_31 r_32 hf_30 => ?_)
    refine pm_if ?_ ?_
    · refine pm_if ?_ ?_
      · refine pm_if ?_ ?_
        · refine pm_ltV (fun x_39 => ?_)
          exact h_k36 _ _ _ _ _ _ _ hf_30
        · refine pm_if ?_ ?_
          · refine pm_if ?_ ?_
            · refine pm_ltV (fun x_42 => ?_)
              exact h_k36 _ _ _ _ _ _ _ hf_30
            · refine pm_ltV (fun x_43 => ?_)
              exact h_k36 _ _ _ _ _ _ _ hf_30
          · refine pm_if ?_ ?_
            · refine pm_ltV (fun x_45 => ?_)
              exact h_k36 _ _ _ _ _ _ _ hf_30
            · refine pm_ltV (fun x_46 => ?_)
              exact h_k36 _ _ _ _ _ _ _ hf_30
      · refine pm_ltV (fun x_37 => ?_)
        exact h_k36 _ _ _ _ _ _ _ hf_30
    · refine pm_ltV (fun x_47 => ?_)
      refine pm_if ?_ ?_
      · refine pm_bd (cm_firstMarks hW hf_30) (fun f_51 wl_52 r_53 hf_51 => ?_)
        refine pm_ltV (fun x_56 => ?_)
        refine pm_ltV (fun x_57 => ?_)
        exact ih _ _ _ _ _ _ _ _ _ _ hf_51
      · refine pm_ltV (fun x_49 => ?_)
        refine pm_ltV (fun x_50 => ?_)
        exact ih _ _ _ _ _ _ _ _ _ _ hf_30
theorem cm_span_36 {P : gb_F → Prop} (hW : gb_sm P) {n : Nat} : ∀ (mm : Nat) (f : gb_F) (w : Int64) (v2 : Int32) (v3 : Int32) (v4 : Int32) (v5 : Int32) (v6 : Int32), P f → gb_pm P (ms_span_36 n mm f w v2 v3 v4 v5 v6) := by
  intro mm
  induction mm with
  | zero =>
    intros
    exact pm_none
  | succ mm ih =>
    intro f w v2 v3 v4 v5 v6 h
    unfold ms_span_36
    refine pm_bd (cm_geese hW h) (fun f_24 wl_25 r_26 hf_24 => ?_)
    refine pm_if ?_ ?_
    · exact pm_some hf_24
    · refine cm_span_56 hW ?_ _ _ _ _ _ _ _ _ _ _ _ hf_24
      · intro f w v2 v3 v4 v5 v6 hf
        exact ih _ _ _ _ _ _ _ hf
theorem cm_span {P : gb_F → Prop} (hW : gb_sm P) {n : Nat} {f : gb_F} {w : Int64} {p1 : Int32} {p2 : Int32} {p3 : Int32} {p4 : Int32} (h : P f) : gb_pm P (ms_span n f w p1 p2 p3 p4) := by
  unfold ms_span
  refine pm_bd (cm_isBorder hW h) (fun f_1 wl_2 r_3 hf_1 => ?_)
  refine pm_if ?_ ?_
  · exact pm_some hf_1
  · refine pm_bd (cm_isPath hW hf_1) (fun f_7 wl_8 r_9 hf_7 => ?_)
    refine pm_if ?_ ?_
    · exact pm_some hf_7
    · refine pm_bd (cm_geese hW hf_7) (fun f_13 wl_14 r_15 hf_13 => ?_)
      refine pm_bd (cm_isIn hW hf_13) (fun f_18 wl_19 r_20 hf_18 => ?_)
      refine pm_if ?_ ?_
      · exact pm_some hf_18
      · exact cm_span_36 hW _ _ _ _ _ _ _ _ hf_18
theorem cm_split_57 {P : gb_F → Prop} (hW : gb_sm P) {n : Nat} {k40 : gb_F → Int64 → Int32 → Int32 → Int32 → Int32 → Int32 → Int32 → gb_MR Int32} (h_k40 : ∀ (s : gb_F) (x1 : Int64) (x2 : Int32) (x3 : Int32) (x4 : Int32) (x5 : Int32) (x6 : Int32) (x7 : Int32), P s → gb_pm P (k40 s x1 x2 x3 x4 x5 x6 x7)) : ∀ (mm : Nat) (f : gb_F) (w : Int64) (v2 : Int32) (v3 : Int32) (v4 : Int32) (v5 : Int32) (v6 : Int32) (v7 : Int32) (v8 : Int32) (v9 : Int32), P f → gb_pm P (ms_split_57 n k40 mm f w v2 v3 v4 v5 v6 v7 v8 v9) := by
  intro mm
  induction mm with
  | zero =>
    intros
    exact pm_none
  | succ mm ih =>
    intro f w v2 v3 v4 v5 v6 v7 v8 v9 h
    unfold ms_split_57
    refine pm_bd (cm_geese hW h) (fun f_27 wl_28 r_29 hf_27 => ?_)
    refine pm_if ?_ ?_
    · refine pm_if ?_ ?_
      · refine pm_if ?_ ?_
        · refine pm_ltV (fun x_35 => ?_)
          exact h_k40 _ _ _ _ _ _ _ _ hf_27
        · refine pm_if ?_ ?_
          · refine pm_ltV (fun x_37 => ?_)
            exact h_k40 _ _ _ _ _ _ _ _ hf_27
          · refine pm_ltV (fun x_38 => ?_)
            exact h_k40 _ _ _ _ _ _ _ _ hf_27
      · refine pm_ltV (fun x_39 => ?_)
        refine pm_if ?_ ?_
        · refine pm_ltV (fun x_41 => ?_)
          exact h_k40 _ _ _ _ _ _ _ _ hf_27
        · refine pm_if ?_ ?_
          · refine pm_ltV (fun x_43 => ?_)
            exact h_k40 _ _ _ _ _ _ _ _ hf_27
          · refine pm_ltV (fun x_44 => ?_)
            exact h_k40 _ _ _ _ _ _ _ _ hf_27
    · refine pm_if ?_ ?_
      · refine pm_bd (cm_firstMarks hW hf_27) (fun f_53 wl_54 r_55 hf_53 => ?_)
        refine pm_ltV (fun x_58 => ?_)
        refine pm_ltV (fun x_59 => ?_)
        exact ih _ _ _ _ _ _ _ _ _ _ hf_53
      · refine pm_bd (cm_firstMarks hW hf_27) (fun f_46 wl_47 r_48 hf_46 => ?_)
        refine pm_ltV (fun x_51 => ?_)
        refine pm_ltV (fun x_52 => ?_)
        exact ih _ _ _ _ _ _ _ _ _ _ hf_46
theorem cm_split_40 {P : gb_F → Prop} (hW : gb_sm P) {n : Nat} : ∀ (mm : Nat) (f : gb_F) (w : Int64) (v2 : Int32) (v3 : Int32) (v4 : Int32) (v5 : Int32) (v6 : Int32) (v7 : Int32), P f → gb_pm P (ms_split_40 n mm f w v2 v3 v4 v5 v6 v7) := by
  intro mm
  induction mm with
  | zero =>
    intros
    exact pm_none
  | succ mm ih =>
    intro f w v2 v3 v4 v5 v6 v7 h
    unfold ms_split_40
    refine pm_bd (cm_geese hW h) (fun f_20 wl_21 r_22 hf_20 => ?_)
    refine pm_if ?_ ?_
    · refine pm_if ?_ ?_
      · exact pm_some hf_20
      · exact pm_some hf_20
    · refine cm_split_57 hW ?_ _ _ _ _ _ _ _ _ _ _ _ hf_20
      · intro f w v2 v3 v4 v5 v6 v7 hf
        exact ih _ _ _ _ _ _ _ _ hf
theorem cm_split {P : gb_F → Prop} (hW : gb_sm P) {n : Nat} {f : gb_F} {w : Int64} {p1 : Int32} {p2 : Int32} {p3 : Int32} {p4 : Int32} (h : P f) : gb_pm P (ms_split n f w p1 p2 p3 p4) := by
  unfold ms_split
  refine pm_bd (cm_isBorder hW h) (fun f_1 wl_2 r_3 hf_1 => ?_)
  refine pm_if ?_ ?_
  · exact pm_some hf_1
  · refine pm_bd (cm_isPath hW hf_1) (fun f_7 wl_8 r_9 hf_7 => ?_)
    refine pm_if ?_ ?_
    · exact pm_some hf_7
    · refine pm_bd (cm_isPath hW hf_7) (fun f_13 wl_14 r_15 hf_13 => ?_)
      refine pm_if ?_ ?_
      · exact pm_some hf_13
      · refine pm_if ?_ ?_
        · exact pm_some hf_13
        · exact cm_split_40 hW _ _ _ _ _ _ _ _ _ hf_13
theorem cm_two_147 {P : gb_F → Prop} (hW : gb_sm P) {n : Nat} {k66 : gb_F → Int64 → Int32 → Int32 → Int32 → Int32 → Int32 → Int32 → Int32 → gb_MR Int32} (h_k66 : ∀ (s : gb_F) (x1 : Int64) (x2 : Int32) (x3 : Int32) (x4 : Int32) (x5 : Int32) (x6 : Int32) (x7 : Int32) (x8 : Int32), P s → gb_pm P (k66 s x1 x2 x3 x4 x5 x6 x7 x8)) {f : gb_F} {w : Int64} {v2 : Int32} {v4 : Int32} {v5 : Int32} {v6 : Int32} {v7 : Int32} {v8 : Int32} {v9 : Int32} {v10 : Int32} {v11 : Int32} {t0 : Int32} (h : P f) : gb_pm P (ms_two_147 n k66 f w v2 v4 v5 v6 v7 v8 v9 v10 v11 t0) := by
  unfold ms_two_147
  refine pm_bd (cm_ofPath hW h) (fun f_75 wl_76 r_77 hf_75 => ?_)
  refine pm_bd (cm_firstMarks hW hf_75) (fun f_80 wl_81 r_82 hf_80 => ?_)
  refine pm_bd (cm_padded hW hf_80) (fun f_85 wl_86 r_87 hf_85 => ?_)
  refine pm_ltV (fun x_90 => ?_)
  refine pm_ck ?_
  refine pm_ltV (fun x_92 => ?_)
  refine pm_bd (cm_ofGoose hW hf_85) (fun f_93 wl_94 r_95 hf_93 => ?_)
  refine pm_bd (cm_left hW hf_93) (fun f_98 wl_99 r_100 hf_98 => ?_)
  refine pm_ltS (hW.1 _ _ hf_98) (fun f_103 hf_103 => ?_)
  refine pm_bd (cm_ofPath hW hf_103) (fun f_104 wl_105 r_106 hf_104 => ?_)
  refine pm_bd (cm_padded hW hf_104) (fun f_109 wl_110 r_111 hf_109 => ?_)
  refine pm_ltV (fun x_114 => ?_)
  refine pm_ltS (hW.1 _ _ hf_109) (fun f_115 hf_115 => ?_)
  refine pm_if ?_ ?_
  · refine pm_ltV (fun x_117 => ?_)
    exact h_k66 _ _ _ _ _ _ _ _ _ hf_115
  · refine pm_if ?_ ?_
    · refine pm_ltV (fun x_119 => ?_)
      exact h_k66 _ _ _ _ _ _ _ _ _ hf_115
    · refine pm_ltV (fun x_120 => ?_)
      exact h_k66 _ _ _ _ _ _ _ _ _ hf_115
theorem cm_two_66 {P : gb_F → Prop} (hW : gb_sm P) {n : Nat} : ∀ (mm : Nat) (f : gb_F) (w : Int64) (v2 : Int32) (v4 : Int32) (v5 : Int32) (v6 : Int32) (v7 : Int32) (v8 : Int32) (v9 : Int32), P f → gb_pm P (ms_two_66 n mm f w v2 v4 v5 v6 v7 v8 v9) := by
  intro mm
  induction mm with
  | zero =>
    intros
    exact pm_none
  | succ mm ih =>
    intro f w v2 v4 v5 v6 v7 v8 v9 h
    unfold ms_two_66
    refine pm_bd (cm_paths hW h) (fun f_37 wl_38 r_39 hf_37 => ?_)
    refine pm_ck ?_
    refine pm_ltV (fun x_43 => ?_)
    refine pm_if ?_ ?_
    · refine pm_if ?_ ?_
      · refine pm_if ?_ ?_
        · refine pm_ck ?_
          refine pm_ltV (fun x_53 => ?_)
          refine pm_nz ?_
          refine pm_ltV (fun x_55 => ?_)
          exact pm_some hf_37
        · refine pm_if ?_ ?_
          · refine pm_ck ?_
            refine pm_ltV (fun x_49 => ?_)
            refine pm_nz ?_
            refine pm_ltV (fun x_51 => ?_)
            exact pm_some hf_37
          · exact pm_some hf_37
      · exact pm_some hf_37
    · refine pm_ck ?_
      refine pm_ltV (fun x_57 => ?_)
      refine pm_nz ?_
      refine pm_ltV (fun x_59 => ?_)
      refine pm_ck ?_
      refine pm_ltV (fun x_61 => ?_)
      refine pm_nz ?_
      refine pm_ltV (fun x_63 => ?_)
      refine pm_bd (cm_ofGoose hW hf_37) (fun f_64 wl_65 r_66 hf_64 => ?_)
      refine pm_bd (cm_ofPath hW hf_64) (fun f_69 wl_70 r_71 hf_69 => ?_)
      refine pm_if ?_ ?_
      · refine cm_two_147 hW ?_ hf_69
        · intro f w v2 v4 v5 v6 v7 v8 v9 hf
          exact ih _ _ _ _ _ _ _ _ _ hf
      · refine pm_bd (cm_ofGoose hW hf_69) (fun f_121 wl_122 r_123 hf_121 => ?_)
        refine pm_bd (cm_ofPath hW hf_121) (fun f_126 wl_127 r_128 hf_126 => ?_)
        refine cm_two_147 hW ?_ hf_126
        · intro f w v2 v4 v5 v6 v7 v8 v9 hf
          exact ih _ _ _ _ _ _ _ _ _ hf
theorem cm_two {P : gb_F → Prop} (hW : gb_sm P) {n : Nat} {f : gb_F} {w : Int64} {p1 : Int32} {p2 : Int32} {p3 : Int32} {p4 : Int32} (h : P f) : gb_pm P (ms_two n f w p1 p2 p3 p4) := by
  unfold ms_two
  refine pm_bd (cm_isBorder hW h) (fun f_1 wl_2 r_3 hf_1 => ?_)
  refine pm_if ?_ ?_
  · exact pm_some hf_1
  · refine pm_bd (cm_isGoose hW hf_1) (fun f_7 wl_8 r_9 hf_7 => ?_)
    refine pm_if ?_ ?_
    · exact pm_some hf_7
    · refine pm_bd (cm_paths hW hf_7) (fun f_13 wl_14 r_15 hf_13 => ?_)
      refine pm_if ?_ ?_
      · exact pm_some hf_13
      · refine pm_bd (cm_isOf hW hf_13) (fun f_19 wl_20 r_21 hf_19 => ?_)
        refine pm_if ?_ ?_
        · exact pm_some hf_19
        · refine pm_bd (cm_isIn hW hf_19) (fun f_25 wl_26 r_27 hf_25 => ?_)
          refine pm_if ?_ ?_
          · exact pm_some hf_25
          · refine pm_ltV (fun x_31 => ?_)
            refine pm_bd (cm_placeOf hW hf_25) (fun f_32 wl_33 r_34 hf_32 => ?_)
            exact cm_two_66 hW _ _ _ _ _ _ _ _ _ _ hf_32
theorem cm_bits_4 {P : gb_F → Prop} (hW : gb_sm P) {n : Nat} : ∀ (mm : Nat) (f : gb_F) (w : Int64) (v0 : Int32) (v1 : Int32) (v2 : Int32), P f → gb_pm P (ms_bits_4 n mm f w v0 v1 v2) := by
  intro mm
  induction mm with
  | zero =>
    intros
    exact pm_none
  | succ mm ih =>
    intro f w v0 v1 v2 h
    unfold ms_bits_4
    refine pm_if ?_ ?_
    · exact pm_some h
    · refine pm_ltV (fun x_2 => ?_)
      refine pm_ltV (fun x_3 => ?_)
      exact ih _ _ _ _ _ h
theorem cm_bits {P : gb_F → Prop} (hW : gb_sm P) {n : Nat} {f : gb_F} {w : Int64} {p1 : Int32} (h : P f) : gb_pm P (ms_bits n f w p1) := by
  unfold ms_bits
  exact cm_bits_4 hW _ _ _ _ _ _ h
theorem cm_backs_52 {P : gb_F → Prop} (hW : gb_sm P) {n : Nat} {k35 : gb_F → Int64 → Int32 → Int32 → Int32 → Int32 → Int32 → gb_MR Int32} (h_k35 : ∀ (s : gb_F) (x1 : Int64) (x2 : Int32) (x3 : Int32) (x4 : Int32) (x5 : Int32) (x6 : Int32), P s → gb_pm P (k35 s x1 x2 x3 x4 x5 x6)) : ∀ (mm : Nat) (f : gb_F) (w : Int64) (v2 : Int32) (v3 : Int32) (v4 : Int32) (v5 : Int32) (v6 : Int32) (v7 : Int32) (v8 : Int32), P f → gb_pm P (ms_backs_52 n k35 mm f w v2 v3 v4 v5 v6 v7 v8) := by
  intro mm
  induction mm with
  | zero =>
    intros
    exact pm_none
  | succ mm ih =>
    intro f w v2 v3 v4 v5 v6 v7 v8 h
    unfold ms_backs_52
    refine pm_bd (cm_geese hW h) (fun f_31 wl_32 r_33 hf_31 => ?_)
    refine pm_if ?_ ?_
    · refine pm_if ?_ ?_
      · refine pm_ltV (fun x_38 => ?_)
        exact h_k35 _ _ _ _ _ _ _ hf_31
      · refine pm_if ?_ ?_
        · refine pm_ltV (fun x_40 => ?_)
          exact h_k35 _ _ _ _ _ _ _ hf_31
        · refine pm_bd (cm_bits hW hf_31) (fun f_41 wl_42 r_43 hf_41 => ?_)
          refine pm_bd (cm_bits hW hf_41) (fun f_46 wl_47 r_48 hf_46 => ?_)
          refine pm_if ?_ ?_
          · refine pm_ltV (fun x_52 => ?_)
            exact h_k35 _ _ _ _ _ _ _ hf_46
          · refine pm_ltV (fun x_53 => ?_)
            exact h_k35 _ _ _ _ _ _ _ hf_46
    · refine pm_if ?_ ?_
      · refine pm_bd (cm_firstMarks hW hf_31) (fun f_62 wl_63 r_64 hf_62 => ?_)
        refine pm_ltV (fun x_67 => ?_)
        refine pm_ltV (fun x_68 => ?_)
        exact ih _ _ _ _ _ _ _ _ _ hf_62
      · refine pm_bd (cm_firstMarks hW hf_31) (fun f_55 wl_56 r_57 hf_55 => ?_)
        refine pm_ltV (fun x_60 => ?_)
        refine pm_ltV (fun x_61 => ?_)
        exact ih _ _ _ _ _ _ _ _ _ hf_55
theorem cm_backs_35 {P : gb_F → Prop} (hW : gb_sm P) {n : Nat} : ∀ (mm : Nat) (f : gb_F) (w : Int64) (v2 : Int32) (v3 : Int32) (v4 : Int32) (v5 : Int32) (v6 : Int32), P f → gb_pm P (ms_backs_35 n mm f w v2 v3 v4 v5 v6) := by
  intro mm
  induction mm with
  | zero =>
    intros
    exact pm_none
  | succ mm ih =>
    intro f w v2 v3 v4 v5 v6 h
    unfold ms_backs_35
    refine pm_bd (cm_geese hW h) (fun f_19 wl_20 r_21 hf_19 => ?_)
    refine pm_if ?_ ?_
    · refine pm_if ?_ ?_
      · exact pm_some hf_19
      · refine pm_bd (cm_bits hW hf_19) (fun f_26 wl_27 r_28 hf_26 => ?_)
        exact pm_some hf_26
    · refine cm_backs_52 hW ?_ _ _ _ _ _ _ _ _ _ _ hf_19
      · intro f w v2 v3 v4 v5 v6 hf
        exact ih _ _ _ _ _ _ _ hf
theorem cm_backs {P : gb_F → Prop} (hW : gb_sm P) {n : Nat} {f : gb_F} {w : Int64} {p1 : Int32} {p2 : Int32} {p3 : Int32} {p4 : Int32} (h : P f) : gb_pm P (ms_backs n f w p1 p2 p3 p4) := by
  unfold ms_backs
  refine pm_bd (cm_isBorder hW h) (fun f_1 wl_2 r_3 hf_1 => ?_)
  refine pm_if ?_ ?_
  · exact pm_some hf_1
  · refine pm_bd (cm_isPath hW hf_1) (fun f_7 wl_8 r_9 hf_7 => ?_)
    refine pm_if ?_ ?_
    · exact pm_some hf_7
    · refine pm_bd (cm_isIn hW hf_7) (fun f_13 wl_14 r_15 hf_13 => ?_)
      refine pm_if ?_ ?_
      · exact pm_some hf_13
      · exact cm_backs_35 hW _ _ _ _ _ _ _ _ hf_13
theorem cm_apartWithout_112 {P : gb_F → Prop} (hW : gb_sm P) {n : Nat} {k4 : gb_F → Int64 → Int32 → Int32 → Int32 → gb_MR Int32} (h_k4 : ∀ (s : gb_F) (x1 : Int64) (x2 : Int32) (x3 : Int32) (x4 : Int32), P s → gb_pm P (k4 s x1 x2 x3 x4)) : ∀ (mm : Nat) (f : gb_F) (w : Int64) (v1 : Int32) (v2 : Int32) (v3 : Int32) (v4 : Int32) (v5 : Int32) (v6 : Int32) (v7 : Int32) (v8 : Int32), P f → gb_pm P (ms_apartWithout_112 n k4 mm f w v1 v2 v3 v4 v5 v6 v7 v8) := by
  intro mm
  induction mm with
  | zero =>
    intros
    exact pm_none
  | succ mm ih =>
    intro f w v1 v2 v3 v4 v5 v6 v7 v8 h
    unfold ms_apartWithout_112
    refine pm_bd (cm_geese hW h) (fun f_18 wl_19 r_20 hf_18 => ?_)
    refine pm_if ?_ ?_
    · refine pm_if ?_ ?_
      · refine pm_ltV (fun x_25 => ?_)
        exact h_k4 _ _ _ _ _ hf_18
      · refine pm_if ?_ ?_
        · refine pm_ltV (fun x_27 => ?_)
          refine pm_ltV (fun x_28 => ?_)
          exact h_k4 _ _ _ _ _ hf_18
        · refine pm_if ?_ ?_
          · refine pm_ltV (fun x_30 => ?_)
            exact h_k4 _ _ _ _ _ hf_18
          · refine pm_ltV (fun x_31 => ?_)
            refine pm_ltV (fun x_32 => ?_)
            exact h_k4 _ _ _ _ _ hf_18
    · refine pm_if ?_ ?_
      · refine pm_bd (cm_paths hW hf_18) (fun f_34 wl_35 r_36 hf_34 => ?_)
        refine pm_nz ?_
        refine pm_ltV (fun x_40 => ?_)
        refine pm_ltV (fun x_41 => ?_)
        exact ih _ _ _ _ _ _ _ _ _ _ hf_34
      · refine pm_bd (cm_paths hW hf_18) (fun f_42 wl_43 r_44 hf_42 => ?_)
        refine pm_nz ?_
        refine pm_ltV (fun x_48 => ?_)
        refine pm_if ?_ ?_
        · refine pm_bd (cm_paths hW hf_42) (fun f_50 wl_51 r_52 hf_50 => ?_)
          refine pm_nz ?_
          refine pm_ltV (fun x_56 => ?_)
          refine pm_ltV (fun x_57 => ?_)
          exact ih _ _ _ _ _ _ _ _ _ _ hf_50
        · refine pm_bd (cm_paths hW hf_42) (fun f_58 wl_59 r_60 hf_58 => ?_)
          refine pm_nz ?_
          refine pm_ltV (fun x_64 => ?_)
          refine pm_ltV (fun x_65 => ?_)
          exact ih _ _ _ _ _ _ _ _ _ _ hf_58
theorem cm_apartWithout_71 {P : gb_F → Prop} (hW : gb_sm P) {n : Nat} {k4 : gb_F → Int64 → Int32 → Int32 → Int32 → gb_MR Int32} {k26 : gb_F → Int64 → Int32 → Int32 → Int32 → Int32 → Int32 → Int32 → gb_MR Int32} (h_k4 : ∀ (s : gb_F) (x1 : Int64) (x2 : Int32) (x3 : Int32) (x4 : Int32), P s → gb_pm P (k4 s x1 x2 x3 x4)) (h_k26 : ∀ (s : gb_F) (x1 : Int64) (x2 : Int32) (x3 : Int32) (x4 : Int32) (x5 : Int32) (x6 : Int32) (x7 : Int32), P s → gb_pm P (k26 s x1 x2 x3 x4 x5 x6 x7)) {f : gb_F} {w : Int64} {v1 : Int32} {v2 : Int32} {v3 : Int32} {v5 : Int32} {v6 : Int32} {t0 : Int32} (h : P f) : gb_pm P (ms_apartWithout_71 n k4 k26 f w v1 v2 v3 v5 v6 t0) := by
  unfold ms_apartWithout_71
  refine pm_bd (cm_payOf hW h) (fun f_73 wl_74 r_75 hf_73 => ?_)
  refine pm_if ?_ ?_
  · refine pm_ltV (fun x_79 => ?_)
    exact h_k26 _ _ _ _ _ _ _ _ hf_73
  · refine pm_bd (cm_payOf hW hf_73) (fun f_80 wl_81 r_82 hf_80 => ?_)
    refine pm_ltV (fun x_85 => ?_)
    exact h_k26 _ _ _ _ _ _ _ _ hf_80
theorem cm_apartWithout_60 {P : gb_F → Prop} (hW : gb_sm P) {n : Nat} {k4 : gb_F → Int64 → Int32 → Int32 → Int32 → gb_MR Int32} {k26 : gb_F → Int64 → Int32 → Int32 → Int32 → Int32 → Int32 → Int32 → gb_MR Int32} (h_k4 : ∀ (s : gb_F) (x1 : Int64) (x2 : Int32) (x3 : Int32) (x4 : Int32), P s → gb_pm P (k4 s x1 x2 x3 x4)) (h_k26 : ∀ (s : gb_F) (x1 : Int64) (x2 : Int32) (x3 : Int32) (x4 : Int32) (x5 : Int32) (x6 : Int32) (x7 : Int32), P s → gb_pm P (k26 s x1 x2 x3 x4 x5 x6 x7)) {f : gb_F} {w : Int64} {v1 : Int32} {v2 : Int32} {v3 : Int32} {v5 : Int32} {v6 : Int32} (h : P f) : gb_pm P (ms_apartWithout_60 n k4 k26 f w v1 v2 v3 v5 v6) := by
  unfold ms_apartWithout_60
  refine pm_bd (cm_payOf hW h) (fun f_68 wl_69 r_70 hf_68 => ?_)
  exact cm_apartWithout_71 hW h_k4 h_k26 hf_68
theorem cm_apartWithout_26 {P : gb_F → Prop} (hW : gb_sm P) {n : Nat} {k4 : gb_F → Int64 → Int32 → Int32 → Int32 → gb_MR Int32} (h_k4 : ∀ (s : gb_F) (x1 : Int64) (x2 : Int32) (x3 : Int32) (x4 : Int32), P s → gb_pm P (k4 s x1 x2 x3 x4)) : ∀ (mm : Nat) (f : gb_F) (w : Int64) (v1 : Int32) (v2 : Int32) (v3 : Int32) (v4 : Int32) (v5 : Int32) (v6 : Int32), P f → gb_pm P (ms_apartWithout_26 n k4 mm f w v1 v2 v3 v4 v5 v6) := by
  intro mm
  induction mm with
  | zero =>
    intros
    exact pm_none
  | succ mm ih =>
    intro f w v1 v2 v3 v4 v5 v6 h
    unfold ms_apartWithout_26
    refine pm_bd (cm_paths hW h) (fun f_12 wl_13 r_14 hf_12 => ?_)
    refine pm_if ?_ ?_
    · exact cm_apartWithout_112 hW h_k4 _ _ _ _ _ _ _ _ _ _ _ hf_12
    · refine pm_if ?_ ?_
      · refine pm_ltV (fun x_92 => ?_)
        exact ih _ _ _ _ _ _ _ _ hf_12
      · refine pm_if ?_ ?_
        · refine cm_apartWithout_60 hW h_k4 ?_ hf_12
          · intro f w v1 v2 v3 v4 v5 v6 hf
            exact ih _ _ _ _ _ _ _ _ hf
        · refine pm_bd (cm_payOf hW hf_12) (fun f_86 wl_87 r_88 hf_86 => ?_)
          refine pm_if ?_ ?_
          · refine cm_apartWithout_71 hW h_k4 ?_ hf_86
            · intro f w v1 v2 v3 v4 v5 v6 hf
              exact ih _ _ _ _ _ _ _ _ hf
          · refine cm_apartWithout_60 hW h_k4 ?_ hf_86
            · intro f w v1 v2 v3 v4 v5 v6 hf
              exact ih _ _ _ _ _ _ _ _ hf
theorem cm_apartWithout_4 {P : gb_F → Prop} (hW : gb_sm P) {n : Nat} : ∀ (mm : Nat) (f : gb_F) (w : Int64) (v1 : Int32) (v2 : Int32) (v3 : Int32), P f → gb_pm P (ms_apartWithout_4 n mm f w v1 v2 v3) := by
  intro mm
  induction mm with
  | zero =>
    intros
    exact pm_none
  | succ mm ih =>
    intro f w v1 v2 v3 h
    unfold ms_apartWithout_4
    refine pm_bd (cm_codes hW h) (fun f_1 wl_2 r_3 hf_1 => ?_)
    refine pm_if ?_ ?_
    · exact pm_some hf_1
    · refine pm_bd (cm_sums hW hf_1) (fun f_7 wl_8 _ hf_7 => ?_)
      refine cm_apartWithout_26 hW ?_ _ _ _ _ _ _ _ _ _ hf_7
      · intro f w v1 v2 v3 hf
        exact ih _ _ _ _ _ hf
theorem cm_apartWithout {P : gb_F → Prop} (hW : gb_sm P) {n : Nat} {f : gb_F} {w : Int64} {p1 : Int32} (h : P f) : gb_pm P (ms_apartWithout n f w p1) := by
  unfold ms_apartWithout
  exact cm_apartWithout_4 hW _ _ _ _ _ _ h
theorem cm_close_30 {P : gb_F → Prop} (hW : gb_sm P) {n : Nat} : ∀ (mm : Nat) (f : gb_F) (w : Int64) (v2 : Int32) (v3 : Int32) (v4 : Int32) (v5 : Int32), P f → gb_pm P (ms_close_30 n mm f w v2 v3 v4 v5) := by
  intro mm
  induction mm with
  | zero =>
    intros
    exact pm_none
  | succ mm ih =>
    intro f w v2 v3 v4 v5 h
    unfold ms_close_30
    refine pm_bd (cm_paths hW h) (fun f_18 wl_19 r_20 hf_18 => ?_)
    refine pm_if ?_ ?_
    · refine pm_if ?_ ?_
      · exact pm_some hf_18
      · exact pm_some hf_18
    · refine pm_bd (cm_apartWithout hW hf_18) (fun f_25 wl_26 r_27 hf_25 => ?_)
      refine pm_if ?_ ?_
      · refine pm_ltV (fun x_31 => ?_)
        exact ih _ _ _ _ _ _ hf_25
      · refine pm_if ?_ ?_
        · refine pm_ltV (fun x_33 => ?_)
          exact ih _ _ _ _ _ _ hf_25
        · refine pm_ltV (fun x_34 => ?_)
          exact ih _ _ _ _ _ _ hf_25
theorem cm_close {P : gb_F → Prop} (hW : gb_sm P) {n : Nat} {f : gb_F} {w : Int64} {p1 : Int32} {p2 : Int32} (h : P f) : gb_pm P (ms_close n f w p1 p2) := by
  unfold ms_close
  refine pm_bd (cm_canMarch hW h) (fun f_1 wl_2 r_3 hf_1 => ?_)
  refine pm_if ?_ ?_
  · exact pm_some hf_1
  · refine pm_bd (cm_paths hW hf_1) (fun f_7 wl_8 r_9 hf_7 => ?_)
    refine pm_if ?_ ?_
    · refine pm_bd (cm_measures hW hf_7) (fun f_13 wl_14 _ hf_13 => ?_)
      exact cm_close_30 hW _ _ _ _ _ _ _ hf_13
    · exact pm_some hf_7
theorem cm_near_75 {P : gb_F → Prop} (hW : gb_sm P) {n : Nat} {k52 : gb_F → Int64 → Int32 → Int32 → Int32 → Int32 → gb_MR Int32} (h_k52 : ∀ (s : gb_F) (x1 : Int64) (x2 : Int32) (x3 : Int32) (x4 : Int32) (x5 : Int32), P s → gb_pm P (k52 s x1 x2 x3 x4 x5)) : ∀ (mm : Nat) (f : gb_F) (w : Int64) (v3 : Int32) (v4 : Int32) (v5 : Int32) (v6 : Int32) (v7 : Int32) (v8 : Int32), P f → gb_pm P (ms_near_75 n k52 mm f w v3 v4 v5 v6 v7 v8) := by
  intro mm
  induction mm with
  | zero =>
    intros
    exact pm_none
  | succ mm ih =>
    intro f w v3 v4 v5 v6 v7 v8 h
    unfold ms_near_75
    refine pm_bd (cm_geese hW h) (fun f_38 wl_39 r_40 hf_38 => ?_)
    refine pm_if ?_ ?_
    · refine pm_if ?_ ?_
      · refine pm_if ?_ ?_
        · refine pm_ltV (fun x_46 => ?_)
          exact h_k52 _ _ _ _ _ _ hf_38
        · refine pm_if ?_ ?_
          · refine pm_ltV (fun x_48 => ?_)
            exact h_k52 _ _ _ _ _ _ hf_38
          · refine pm_ltV (fun x_49 => ?_)
            exact h_k52 _ _ _ _ _ _ hf_38
      · refine pm_ltV (fun x_50 => ?_)
        refine pm_if ?_ ?_
        · refine pm_ltV (fun x_52 => ?_)
          exact h_k52 _ _ _ _ _ _ hf_38
        · refine pm_if ?_ ?_
          · refine pm_ltV (fun x_54 => ?_)
            exact h_k52 _ _ _ _ _ _ hf_38
          · refine pm_ltV (fun x_55 => ?_)
            exact h_k52 _ _ _ _ _ _ hf_38
    · refine pm_if ?_ ?_
      · refine pm_bd (cm_seenOf hW hf_38) (fun f_59 wl_60 r_61 hf_59 => ?_)
        refine pm_bd (cm_firstMarks hW hf_59) (fun f_64 wl_65 r_66 hf_64 => ?_)
        refine pm_ltV (fun x_69 => ?_)
        refine pm_ltV (fun x_70 => ?_)
        exact ih _ _ _ _ _ _ _ _ hf_64
      · refine pm_ltV (fun x_57 => ?_)
        refine pm_ltV (fun x_58 => ?_)
        exact ih _ _ _ _ _ _ _ _ hf_38
theorem cm_near_52 {P : gb_F → Prop} (hW : gb_sm P) {n : Nat} : ∀ (mm : Nat) (f : gb_F) (w : Int64) (v3 : Int32) (v4 : Int32) (v5 : Int32) (v6 : Int32), P f → gb_pm P (ms_near_52 n mm f w v3 v4 v5 v6) := by
  intro mm
  induction mm with
  | zero =>
    intros
    exact pm_none
  | succ mm ih =>
    intro f w v3 v4 v5 v6 h
    unfold ms_near_52
    refine pm_bd (cm_geese hW h) (fun f_26 wl_27 r_28 hf_26 => ?_)
    refine pm_if ?_ ?_
    · exact pm_some hf_26
    · refine pm_bd (cm_seenOf hW hf_26) (fun f_32 wl_33 r_34 hf_32 => ?_)
      refine pm_ltV (fun x_37 => ?_)
      refine cm_near_75 hW ?_ _ _ _ _ _ _ _ _ _ hf_32
      · intro f w v3 v4 v5 v6 hf
        exact ih _ _ _ _ _ _ hf
theorem cm_near {P : gb_F → Prop} (hW : gb_sm P) {n : Nat} {f : gb_F} {w : Int64} {p1 : Int32} {p2 : Int32} {p3 : Int32} (h : P f) : gb_pm P (ms_near n f w p1 p2 p3) := by
  unfold ms_near
  refine pm_bd (cm_areSeen hW h) (fun f_1 wl_2 r_3 hf_1 => ?_)
  refine pm_if ?_ ?_
  · exact pm_some hf_1
  · refine pm_ck ?_
    refine pm_ltV (fun x_8 => ?_)
    refine pm_bd (cm_isIn hW hf_1) (fun f_9 wl_10 r_11 hf_9 => ?_)
    refine pm_if ?_ ?_
    · exact pm_some hf_9
    · refine pm_bd (cm_seenOf hW hf_9) (fun f_15 wl_16 r_17 hf_15 => ?_)
      refine pm_bd (cm_isPath hW hf_15) (fun f_20 wl_21 r_22 hf_20 => ?_)
      refine pm_if ?_ ?_
      · exact pm_some hf_20
      · exact cm_near_52 hW _ _ _ _ _ _ _ hf_20
theorem cm_swaps_2 {P : gb_F → Prop} (hW : gb_sm P) (w1 : gb_w1c P) {n : Nat} : ∀ (mm : Nat) (f : gb_F) (w : Int64) (v1 : Int32) (v2 : Int32), P f → gb_pm P (ms_swaps_2 n mm f w v1 v2) := by
  intro mm
  induction mm with
  | zero =>
    intros
    exact pm_none
  | succ mm ih =>
    intro f w v1 v2 h
    unfold ms_swaps_2
    refine pm_if ?_ ?_
    · exact pm_some h
    · refine pm_ltV (fun x_2 => ?_)
      refine pm_ck ?_
      refine pm_ltV (fun x_4 => ?_)
      refine pm_ck ?_
      refine pm_ltV (fun x_6 => ?_)
      refine pm_ck ?_
      refine pm_ltS (w1 _ _ h) (fun f_8 hf_8 => ?_)
      refine pm_ck ?_
      refine pm_ltS (w1 _ _ hf_8) (fun f_10 hf_10 => ?_)
      refine pm_ltV (fun x_11 => ?_)
      exact ih _ _ _ _ hf_10
theorem cm_swaps {P : gb_F → Prop} (hW : gb_sm P) (w1 : gb_w1c P) {n : Nat} {f : gb_F} {w : Int64} {p1 : Int32} (h : P f) : gb_pm P (ms_swaps n f w p1) := by
  unfold ms_swaps
  exact cm_swaps_2 hW w1 _ _ _ _ _ h
theorem cm_shift_79 {P : gb_F → Prop} (hW : gb_sm P) (w1 : gb_w1c P) {n : Nat} {k35 : gb_F → Int64 → Int32 → Int32 → Int32 → Int32 → Int32 → gb_MR Int32} (h_k35 : ∀ (s : gb_F) (x1 : Int64) (x2 : Int32) (x3 : Int32) (x4 : Int32) (x5 : Int32) (x6 : Int32), P s → gb_pm P (k35 s x1 x2 x3 x4 x5 x6)) {f : gb_F} {w : Int64} {v3 : Int32} {v4 : Int32} {v5 : Int32} {v6 : Int32} {v7 : Int32} {t0 : Int32} (h : P f) : gb_pm P (ms_shift_79 n k35 f w v3 v4 v5 v6 v7 t0) := by
  unfold ms_shift_79
  refine pm_if ?_ ?_
  · refine pm_if ?_ ?_
    · refine pm_bd (cm_swaps hW w1 h) (fun f_34 wl_35 _ hf_34 => ?_)
      refine pm_ltV (fun x_39 => ?_)
      exact h_k35 _ _ _ _ _ _ _ hf_34
    · refine pm_bd (cm_swaps hW w1 h) (fun f_40 wl_41 _ hf_40 => ?_)
      refine pm_ltV (fun x_45 => ?_)
      exact h_k35 _ _ _ _ _ _ _ hf_40
  · refine pm_bd (cm_allPay hW h) (fun f_46 wl_47 r_48 hf_46 => ?_)
    refine pm_if ?_ ?_
    · refine pm_bd (cm_swaps hW w1 hf_46) (fun f_52 wl_53 _ hf_52 => ?_)
      refine pm_ltV (fun x_57 => ?_)
      exact h_k35 _ _ _ _ _ _ _ hf_52
    · refine pm_bd (cm_swaps hW w1 hf_46) (fun f_58 wl_59 _ hf_58 => ?_)
      refine pm_ltV (fun x_63 => ?_)
      exact h_k35 _ _ _ _ _ _ _ hf_58
theorem cm_shift_78 {P : gb_F → Prop} (hW : gb_sm P) (w1 : gb_w1c P) {n : Nat} {k35 : gb_F → Int64 → Int32 → Int32 → Int32 → Int32 → Int32 → gb_MR Int32} (h_k35 : ∀ (s : gb_F) (x1 : Int64) (x2 : Int32) (x3 : Int32) (x4 : Int32) (x5 : Int32) (x6 : Int32), P s → gb_pm P (k35 s x1 x2 x3 x4 x5 x6)) {f : gb_F} {w : Int64} {v3 : Int32} {v4 : Int32} {v5 : Int32} {v6 : Int32} {v7 : Int32} (h : P f) : gb_pm P (ms_shift_78 n k35 f w v3 v4 v5 v6 v7) := by
  unfold ms_shift_78
  exact cm_shift_79 hW w1 h_k35 h
theorem cm_shift_35 {P : gb_F → Prop} (hW : gb_sm P) (w1 : gb_w1c P) {n : Nat} : ∀ (mm : Nat) (f : gb_F) (w : Int64) (v3 : Int32) (v4 : Int32) (v5 : Int32) (v6 : Int32) (v7 : Int32), P f → gb_pm P (ms_shift_35 n mm f w v3 v4 v5 v6 v7) := by
  intro mm
  induction mm with
  | zero =>
    intros
    exact pm_none
  | succ mm ih =>
    intro f w v3 v4 v5 v6 v7 h
    unfold ms_shift_35
    refine pm_if ?_ ?_
    · refine pm_if ?_ ?_
      · exact pm_some h
      · refine pm_if ?_ ?_
        · exact pm_some h
        · exact pm_some h
    · refine pm_bd (cm_swaps hW w1 h) (fun f_21 wl_22 _ hf_21 => ?_)
      refine pm_bd (cm_runs hW hf_21) (fun f_26 wl_27 _ hf_26 => ?_)
      refine pm_if ?_ ?_
      · refine cm_shift_78 hW w1 ?_ hf_26
        · intro f w v3 v4 v5 v6 v7 hf
          exact ih _ _ _ _ _ _ _ hf
      · refine pm_bd (cm_allPay hW hf_26) (fun f_64 wl_65 r_66 hf_64 => ?_)
        refine pm_if ?_ ?_
        · refine cm_shift_78 hW w1 ?_ hf_64
          · intro f w v3 v4 v5 v6 v7 hf
            exact ih _ _ _ _ _ _ _ hf
        · refine cm_shift_79 hW w1 ?_ hf_64
          · intro f w v3 v4 v5 v6 v7 hf
            exact ih _ _ _ _ _ _ _ hf
theorem cm_shift {P : gb_F → Prop} (hW : gb_sm P) (w1 : gb_w1c P) {n : Nat} {f : gb_F} {w : Int64} {p1 : Int32} {p2 : Int32} {p3 : Int32} (h : P f) : gb_pm P (ms_shift n f w p1 p2 p3) := by
  unfold ms_shift
  refine pm_bd (cm_areTold hW h) (fun f_1 wl_2 r_3 hf_1 => ?_)
  refine pm_if ?_ ?_
  · exact pm_some hf_1
  · refine pm_bd (cm_runs hW hf_1) (fun f_7 wl_8 _ hf_7 => ?_)
    refine pm_ltV (fun x_12 => ?_)
    refine pm_bd (cm_allPay hW hf_7) (fun f_13 wl_14 r_15 hf_13 => ?_)
    exact cm_shift_35 hW w1 _ _ _ _ _ _ _ _ hf_13
theorem cm_isPut_20 {P : gb_F → Prop} (hW : gb_sm P) {n : Nat} : ∀ (mm : Nat) (f : gb_F) (w : Int64) (v1 : Int32) (v2 : Int32) (v3 : Int32) (v4 : Int32), P f → gb_pm P (ms_isPut_20 n mm f w v1 v2 v3 v4) := by
  intro mm
  induction mm with
  | zero =>
    intros
    exact pm_none
  | succ mm ih =>
    intro f w v1 v2 v3 v4 h
    unfold ms_isPut_20
    refine pm_bd (cm_geese hW h) (fun f_8 wl_9 r_10 hf_8 => ?_)
    refine pm_if ?_ ?_
    · refine pm_cb ?_
      exact pm_some hf_8
    · refine pm_if ?_ ?_
      · refine pm_if ?_ ?_
        · refine pm_bd (cm_paths hW hf_8) (fun f_19 wl_20 r_21 hf_19 => ?_)
          refine pm_if ?_ ?_
          · refine pm_ltV (fun x_25 => ?_)
            exact ih _ _ _ _ _ _ hf_19
          · refine pm_ck ?_
            refine pm_ltV (fun x_27 => ?_)
            refine pm_if ?_ ?_
            · refine pm_ltV (fun x_29 => ?_)
              exact ih _ _ _ _ _ _ hf_19
            · refine pm_bd (cm_ofPath hW hf_19) (fun f_30 wl_31 r_32 hf_30 => ?_)
              refine pm_bd (cm_firstMarks hW hf_30) (fun f_35 wl_36 r_37 hf_35 => ?_)
              refine pm_if ?_ ?_
              · refine pm_ltV (fun x_41 => ?_)
                exact ih _ _ _ _ _ _ hf_35
              · refine pm_ltV (fun x_42 => ?_)
                exact ih _ _ _ _ _ _ hf_35
        · refine pm_ltV (fun x_18 => ?_)
          exact ih _ _ _ _ _ _ hf_8
      · refine pm_ltV (fun x_16 => ?_)
        exact ih _ _ _ _ _ _ hf_8
theorem cm_isPut {P : gb_F → Prop} (hW : gb_sm P) {n : Nat} {f : gb_F} {w : Int64} {p1 : Int32} (h : P f) : gb_pm P (ms_isPut n f w p1) := by
  unfold ms_isPut
  refine pm_bd (cm_bits hW h) (fun f_1 wl_2 r_3 hf_1 => ?_)
  refine pm_ltV (fun x_6 => ?_)
  refine pm_if ?_ ?_
  · exact cm_isPut_20 hW _ _ _ _ _ _ _ hf_1
  · exact cm_isPut_20 hW _ _ _ _ _ _ _ hf_1
theorem cm_thrift_12 {P : gb_F → Prop} (hW : gb_sm P) {n : Nat} : ∀ (mm : Nat) (f : gb_F) (w : Int64) (v2 : Int32), P f → gb_pm P (ms_thrift_12 n mm f w v2) := by
  intro mm
  induction mm with
  | zero =>
    intros
    exact pm_none
  | succ mm ih =>
    intro f w v2 h
    unfold ms_thrift_12
    refine pm_bd (cm_geese hW h) (fun f_7 wl_8 r_9 hf_7 => ?_)
    refine pm_if ?_ ?_
    · exact pm_some hf_7
    · refine pm_bd (cm_isPut hW hf_7) (fun f_13 wl_14 r_15 hf_13 => ?_)
      refine pm_ck ?_
      refine pm_ltS (hW.2 _ _ _ (by decide) hf_13) (fun f_19 hf_19 => ?_)
      refine pm_ck ?_
      refine pm_ltV (fun x_21 => ?_)
      refine pm_if ?_ ?_
      · refine pm_ltV (fun x_23 => ?_)
        exact ih _ _ _ hf_19
      · refine pm_bd (cm_bits hW hf_19) (fun f_24 wl_25 r_26 hf_24 => ?_)
        refine pm_bd (cm_paths hW hf_24) (fun f_29 wl_30 r_31 hf_29 => ?_)
        refine pm_if ?_ ?_
        · exact pm_some hf_29
        · refine pm_ltV (fun x_35 => ?_)
          exact ih _ _ _ hf_29
theorem cm_thrift {P : gb_F → Prop} (hW : gb_sm P) {n : Nat} {f : gb_F} {w : Int64} {p1 : Int32} (h : P f) : gb_pm P (ms_thrift n f w p1) := by
  unfold ms_thrift
  refine pm_bd (cm_isBorder hW h) (fun f_1 wl_2 r_3 hf_1 => ?_)
  refine pm_if ?_ ?_
  · exact pm_some hf_1
  · exact cm_thrift_12 hW _ _ _ _ hf_1
theorem cm_count {P : gb_F → Prop} (hW : gb_sm P) {n : Nat} {f : gb_F} {w : Int64} {p1 : Int32} (h : P f) : gb_pm P (ms_count n f w p1) := by
  unfold ms_count
  refine pm_bd (cm_isIn hW h) (fun f_1 wl_2 r_3 hf_1 => ?_)
  refine pm_if ?_ ?_
  · exact pm_some hf_1
  · refine pm_ck ?_
    refine pm_ltV (fun x_8 => ?_)
    exact pm_some hf_1
theorem cm_image_20 {P : gb_F → Prop} (hW : gb_sm P) (w1 : gb_w1c P) {n : Nat} : ∀ (mm : Nat) (f : gb_F) (w : Int64) (v1 : Int32) (v2 : Int32), P f → gb_pm P (ms_image_20 n mm f w v1 v2) := by
  intro mm
  induction mm with
  | zero =>
    intros
    exact pm_none
  | succ mm ih =>
    intro f w v1 v2 h
    unfold ms_image_20
    refine pm_if ?_ ?_
    · exact pm_some h
    · refine pm_ck ?_
      refine pm_ltV (fun x_11 => ?_)
      refine pm_ck ?_
      refine pm_ltS (w1 _ _ h) (fun f_13 hf_13 => ?_)
      refine pm_ltV (fun x_14 => ?_)
      exact ih _ _ _ _ hf_13
theorem cm_image {P : gb_F → Prop} (hW : gb_sm P) (w1 : gb_w1c P) (w2 : gb_w2c P) {n : Nat} {f : gb_F} {w : Int64} {p1 : Int32} (h : P f) : gb_pm P (ms_image n f w p1) := by
  unfold ms_image
  refine pm_bd (cm_isIn hW h) (fun f_1 wl_2 r_3 hf_1 => ?_)
  refine pm_if ?_ ?_
  · exact pm_some hf_1
  · refine pm_ck ?_
    refine pm_ltS (w2 _ _ hf_1) (fun f_8 hf_8 => ?_)
    exact cm_image_20 hW w1 _ _ _ _ _ hf_8
theorem cm_again_22 {P : gb_F → Prop} (hW : gb_sm P) (w1 : gb_w1c P) {n : Nat} : ∀ (mm : Nat) (f : gb_F) (w : Int64) (v1 : Int32) (v2 : Int32), P f → gb_pm P (ms_again_22 n mm f w v1 v2) := by
  intro mm
  induction mm with
  | zero =>
    intros
    exact pm_none
  | succ mm ih =>
    intro f w v1 v2 h
    unfold ms_again_22
    refine pm_if ?_ ?_
    · exact pm_some h
    · refine pm_ck ?_
      refine pm_ltV (fun x_12 => ?_)
      refine pm_ck ?_
      refine pm_ltS (w1 _ _ h) (fun f_14 hf_14 => ?_)
      refine pm_ltV (fun x_15 => ?_)
      exact ih _ _ _ _ hf_14
theorem cm_again {P : gb_F → Prop} (hW : gb_sm P) (w1 : gb_w1c P) {n : Nat} {f : gb_F} {w : Int64} {p1 : Int32} (h : P f) : gb_pm P (ms_again n f w p1) := by
  unfold ms_again
  refine pm_bd (cm_isIn hW h) (fun f_1 wl_2 r_3 hf_1 => ?_)
  refine pm_if ?_ ?_
  · exact pm_some hf_1
  · refine pm_ck ?_
    refine pm_ltV (fun x_8 => ?_)
    refine pm_if ?_ ?_
    · exact pm_some hf_1
    · exact cm_again_22 hW w1 _ _ _ _ _ hf_1
/-! PARTIAL ANSWERS: what holds of a value, where there is one (that there is one: totality, 60 .. 84) -/
def gb_hm {ρ : Type} (x : gb_MR ρ) (Q : gb_F → Int64 → ρ → Prop) : Prop := ∀ (f : gb_F) (w : Int64) (r : ρ), x = some (f, w, r) → Q f w r
def gb_hc {ρ : Type} (x : gb_CR ρ) (Q : gb_S → ρ → Prop) : Prop := ∀ (σ : gb_S) (r : ρ), x = some (σ, r) → Q σ r
theorem hm_none {ρ : Type} {Q : gb_F → Int64 → ρ → Prop} : gb_hm (none : gb_MR ρ) Q := fun _ _ _ h => by cases h
theorem hm_some {ρ : Type} {Q : gb_F → Int64 → ρ → Prop} {f : gb_F} {w : Int64} {r : ρ} (h : Q f w r) : gb_hm (some (f, w, r)) Q := fun _ _ _ e => by cases e; exact h
theorem hm_if {ρ : Type} {Q : gb_F → Int64 → ρ → Prop} {c : Prop} [Decidable c] {x y : gb_MR ρ} (h1 : c → gb_hm x Q) (h2 : ¬ c → gb_hm y Q) : gb_hm (if c then x else y) Q := by
  by_cases z : c
  · rw [if_pos z]; exact h1 z
  · rw [if_neg z]; exact h2 z
theorem hm_ck {ρ : Type} {Q : gb_F → Int64 → ρ → Prop} {i : Int32} {n : Nat} {x : gb_MR ρ} (h : 0 ≤ i.toInt → i.toInt < (n : Int) → gb_hm x Q) : gb_hm (gb_ck i n x) Q := by
  unfold gb_ck
  by_cases z : 0 ≤ i.toInt ∧ i.toInt < (n : Int)
  · rw [if_pos z]; exact h z.1 z.2
  · rw [if_neg z]; exact hm_none
theorem hm_nz {ρ : Type} {Q : gb_F → Int64 → ρ → Prop} {i : Int32} {x : gb_MR ρ} (h : ¬ i = 0 → gb_hm x Q) : gb_hm (gb_nz i x) Q := by
  unfold gb_nz
  by_cases z : i = 0
  · rw [if_pos z]; exact hm_none
  · rw [if_neg z]; exact h z
theorem hm_cb {ρ : Type} {Q : gb_F → Int64 → ρ → Prop} {i : Int32} {x : gb_MR ρ} (h : i = 0 ∨ i = 1 → gb_hm x Q) : gb_hm (gb_cb i x) Q := by
  unfold gb_cb
  by_cases z : i = 0 ∨ i = 1
  · rw [if_pos z]; exact h z
  · rw [if_neg z]; exact hm_none
theorem hm_lt {ρ α : Type} {Q : gb_F → Int64 → ρ → Prop} {v : α} {k : α → gb_MR ρ} (h : ∀ x, x = v → gb_hm (k x) Q) : gb_hm (gb_lt v k) Q := h v rfl
theorem hm_bd {ρ τ : Type} {P : gb_F → Int64 → ρ → Prop} {Q : gb_F → Int64 → τ → Prop} {x : gb_MR ρ} {k : gb_F → Int64 → ρ → gb_MR τ} (h : gb_hm x P) (H : ∀ f w r, P f w r → gb_hm (k f w r) Q) : gb_hm (gb_bd x k) Q := by
  unfold gb_bd
  cases x with
  | none => exact hm_none
  | some q => exact H q.1 q.2.1 q.2.2 (h q.1 q.2.1 q.2.2 rfl)
theorem hm_mono {ρ : Type} {x : gb_MR ρ} {P Q : gb_F → Int64 → ρ → Prop} (h : gb_hm x P) (H : ∀ f w r, P f w r → Q f w r) : gb_hm x Q := fun f w r e => H f w r (h f w r e)
theorem hm_and {ρ : Type} {x : gb_MR ρ} {P Q : gb_F → Int64 → ρ → Prop} (h : gb_hm x P) (H : gb_hm x Q) : gb_hm x (fun f w r => P f w r ∧ Q f w r) := fun f w r e => ⟨h f w r e, H f w r e⟩
theorem hm_of {ρ : Type} {x : gb_MR ρ} {P : gb_F → Int64 → ρ → Prop} (h : gb_tm x P) : gb_hm x P := fun f w r e => by
  obtain ⟨f2, w2, r2, e2, hp⟩ := h
  rw [e] at e2
  cases e2
  exact hp
theorem hm_pm {ρ : Type} {x : gb_MR ρ} {P : gb_F → Prop} (h : gb_pm P x) : gb_hm x (fun f _ _ => P f) := h
theorem hc_none {ρ : Type} {Q : gb_S → ρ → Prop} : gb_hc (none : gb_CR ρ) Q := fun _ _ h => by cases h
theorem hc_some {ρ : Type} {Q : gb_S → ρ → Prop} {σ : gb_S} {r : ρ} (h : Q σ r) : gb_hc (some (σ, r)) Q := fun _ _ e => by cases e; exact h
theorem hc_if {ρ : Type} {Q : gb_S → ρ → Prop} {c : Prop} [Decidable c] {x y : gb_CR ρ} (h1 : c → gb_hc x Q) (h2 : ¬ c → gb_hc y Q) : gb_hc (if c then x else y) Q := by
  by_cases z : c
  · rw [if_pos z]; exact h1 z
  · rw [if_neg z]; exact h2 z
theorem hc_ck {ρ : Type} {Q : gb_S → ρ → Prop} {i : Int32} {n : Nat} {x : gb_CR ρ} (h : 0 ≤ i.toInt → i.toInt < (n : Int) → gb_hc x Q) : gb_hc (gb_ck i n x) Q := by
  unfold gb_ck
  by_cases z : 0 ≤ i.toInt ∧ i.toInt < (n : Int)
  · rw [if_pos z]; exact h z.1 z.2
  · rw [if_neg z]; exact hc_none
theorem hc_nz {ρ : Type} {Q : gb_S → ρ → Prop} {i : Int32} {x : gb_CR ρ} (h : ¬ i = 0 → gb_hc x Q) : gb_hc (gb_nz i x) Q := by
  unfold gb_nz
  by_cases z : i = 0
  · rw [if_pos z]; exact hc_none
  · rw [if_neg z]; exact h z
theorem hc_cb {ρ : Type} {Q : gb_S → ρ → Prop} {i : Int32} {x : gb_CR ρ} (h : i = 0 ∨ i = 1 → gb_hc x Q) : gb_hc (gb_cb i x) Q := by
  unfold gb_cb
  by_cases z : i = 0 ∨ i = 1
  · rw [if_pos z]; exact h z
  · rw [if_neg z]; exact hc_none
theorem hc_kk {ρ : Type} {Q : gb_S → ρ → Prop} {c : Bool} {x : gb_CR ρ} (h : c = true → gb_hc x Q) : gb_hc (gb_kk c x) Q := by
  unfold gb_kk
  by_cases z : c = true
  · rw [if_pos z]; exact h z
  · rw [if_neg z]; exact hc_none
theorem hc_ac {ρ : Type} {Q : gb_S → ρ → Prop} {sp dp m : Int32} {n0 n1 : Nat} {x : gb_CR ρ} (h : gb_hc x Q) : gb_hc (gb_ac sp dp m n0 n1 x) Q := by
  unfold gb_ac
  split
  · exact h
  · exact hc_none
theorem hc_cc {ρ : Type} {Q : gb_S → ρ → Prop} {v : Int32} {x : gb_CR ρ} (h : gb_hc x Q) : gb_hc (gb_cc v x) Q := by
  unfold gb_cc
  split
  · exact h
  · exact hc_none
theorem hc_lt {ρ α : Type} {Q : gb_S → ρ → Prop} {v : α} {k : α → gb_CR ρ} (h : ∀ x, x = v → gb_hc (k x) Q) : gb_hc (gb_lt v k) Q := h v rfl
theorem hc_cd {ρ τ : Type} {P : gb_S → ρ → Prop} {Q : gb_S → τ → Prop} {x : gb_CR ρ} {k : gb_S → ρ → gb_CR τ} (h : gb_hc x P) (H : ∀ s r, P s r → gb_hc (k s r) Q) : gb_hc (gb_cd x k) Q := by
  unfold gb_cd
  cases x with
  | none => exact hc_none
  | some q => exact H q.1 q.2 (h q.1 q.2 rfl)
theorem hc_mono {ρ : Type} {x : gb_CR ρ} {P Q : gb_S → ρ → Prop} (h : gb_hc x P) (H : ∀ s r, P s r → Q s r) : gb_hc x Q := fun s r e => H s r (h s r e)
theorem hc_and {ρ : Type} {x : gb_CR ρ} {P Q : gb_S → ρ → Prop} (h : gb_hc x P) (H : gb_hc x Q) : gb_hc x (fun s r => P s r ∧ Q s r) := fun s r e => ⟨h s r e, H s r e⟩
theorem hc_of {ρ : Type} {x : gb_CR ρ} {P : gb_S → ρ → Prop} (h : gb_tc x P) : gb_hc x P := fun s r e => by
  obtain ⟨s2, r2, e2, hp⟩ := h
  rw [e] at e2
  cases e2
  exact hp
theorem hc_pf {ρ : Type} {x : gb_CR ρ} {W : Nat → Prop} {σ0 : gb_S} (h : gb_pf W σ0 x) : gb_hc x (fun s _ => gb_fs W σ0 s) := h
/-! numbers -/
theorem gi_lt {x y : Int32} (c : x < y) : x.toInt < y.toInt := Int32.lt_iff_toInt_lt.mp c
theorem gi_le {x y : Int32} (c : x ≤ y) : x.toInt ≤ y.toInt := Int32.le_iff_toInt_le.mp c
theorem gi_nlt {x y : Int32} (c : ¬ x < y) : y.toInt ≤ x.toInt := by
  have := gb_dnlt c
  omega
theorem gi_nle {x y : Int32} (c : ¬ x ≤ y) : y.toInt < x.toInt := by
  have := gb_dnle c
  omega
theorem gi_tn {x : Int32} {j : Nat} (h : x.toInt = j) : Int32.toNatClampNeg x = j := gb_tn h
theorem gi_nn {x : Int32} (h : 0 ≤ x.toInt) : ∃ k : Nat, x.toInt = k ∧ Int32.toNatClampNeg x = k := ⟨x.toInt.toNat, by omega, gb_tn (by omega)⟩
theorem gi_s1 {x : Int32} {k : Nat} (h : x.toInt = k) (hk : k < 100000) : (x + 1).toInt = ((k + 1 : Nat) : Int) := by
  have c1 : (1 : Int32).toInt = 1 := by decide
  rw [gb_tadd (by omega) (by omega), c1]
  omega
theorem gb_us {f : gb_F} {k : Nat} {F : Nat → Int32} : gb_u f k F k = F := if_pos rfl
theorem gb_un {f : gb_F} {k j : Nat} {F : Nat → Int32} (h : j ≠ k) : gb_u f k F j = f j := if_neg h
theorem gb_sus {σ : gb_S} {k : Nat} {F : Nat → Int32} : (gb_su σ k F).1 k = F := if_pos rfl
theorem gb_sun {σ : gb_S} {k j : Nat} {F : Nat → Int32} (h : j ≠ k) : (gb_su σ k F).1 j = σ.1 j := if_neg h
/-! COPIES: Told.copyFrom of the class, image and again of the reference, exactly -/
def gb_gz (s : Nat) : Nat := ([58, 97, 25, 16] : List Nat).getD s 0
def gb_o (s m : Nat) : Nat := 3 + 5 * s + 2 * m
def gb_cpJ (σ0 : gb_S) (v0 v1 s m : Nat) (σ : gb_S) : Prop := (∀ k, k < v0 ∨ v0 + 22 < k → σ.1 k = σ0.1 k) ∧ (∀ s' m', s' < 4 → m' < 2 → 2 * s' + m' < 2 * s + m → ∀ j, j < gb_gz s' → σ.1 (v0 + gb_o s' m') j = σ0.1 (v1 + gb_o s' m') j) ∧ ∀ j, j < s → σ.1 (v0 + 21) j = σ0.1 (v1 + 21) j
theorem cJ_sheet {σ0 σ : gb_S} {v0 v1 s m : Nat} (hd : v0 + 22 < v1 ∨ v1 + 22 < v0) (hs : s < 4) (hm : m < 2) (h : gb_cpJ σ0 v0 v1 s m σ) : gb_cpJ σ0 v0 v1 s (m + 1) (gb_su σ (v0 + gb_o s m) (va_cpy (σ.1 (v1 + gb_o s m)) (σ.1 (v0 + gb_o s m)) 0 0 (gb_gz s))) := by
  obtain ⟨h1, h2, h3⟩ := h
  refine ⟨fun k hk => ?_, fun s' m' g1 g2 g3 j hj => ?_, fun j hj => ?_⟩
  · rw [gb_sun (by unfold gb_o; omega)]
    exact h1 k hk
  · by_cases e : s' = s ∧ m' = m
    · obtain ⟨rfl, rfl⟩ := e
      rw [gb_sus]
      unfold va_cpy
      rw [if_pos ⟨Nat.zero_le _, by omega⟩, Nat.zero_add, Nat.sub_zero, h1 _ (by unfold gb_o; omega)]
    · rw [gb_sun (by unfold gb_o; omega)]
      exact h2 s' m' g1 g2 (by omega) j hj
  · rw [gb_sun (by unfold gb_o; omega)]
    exact h3 j hj
theorem cJ_held {σ0 σ : gb_S} {v0 v1 s : Nat} (hd : v0 + 22 < v1 ∨ v1 + 22 < v0) (hs : s < 4) (h : gb_cpJ σ0 v0 v1 s 2 σ) : gb_cpJ σ0 v0 v1 (s + 1) 0 (gb_su σ (v0 + 21) (upd (σ.1 (v0 + 21)) s (σ.1 (v1 + 21) s))) := by
  obtain ⟨h1, h2, h3⟩ := h
  refine ⟨fun k hk => ?_, fun s' m' g1 g2 g3 j hj => ?_, fun j hj => ?_⟩
  · rw [gb_sun (by omega)]
    exact h1 k hk
  · rw [gb_sun (by unfold gb_o; omega)]
    exact h2 s' m' g1 g2 (by omega) j hj
  · rw [gb_sus]
    by_cases e : j = s
    · rw [e, pk_us, h1 _ (by omega)]
    · rw [pk_un e]
      exact h3 j (by omega)
theorem gi_eq {x : Int32} {y : Int32} {k : Int} (h : x.toInt = k) (hy : y.toInt = k) : x = y := gb_ieq (h.trans hy.symm)
theorem ch_sheetOf {n : Nat} {σ : gb_S} {k0 : Nat} {p1 p2 : Int32} {s m : Nat} (e1 : p1.toInt = s) (hs : s < 4) (e2 : p2.toInt = m) : gb_hc (cs_Told_sheetOf_T n σ k0 p1 p2) (fun σ2 r => σ2 = σ ∧ r + 1 = k0 + gb_o s m ∧ m < 2 ∧ (s = 0 ∧ gb_kB r = true ∨ s = 1 ∧ gb_kN r = true ∨ s = 2 ∧ gb_kL r = true ∨ s = 3 ∧ gb_kD r = true)) := by
  unfold cs_Told_sheetOf_T
  have c0 : (0 : Int32).toInt = 0 := by decide
  have c1 : (1 : Int32).toInt = 1 := by decide
  have c2 : (2 : Int32).toInt = 2 := by decide
  have t := gi_tn e2
  have key : ∀ x y a : Nat, m < 2 → a = ([x, y] : List Nat).getD (Int32.toNatClampNeg p2) 0 → y = x + 2 → a + 1 = x + 1 + 2 * m := by
    intro x y a hm ha hy
    rw [t] at ha
    have hm2 : m = 0 ∨ m = 1 := by omega
    rcases hm2 with rfl | rfl
    · have : a = x := ha
      omega
    · have : a = y := ha
      omega
  refine hc_kk (fun _ => hc_if (fun c => ?_) (fun n0 => hc_if (fun c => ?_) (fun n1 => hc_if (fun c => ?_) (fun n2 => ?_))))
  · refine hc_ck (fun _ b => hc_lt (fun a ha => hc_kk (fun hk => hc_some ⟨rfl, ?_, by omega, Or.inl ⟨?_, hk⟩⟩)))
    · have := key _ _ a (by omega) ha rfl
      rw [c, c0] at e1
      unfold gb_o
      omega
    · rw [c, c0] at e1
      omega
  · refine hc_ck (fun _ b => hc_lt (fun a ha => hc_kk (fun hk => hc_some ⟨rfl, ?_, by omega, Or.inr (Or.inl ⟨?_, hk⟩)⟩)))
    · have := key _ _ a (by omega) ha rfl
      rw [c, c1] at e1
      unfold gb_o
      omega
    · rw [c, c1] at e1
      omega
  · refine hc_ck (fun _ b => hc_lt (fun a ha => hc_kk (fun hk => hc_some ⟨rfl, ?_, by omega, Or.inr (Or.inr (Or.inl ⟨?_, hk⟩))⟩)))
    · have := key _ _ a (by omega) ha rfl
      rw [c, c2] at e1
      unfold gb_o
      omega
    · rw [c, c2] at e1
      omega
  · have hs3 : s = 3 := by
      have q0 : ¬ s = 0 := fun q => n0 (gi_eq e1 (by rw [q]; decide))
      have q1 : ¬ s = 1 := fun q => n1 (gi_eq e1 (by rw [q]; decide))
      have q2 : ¬ s = 2 := fun q => n2 (gi_eq e1 (by rw [q]; decide))
      omega
    refine hc_ck (fun _ b => hc_lt (fun a ha => hc_kk (fun hk => hc_some ⟨rfl, ?_, by omega, Or.inr (Or.inr (Or.inr ⟨hs3, hk⟩))⟩)))
    have := key _ _ a (by omega) ha rfl
    unfold gb_o
    omega
theorem ch_cpB {n : Nat} {σ : gb_S} {k0 p1 : Nat} : gb_hc (cs_Sheet_copyFrom_B_B n σ k0 p1) (fun s _ => s = gb_su σ (k0 + 1) (va_cpy (σ.1 (p1 + 1)) (σ.1 (k0 + 1)) 0 0 58)) := by
  unfold cs_Sheet_copyFrom_B_B
  refine hc_kk (fun _ => hc_kk (fun _ => hc_lt (fun x ex => hc_ac (hc_lt (fun s es => hc_some ?_)))))
  have : Int32.toNatClampNeg x = 58 := by rw [ex]; decide
  rw [es, this]
  rfl
theorem ch_cpN {n : Nat} {σ : gb_S} {k0 p1 : Nat} : gb_hc (cs_Sheet_copyFrom_N_N n σ k0 p1) (fun s _ => s = gb_su σ (k0 + 1) (va_cpy (σ.1 (p1 + 1)) (σ.1 (k0 + 1)) 0 0 97)) := by
  unfold cs_Sheet_copyFrom_N_N
  refine hc_kk (fun _ => hc_kk (fun _ => hc_lt (fun x ex => hc_ac (hc_lt (fun s es => hc_some ?_)))))
  have : Int32.toNatClampNeg x = 97 := by rw [ex]; decide
  rw [es, this]
  rfl
theorem ch_cpL {n : Nat} {σ : gb_S} {k0 p1 : Nat} : gb_hc (cs_Sheet_copyFrom_L_L n σ k0 p1) (fun s _ => s = gb_su σ (k0 + 1) (va_cpy (σ.1 (p1 + 1)) (σ.1 (k0 + 1)) 0 0 25)) := by
  unfold cs_Sheet_copyFrom_L_L
  refine hc_kk (fun _ => hc_kk (fun _ => hc_lt (fun x ex => hc_ac (hc_lt (fun s es => hc_some ?_)))))
  have : Int32.toNatClampNeg x = 25 := by rw [ex]; decide
  rw [es, this]
  rfl
theorem ch_cpD {n : Nat} {σ : gb_S} {k0 p1 : Nat} : gb_hc (cs_Sheet_copyFrom_D_D n σ k0 p1) (fun s _ => s = gb_su σ (k0 + 1) (va_cpy (σ.1 (p1 + 1)) (σ.1 (k0 + 1)) 0 0 16)) := by
  unfold cs_Sheet_copyFrom_D_D
  refine hc_kk (fun _ => hc_kk (fun _ => hc_lt (fun x ex => hc_ac (hc_lt (fun s es => hc_some ?_)))))
  have : Int32.toNatClampNeg x = 16 := by rw [ex]; decide
  rw [es, this]
  rfl
theorem ch_copy9 {n : Nat} {σ0 : gb_S} {v0 v1 s : Nat} {v2 : Int32} {Q : gb_S → Unit → Prop} {k2 : gb_S → Nat → Nat → Int32 → gb_CR Unit} (hd : v0 + 22 < v1 ∨ v1 + 22 < v0) (e2 : v2.toInt = s) (hs : s < 4) (hk : ∀ (σ : gb_S) (x : Int32), x.toInt = ((s + 1 : Nat) : Int) → gb_cpJ σ0 v0 v1 (s + 1) 0 σ → gb_hc (k2 σ v0 v1 x) Q) : ∀ (mm : Nat) (σ : gb_S) (v3 : Int32) (m : Nat), v3.toInt = m → m ≤ 2 → gb_cpJ σ0 v0 v1 s m σ → gb_hc (cs_Told_copyFrom_T_T_9 n k2 mm σ v0 v1 v2 v3) Q := by
  intro mm
  induction mm with
  | zero =>
    intros
    exact hc_none
  | succ mm ih =>
    intro σ v3 m e3 hm hJ
    unfold cs_Told_copyFrom_T_T_9
    have c2 : (2 : Int32).toInt = 2 := by decide
    refine hc_kk (fun _ => hc_kk (fun _ => hc_if (fun c => ?_) (fun c => ?_)))
    · have := gi_le c
      have hm2 : m = 2 := by omega
      subst hm2
      refine hc_ck (fun _ _ => hc_lt (fun x ex => hc_ck (fun _ _ => hc_lt (fun s2 es2 => hc_lt (fun y ey => ?_)))))
      refine hk _ _ (by rw [ey]; exact gi_s1 e2 (by omega)) ?_
      rw [es2, ex, gi_tn e2]
      exact cJ_held hd hs hJ
    · have := gi_nle c
      refine hc_cd (ch_sheetOf e2 hs e3) (fun sA r hA => ?_)
      obtain ⟨rfl, er, hm2, hkd⟩ := hA
      refine hc_if (fun _ => ?_) (fun _ => ?_)
      · refine hc_cd (P := fun _ _ => True) (fun _ _ _ => trivial) (fun _ _ _ => hc_if (fun _ => hc_none) (fun _ => hc_none))
      · refine hc_cd (ch_sheetOf e2 hs e3) (fun sB r2 hB => ?_)
        obtain ⟨rfl, er2, -, hkd2⟩ := hB
        have stp : ∀ (z : Nat) (s3 : gb_S) (x : Int32), z = gb_gz s → s3 = gb_su sB (r + 1) (va_cpy (sB.1 (r2 + 1)) (sB.1 (r + 1)) 0 0 z) → x = v3 + 1 → gb_hc (cs_Told_copyFrom_T_T_9 n k2 mm s3 v0 v1 v2 x) Q := by
          intro z s3 x ez e3' ex
          refine ih s3 x (m + 1) (by rw [ex]; exact gi_s1 e3 (by omega)) (by omega) ?_
          rw [e3', ez, er, er2]
          exact cJ_sheet hd hs hm2 hJ
        refine hc_if (fun _ => hc_none) (fun _ => ?_)
        refine hc_if (fun b => hc_kk (fun _ => ?_)) (fun nb => hc_if (fun b => hc_kk (fun _ => ?_)) (fun nn => hc_if (fun b => hc_kk (fun _ => ?_)) (fun nl => hc_if (fun b => hc_kk (fun _ => ?_)) (fun nd => hc_none))))
        · have hs0 : s = 0 := by
            rcases hkd with q | q | q | q
            · exact q.1
            · exact absurd b (gc_BN q.2)
            · exact absurd b (gc_BL q.2).1
            · exact absurd b (gc_BD q.2).1
          refine hc_cd ch_cpB (fun s3 _ h3 => hc_lt (fun x ex => stp 58 s3 x ?_ h3 ex))
          rw [hs0]
          rfl
        · have hs0 : s = 1 := by
            rcases hkd with q | q | q | q
            · exact absurd q.2 nb
            · exact q.1
            · exact absurd b (gc_BL q.2).2
            · exact absurd b (gc_BD q.2).2.1
          refine hc_cd ch_cpN (fun s3 _ h3 => hc_lt (fun x ex => stp 97 s3 x ?_ h3 ex))
          rw [hs0]
          rfl
        · have hs0 : s = 2 := by
            rcases hkd with q | q | q | q
            · exact absurd q.2 nb
            · exact absurd q.2 nn
            · exact q.1
            · exact absurd b (gc_BD q.2).2.2
          refine hc_cd ch_cpL (fun s3 _ h3 => hc_lt (fun x ex => stp 25 s3 x ?_ h3 ex))
          rw [hs0]
          rfl
        · have hs0 : s = 3 := by
            rcases hkd with q | q | q | q
            · exact absurd q.2 nb
            · exact absurd q.2 nn
            · exact absurd q.2 nl
            · exact q.1
          refine hc_cd ch_cpD (fun s3 _ h3 => hc_lt (fun x ex => stp 16 s3 x ?_ h3 ex))
          rw [hs0]
          rfl
/-! what a copy of all that is told leaves: the cells ahead and behind as they were; sheets, counts, tape, fields those of the other -/
def gb_cpd (σ0 : gb_S) (v0 v1 : Nat) (σ : gb_S) : Prop := (∀ k, k < v0 ∨ v0 + 22 < k → σ.1 k = σ0.1 k) ∧ (∀ s m, s < 4 → m < 2 → ∀ j, j < gb_gz s → σ.1 (v0 + gb_o s m) j = σ0.1 (v1 + gb_o s m) j) ∧ (∀ j, j < 4 → σ.1 (v0 + 21) j = σ0.1 (v1 + 21) j) ∧ (∀ j, j < 600 → σ.1 (v0 + 22) j = σ0.1 (v1 + 22) j) ∧ σ.1 v0 6 = σ0.1 v1 6 ∧ σ.1 v0 7 = σ0.1 v1 7 ∧ σ.1 v0 8 = σ0.1 v1 8
theorem ch_copy2 {n : Nat} {σ0 : gb_S} {v0 v1 : Nat} (hd : v0 + 22 < v1 ∨ v1 + 22 < v0) : ∀ (mm : Nat) (σ : gb_S) (v2 : Int32) (s : Nat), v2.toInt = s → s ≤ 4 → gb_cpJ σ0 v0 v1 s 0 σ → gb_hc (cs_Told_copyFrom_T_T_2 n mm σ v0 v1 v2) (fun s2 _ => gb_cpd σ0 v0 v1 s2) := by
  intro mm
  induction mm with
  | zero =>
    intros
    exact hc_none
  | succ mm ih =>
    intro σ v2 s e2 hs hJ
    unfold cs_Told_copyFrom_T_T_2
    have c4 : (4 : Int32).toInt = 4 := by decide
    refine hc_kk (fun _ => hc_kk (fun _ => hc_if (fun c => ?_) (fun c => ?_)))
    · have := gi_le c
      obtain ⟨h1, h2, h3⟩ := hJ
      refine hc_ac (hc_kk (fun _ => hc_lt (fun sA eA => hc_lt (fun sB eB => hc_lt (fun sC eC => hc_lt (fun sD eD => hc_some ?_))))))
      have n0 : v1 ≠ v0 := by omega
      have q1 : ∀ k, k ≠ v0 → k ≠ v0 + 22 → sD.1 k = σ.1 k := fun k a b => by
        rw [eD, gb_sun a, eC, gb_sun a, eB, gb_sun a, eA, gb_sun b]
      have qA : ∀ k, k ≠ v0 + 22 → sA.1 k = σ.1 k := fun k b => by rw [eA, gb_sun b]
      have qB : ∀ k, k ≠ v0 → k ≠ v0 + 22 → sB.1 k = σ.1 k := fun k a b => by rw [eB, gb_sun a, qA k b]
      have qC : ∀ k, k ≠ v0 → k ≠ v0 + 22 → sC.1 k = σ.1 k := fun k a b => by rw [eC, gb_sun a, qB k a b]
      have z1 : σ.1 v1 = σ0.1 v1 := h1 _ (by omega)
      refine ⟨fun k hk => ?_, fun s' m' g1 g2 j hj => ?_, fun j hj => ?_, fun j hj => ?_, ?_, ?_, ?_⟩
      · rw [q1 k (by omega) (by omega)]
        exact h1 k hk
      · rw [q1 _ (by unfold gb_o; omega) (by unfold gb_o; omega)]
        exact h2 s' m' g1 g2 (by omega) j hj
      · rw [q1 _ (by omega) (by omega)]
        exact h3 j (by omega)
      · have t600 : Int32.toNatClampNeg 600 = 600 := by decide
        have t0 : Int32.toNatClampNeg 0 = 0 := by decide
        rw [eD, gb_sun (by omega), eC, gb_sun (by omega), eB, gb_sun (by omega), eA, gb_sus, t600, t0]
        unfold va_cpy
        rw [if_pos ⟨Nat.zero_le _, by omega⟩, Nat.zero_add, Nat.sub_zero, h1 _ (by omega)]
      · rw [eD, gb_sus, pk_un (by decide), eC, gb_sus, pk_un (by decide), eB, gb_sus, pk_us, qA _ (by omega), z1]
      · rw [eD, gb_sus, pk_un (by decide), eC, gb_sus, pk_us, qB _ n0 (by omega), z1]
      · rw [eD, gb_sus, pk_us, qC _ n0 (by omega), z1]
    · have := gi_nle c
      have c0 : (0 : Int32).toInt = ((0 : Nat) : Int) := by decide
      exact ch_copy9 hd e2 (by omega) (fun σ3 x ex h3 => ih σ3 x (s + 1) ex (by omega) h3) n σ 0 0 c0 (by omega) hJ
theorem ch_copy {n : Nat} {σ : gb_S} {v0 v1 : Nat} (hd : v0 + 22 < v1 ∨ v1 + 22 < v0) : gb_hc (cs_Told_copyFrom_T_T n σ v0 v1) (fun s2 _ => gb_cpd σ v0 v1 s2) := by
  unfold cs_Told_copyFrom_T_T
  have c0 : (0 : Int32).toInt = ((0 : Nat) : Int) := by decide
  exact hc_kk (fun _ => hc_kk (fun _ => ch_copy2 hd n σ 0 0 c0 (by omega) ⟨fun _ _ => rfl, fun s' m' _ _ h => absurd h (by omega), fun j h => absurd h (Nat.not_lt_zero _)⟩))
/-! the reference's copies -/
theorem gb_992e {v1 v2 : Int32} {k i : Nat} (e1 : v1.toInt = k) (h1 : k < 3) (e2 : v2.toInt = i) (h2 : i < 992) : Int32.toNatClampNeg ((992 * (v1 + 1)) + v2) = 992 * (k + 1) + i := by
  have c1 : (992 : Int32).toInt = 992 := by decide
  have a1 := gi_s1 e1 (by omega)
  have a2 : (992 * (v1 + 1)).toInt = 992 * ((k + 1 : Nat) : Int) := by
    rw [gb_tmul (by rw [c1, a1]; omega) (by rw [c1, a1]; omega), c1, a1]
  refine gi_tn ?_
  rw [gb_tadd (by rw [a2]; omega) (by rw [a2]; omega), a2, e2]
  omega
def gb_img (F0 : Nat → Int32) (k i : Nat) (F : Nat → Int32) : Prop := (∀ j, j < i → F (992 * (k + 1) + j) = F0 j) ∧ ∀ j, j < 992 * (k + 1) ∨ 992 * (k + 1) + 992 ≤ j → F j = F0 j
theorem mh_image_20 {n : Nat} {F0 : Nat → Int32} {f0 : gb_F} {v1 : Int32} {k : Nat} (e1 : v1.toInt = k) (h1 : k < 3) : ∀ (mm : Nat) (f : gb_F) (w : Int64) (v2 : Int32) (i : Nat), v2.toInt = i → i ≤ 992 → gb_img F0 k i (f 1) → (∀ q, q ≠ 1 → f q = f0 q) → gb_hm (ms_image_20 n mm f w v1 v2) (fun f2 _ r => gb_img F0 k 992 (f2 1) ∧ (∀ q, q ≠ 1 → f2 q = f0 q) ∧ r = 1) := by
  intro mm
  induction mm with
  | zero =>
    intros
    exact hm_none
  | succ mm ih =>
    intro f w v2 i e2 hi hJ hf
    unfold ms_image_20
    have c9 : (992 : Int32).toInt = 992 := by decide
    refine hm_if (fun c => ?_) (fun c => ?_)
    · have := gi_le c
      have hi2 : i = 992 := by omega
      rw [hi2] at hJ
      exact hm_some ⟨hJ, hf, rfl⟩
    · have := gi_nle c
      have hi2 : i < 992 := by omega
      refine hm_ck (fun _ _ => hm_lt (fun x ex => hm_ck (fun _ _ => hm_lt (fun f2 e2' => hm_lt (fun y ey => ?_)))))
      refine ih f2 w y (i + 1) (by rw [ey]; exact gi_s1 e2 (by omega)) (by omega) ?_ (fun q hq => ?_)
      · obtain ⟨j1, j2⟩ := hJ
        rw [e2', gb_us, gb_992e e1 h1 e2 hi2, ex, gi_tn e2]
        refine ⟨fun j hj => ?_, fun j hj => ?_⟩
        · by_cases q : j = i
          · rw [q, pk_us, j2 _ (by omega)]
          · rw [pk_un (by omega)]
            exact j1 j (by omega)
        · rw [pk_un (by omega)]
          exact j2 j hj
      · rw [e2', gb_un hq]
        exact hf q hq
def gb_agn (F0 : Nat → Int32) (k i : Nat) (F : Nat → Int32) : Prop := (∀ j, j < i → F j = F0 (992 * (k + 1) + j)) ∧ ∀ j, i ≤ j → F j = F0 j
theorem mh_again_22 {n : Nat} {F0 : Nat → Int32} {f0 : gb_F} {v1 : Int32} {k : Nat} (e1 : v1.toInt = k) (h1 : k < 3) : ∀ (mm : Nat) (f : gb_F) (w : Int64) (v2 : Int32) (i : Nat), v2.toInt = i → i ≤ 992 → gb_agn F0 k i (f 1) → (∀ q, q ≠ 1 → f q = f0 q) → gb_hm (ms_again_22 n mm f w v1 v2) (fun f2 _ r => gb_agn F0 k 992 (f2 1) ∧ (∀ q, q ≠ 1 → f2 q = f0 q) ∧ r = 1) := by
  intro mm
  induction mm with
  | zero =>
    intros
    exact hm_none
  | succ mm ih =>
    intro f w v2 i e2 hi hJ hf
    unfold ms_again_22
    have c9 : (992 : Int32).toInt = 992 := by decide
    refine hm_if (fun c => ?_) (fun c => ?_)
    · have := gi_le c
      have hi2 : i = 992 := by omega
      rw [hi2] at hJ
      exact hm_some ⟨hJ, hf, rfl⟩
    · have := gi_nle c
      have hi2 : i < 992 := by omega
      refine hm_ck (fun _ _ => hm_lt (fun x ex => hm_ck (fun _ _ => hm_lt (fun f2 e2' => hm_lt (fun y ey => ?_)))))
      refine ih f2 w y (i + 1) (by rw [ey]; exact gi_s1 e2 (by omega)) (by omega) ?_ (fun q hq => ?_)
      · obtain ⟨j1, j2⟩ := hJ
        rw [e2', gb_us, gi_tn e2, ex, gb_992e e1 h1 e2 hi2]
        refine ⟨fun j hj => ?_, fun j hj => ?_⟩
        · by_cases q : j = i
          · rw [q, pk_us, j2 _ (by omega)]
          · rw [pk_un (by omega)]
            exact j1 j (by omega)
        · rw [pk_un (by omega)]
          exact j2 j (by omega)
      · rw [e2', gb_un hq]
        exact hf q hq
theorem mh_isIn {n : Nat} {f : gb_F} {w : Int64} {p1 p2 p3 : Int32} : gb_hm (ms_isIn n f w p1 p2 p3) (fun f2 w2 r => f2 = f ∧ w2 = w ∧ (r = 1 ∧ p2.toInt ≤ p1.toInt ∧ p1.toInt ≤ p3.toInt ∨ r = 0 ∧ (p1.toInt < p2.toInt ∨ p3.toInt < p1.toInt))) := by
  unfold ms_isIn
  refine hm_if (fun c => hm_some ⟨rfl, rfl, Or.inr ⟨rfl, Or.inl (gi_lt c)⟩⟩) (fun c => hm_if (fun d => hm_some ⟨rfl, rfl, Or.inr ⟨rfl, Or.inr (gi_lt d)⟩⟩) (fun d => hm_some ⟨rfl, rfl, Or.inl ⟨rfl, gi_nlt c, gi_nlt d⟩⟩))
theorem mh_image {n : Nat} {f : gb_F} {w : Int64} {p1 : Int32} : gb_hm (ms_image n f w p1) (fun f2 _ r => (r = 0 ∧ f2 = f ∧ (p1.toInt < 0 ∨ 2 < p1.toInt)) ∨ ∃ k : Nat, r = 1 ∧ p1.toInt = k ∧ k < 3 ∧ gb_img (f 1) k 992 (f2 1) ∧ f2 2 = upd (f 2) k 1) := by
  unfold ms_image
  have c0 : (0 : Int32).toInt = 0 := by decide
  have c2 : (2 : Int32).toInt = 2 := by decide
  refine hm_bd mh_isIn (fun f1 w1 r h => ?_)
  obtain ⟨rfl, rfl, h⟩ := h
  refine hm_if (fun c => ?_) (fun c => ?_)
  · rcases h with ⟨h, -⟩ | ⟨-, h⟩
    · rw [c] at h
      exact absurd h (by decide)
    · exact hm_some (Or.inl ⟨rfl, rfl, by omega⟩)
  · rcases h with ⟨-, h1, h2⟩ | ⟨h, -⟩
    · obtain ⟨k, e1, t1⟩ := gi_nn (x := p1) (by omega)
      have hk : k < 3 := by omega
      have z : (0 : Int32).toInt = ((0 : Nat) : Int) := by decide
      have nb : vp_nar .boolean 1 = 1 := by decide
      refine hm_ck (fun _ _ => hm_lt (fun f3 e3 => ?_))
      have f31 : f3 1 = f1 1 := by
        rw [e3]
        exact gb_un (by decide)
      have f32 : f3 2 = upd (f1 2) k 1 := by
        rw [e3, gb_us, t1, nb]
      refine hm_mono (mh_image_20 (F0 := f1 1) (f0 := f3) e1 hk n f3 w1 0 0 z (by omega) ⟨fun j h => absurd h (Nat.not_lt_zero _), fun j _ => by rw [f31]⟩ (fun _ _ => rfl)) (fun f4 _ r h => Or.inr ⟨k, h.2.2, e1, hk, h.1, ?_⟩)
      rw [h.2.1 2 (by decide), f32]
    · exact absurd h c
theorem mh_again {n : Nat} {f : gb_F} {w : Int64} {p1 : Int32} : gb_hm (ms_again n f w p1) (fun f2 _ r => (r = 0 ∧ f2 = f ∧ (p1.toInt < 0 ∨ 2 < p1.toInt ∨ ∃ k : Nat, p1.toInt = k ∧ k < 3 ∧ f 2 k = 0)) ∨ ∃ k : Nat, r = 1 ∧ p1.toInt = k ∧ k < 3 ∧ ¬ f 2 k = 0 ∧ gb_agn (f 1) k 992 (f2 1) ∧ f2 2 = f 2) := by
  unfold ms_again
  have c0 : (0 : Int32).toInt = 0 := by decide
  have c2 : (2 : Int32).toInt = 2 := by decide
  refine hm_bd mh_isIn (fun f1 w1 r h => ?_)
  obtain ⟨rfl, rfl, h⟩ := h
  refine hm_if (fun c => ?_) (fun c => ?_)
  · rcases h with ⟨h, -⟩ | ⟨-, h⟩
    · rw [c] at h
      exact absurd h (by decide)
    · exact hm_some (Or.inl ⟨rfl, rfl, by omega⟩)
  · rcases h with ⟨-, h1, h2⟩ | ⟨h, -⟩
    · obtain ⟨k, e1, t1⟩ := gi_nn (x := p1) (by omega)
      have hk : k < 3 := by omega
      have z : (0 : Int32).toInt = ((0 : Nat) : Int) := by decide
      refine hm_ck (fun _ _ => hm_lt (fun x ex => hm_if (fun d => ?_) (fun d => ?_)))
      · refine hm_some (Or.inl ⟨rfl, rfl, Or.inr (Or.inr ⟨k, e1, hk, ?_⟩)⟩)
        rw [← d, ex, t1]
      · refine hm_mono (mh_again_22 (F0 := f1 1) (f0 := f1) e1 hk n f1 w1 0 0 z (by omega) ⟨fun j h => absurd h (Nat.not_lt_zero _), fun j _ => rfl⟩ (fun _ _ => rfl)) (fun f4 _ r h => Or.inr ⟨k, h.2.2, e1, hk, ?_, h.1, h.2.1 2 (by decide)⟩)
        rw [← t1, ← ex]
        exact d
    · exact absurd h c
theorem gb_gT3 {p : Int32} {k : Nat} (e : p.toInt = k) (hk : k < 3) : ([25, 48, 71] : List Nat).getD (Int32.toNatClampNeg p) 0 = 25 + 23 * k := by
  rw [gi_tn e]
  have : k = 0 ∨ k = 1 ∨ k = 2 := by omega
  rcases this with rfl | rfl | rfl <;> rfl
theorem ch_image {n : Nat} {σ : gb_S} {p1 : Int32} : gb_hc (cs_Face_image n σ p1) (fun s r => (r = 0 ∧ s = σ ∧ (p1.toInt < 0 ∨ 2 < p1.toInt)) ∨ ∃ (k : Nat) (s2 : gb_S), r = 1 ∧ p1.toInt = k ∧ k < 3 ∧ gb_cpd σ (25 + 23 * k) 1 s2 ∧ s = gb_su s2 94 (upd (s2.1 94) k 1)) := by
  unfold cs_Face_image
  have c0 : (0 : Int32).toInt = 0 := by decide
  have c3 : (3 : Int32).toInt = 3 := by decide
  have nb : vp_nar .boolean 1 = 1 := by decide
  refine hc_if (fun c => hc_some (Or.inl ⟨rfl, rfl, Or.inl (by have := gi_lt c; omega)⟩)) (fun c => hc_if (fun d => ?_) (fun d => hc_some (Or.inl ⟨rfl, rfl, Or.inr (by have := gi_nlt d; omega)⟩)))
  have h1 := gi_nlt c
  have h2 := gi_lt d
  obtain ⟨k, e1, t1⟩ := gi_nn (x := p1) (by omega)
  have hk : k < 3 := by omega
  refine hc_ck (fun _ _ => hc_lt (fun a ea => hc_kk (fun _ => ?_)))
  rw [gb_gT3 e1 hk] at ea
  subst ea
  refine hc_cd (ch_copy (by omega)) (fun s2 _ h => hc_ck (fun _ _ => hc_lt (fun s3 e3 => hc_some (Or.inr ⟨k, s2, rfl, e1, hk, h, ?_⟩))))
  rw [e3, t1, nb]
theorem ch_again {n : Nat} {σ : gb_S} {p1 : Int32} : gb_hc (cs_Face_again n σ p1) (fun s r => (r = 0 ∧ s = σ ∧ (p1.toInt < 0 ∨ 2 < p1.toInt ∨ ∃ k : Nat, p1.toInt = k ∧ k < 3 ∧ σ.1 94 k = 0)) ∨ ∃ (k : Nat), r = 1 ∧ p1.toInt = k ∧ k < 3 ∧ ¬ σ.1 94 k = 0 ∧ gb_cpd σ 1 (25 + 23 * k) s) := by
  unfold cs_Face_again
  have c0 : (0 : Int32).toInt = 0 := by decide
  have c3 : (3 : Int32).toInt = 3 := by decide
  refine hc_if (fun c => hc_some (Or.inl ⟨rfl, rfl, Or.inl (by have := gi_lt c; omega)⟩)) (fun c => hc_if (fun d => hc_some (Or.inl ⟨rfl, rfl, Or.inr (Or.inl (by have := gi_le d; omega))⟩)) (fun d => ?_))
  have h1 := gi_nlt c
  have h2 := gi_nle d
  obtain ⟨k, e1, t1⟩ := gi_nn (x := p1) (by omega)
  have hk : k < 3 := by omega
  refine hc_ck (fun _ _ => hc_lt (fun x ex => ?_))
  rw [t1] at ex
  refine hc_if (fun z => hc_some (Or.inl ⟨rfl, rfl, Or.inr (Or.inr ⟨k, e1, hk, by rw [← ex]; exact z⟩)⟩)) (fun z => ?_)
  refine hc_ck (fun _ _ => hc_lt (fun a ea => hc_kk (fun _ => ?_)))
  rw [gb_gT3 e1 hk] at ea
  subst ea
  refine hc_cd (ch_copy (by omega)) (fun s2 _ h => hc_some (Or.inr ⟨k, rfl, e1, hk, ?_, h⟩))
  rw [← ex]
  exact z
/-! shift of the reference leaves what is told as it was -/
def gb_swF (F : Nat → Int32) (B i : Nat) : Nat → Int32 := fun j => if B ≤ j ∧ j < B + i then F (j + 4) else if B + 4 ≤ j ∧ j < B + 4 + i then F (j - 4) else F j
theorem gb_swF0 {F : Nat → Int32} {B : Nat} : gb_swF F B 0 = F := by
  funext j
  unfold gb_swF
  rw [if_neg (by omega), if_neg (by omega)]
theorem gb_swF1 {F : Nat → Int32} {B i : Nat} (hi : i < 4) : upd (upd (gb_swF F B i) (B + i) (gb_swF F B i (B + i + 4))) (B + i + 4) (gb_swF F B i (B + i)) = gb_swF F B (i + 1) := by
  have a1 : gb_swF F B i (B + i) = F (B + i) := by
    unfold gb_swF
    rw [if_neg (by omega), if_neg (by omega)]
  have a2 : gb_swF F B i (B + i + 4) = F (B + i + 4) := by
    unfold gb_swF
    rw [if_neg (by omega), if_neg (by omega)]
  rw [a1, a2]
  funext j
  by_cases h1 : j = B + i + 4
  · rw [h1, pk_us]
    unfold gb_swF
    rw [if_neg (by omega), if_pos (by omega)]
    congr 1
  · rw [pk_un h1]
    by_cases h2 : j = B + i
    · rw [h2, pk_us]
      unfold gb_swF
      rw [if_pos (by omega)]
    · rw [pk_un h2]
      unfold gb_swF
      by_cases h3 : B ≤ j ∧ j < B + i
      · rw [if_pos h3, if_pos (by omega)]
      · have n1 : ¬ (B ≤ j ∧ j < B + (i + 1)) := by omega
        by_cases h4 : B + 4 ≤ j ∧ j < B + 4 + i
        · have n2 : B + 4 ≤ j ∧ j < B + 4 + (i + 1) := by omega
          rw [if_neg h3, if_pos h4, if_neg n1, if_pos n2]
        · have n2 : ¬ (B + 4 ≤ j ∧ j < B + 4 + (i + 1)) := by omega
          rw [if_neg h3, if_neg h4, if_neg n1, if_neg n2]
theorem gb_swF2 {F : Nat → Int32} {B : Nat} : gb_swF (gb_swF F B 4) B 4 = F := by
  funext j
  show (if B ≤ j ∧ j < B + 4 then gb_swF F B 4 (j + 4) else if B + 4 ≤ j ∧ j < B + 4 + 4 then gb_swF F B 4 (j - 4) else gb_swF F B 4 j) = F j
  by_cases h1 : B ≤ j ∧ j < B + 4
  · rw [if_pos h1]
    unfold gb_swF
    rw [if_neg (by omega), if_pos (by omega), Nat.add_sub_cancel]
  · rw [if_neg h1]
    by_cases h2 : B + 4 ≤ j ∧ j < B + 4 + 4
    · rw [if_pos h2]
      unfold gb_swF
      rw [if_pos (by omega)]
      congr 1
      omega
    · rw [if_neg h2]
      unfold gb_swF
      rw [if_neg h1, if_neg h2]
theorem mh_swaps_2 {n : Nat} {F0 : Nat → Int32} {f0 : gb_F} {v1 : Int32} {B : Nat} (hB : (((f0 0 12) + 1) + (4 * v1)).toInt = B) (hB2 : B ≤ 2000) : ∀ (mm : Nat) (f : gb_F) (w : Int64) (v2 : Int32) (i : Nat), v2.toInt = i → i ≤ 4 → f 1 = gb_swF F0 B i → (∀ q, q ≠ 1 → f q = f0 q) → gb_hm (ms_swaps_2 n mm f w v1 v2) (fun f2 _ _ => f2 1 = gb_swF F0 B 4 ∧ ∀ q, q ≠ 1 → f2 q = f0 q) := by
  intro mm
  induction mm with
  | zero =>
    intros
    exact hm_none
  | succ mm ih =>
    intro f w v2 i e2 hi h1 hf
    unfold ms_swaps_2
    have c4 : (4 : Int32).toInt = 4 := by decide
    refine hm_if (fun c => ?_) (fun c => ?_)
    · have := gi_le c
      have hi2 : i = 4 := by omega
      rw [hi2] at h1
      exact hm_some ⟨h1, hf⟩
    · have := gi_nle c
      refine hm_lt (fun x ex => hm_ck (fun _ _ => hm_lt (fun y ey => hm_ck (fun _ _ => hm_lt (fun z ez => hm_ck (fun _ _ => hm_lt (fun f2 e2' => hm_ck (fun _ _ => hm_lt (fun f3 e3 => hm_lt (fun u eu => ?_))))))))))
      rw [hf 0 (by decide)] at ex
      have a1 : x.toInt = ((B + i : Nat) : Int) := by
        rw [ex, gb_tadd (by omega) (by omega), hB, e2]
        omega
      have a2 : (x + 4).toInt = ((B + i + 4 : Nat) : Int) := by
        rw [gb_tadd (by omega) (by omega), c4, a1]
        omega
      refine ih f3 w u (i + 1) (by rw [eu]; exact gi_s1 e2 (by omega)) (by omega) ?_ (fun q hq => ?_)
      · rw [e3, gb_us, e2', gb_us, ey, ez, gi_tn a1, gi_tn a2, h1]
        exact gb_swF1 (by omega)
      · rw [e3, gb_un hq, e2', gb_un hq]
        exact hf q hq
theorem mh_swaps {n : Nat} {f : gb_F} {w : Int64} {v1 : Int32} {B : Nat} (hB : (((f 0 12) + 1) + (4 * v1)).toInt = B) (hB2 : B ≤ 2000) : gb_hm (ms_swaps n f w v1) (fun f2 _ _ => f2 1 = gb_swF (f 1) B 4 ∧ ∀ q, q ≠ 1 → f2 q = f q) := by
  unfold ms_swaps
  have z : (0 : Int32).toInt = ((0 : Nat) : Int) := by decide
  exact mh_swaps_2 hB hB2 n f w 0 0 z (by omega) gb_swF0.symm (fun _ _ => rfl)
theorem gb_swB {f : gb_F} {v : Int32} (hN : gb_NN f) (i : gb_iv 0 22 v) : ∃ B : Nat, (((f 0 12) + 1) + (4 * v)).toInt = B ∧ B ≤ 2000 := by
  have c1 : (1 : Int32).toInt = 1 := by decide
  have c4 : (4 : Int32).toInt = 4 := by decide
  obtain ⟨i1, i2⟩ := i
  have a2 : (4 * v).toInt = 4 * v.toInt := by
    rw [gb_tmul (by rw [c4]; omega) (by rw [c4]; omega), c4]
  have e : (f 0 12).toInt = 726 ∨ (f 0 12).toInt = 823 := by
    rcases hN with e | e
    · exact Or.inl (by rw [e]; decide)
    · exact Or.inr (by rw [e]; decide)
  have a1 : ((f 0 12) + 1).toInt = (f 0 12).toInt + 1 := by
    rw [gb_tadd (by omega) (by omega), c1]
  have a3 : (((f 0 12) + 1) + (4 * v)).toInt = (f 0 12).toInt + 1 + 4 * v.toInt := by
    rw [gb_tadd (by omega) (by omega), a1, a2]
  exact ⟨((f 0 12).toInt + 1 + 4 * v.toInt).toNat, by omega, by omega⟩
def gb_k12 (F1 F2 : Nat → Int32) (f : gb_F) : Prop := f 1 = F1 ∧ f 2 = F2
theorem gb_k12_sm {F1 F2 : Nat → Int32} : gb_sm (gb_k12 F1 F2) := ⟨fun f F h => ⟨h.1, h.2⟩, fun f k F hk h => ⟨(gb_un (by omega)).trans h.1, (gb_un (by omega)).trans h.2⟩⟩
set_option maxHeartbeats 4000000 in
theorem mh_shift_35 {n : Nat} (hn : gb_N ≤ n) {F1 F2 : Nat → Int32} : ∀ (mm : Nat) (f : gb_F) (w : Int64) (v3 v4 v5 v6 v7 : Int32), gb_TM f → gb_NN f → gb_k12 F1 F2 f → gb_iv 0 24 v4 → gb_iv 0 24 v7 → gb_hm (ms_shift_35 n mm f w v3 v4 v5 v6 v7) (fun f2 _ _ => gb_k12 F1 F2 f2) := by
  intro mm
  induction mm with
  | zero =>
    intros
    exact hm_none
  | succ mm ih =>
    intro f w v3 v4 v5 v6 v7 hT hN hk i4 i7
    rw [ms_shift_35]
    refine hm_if (fun c => hm_if (fun _ => hm_some hk) (fun _ => hm_if (fun _ => hm_some hk) (fun _ => hm_some hk))) (fun c => ?_)
    have i7' : gb_iv 0 22 v7 := by
      have h1 := gb_dnle c
      have h2 := gb_i1 i7 (by decide)
      have h3 := i4.2
      exact ⟨i7.1, by omega⟩
    have st : ∀ x : Int32, x = v7 + 1 → gb_iv 0 24 x := fun x e => by
      rw [e]
      exact gb_iw (gb_iadd (lo := 1) (hi := 23) i7' (gb_ic (a := 1) (by decide)) (by decide)) (by decide)
    obtain ⟨B, hB, hB2⟩ := gb_swB hN i7'
    refine hm_bd (hm_and (hm_of (mt_swaps hn hT hN i7')) (mh_swaps hB hB2)) (fun f2 w2 _ h => ?_)
    obtain ⟨⟨hT2, hN2⟩, s1, s2⟩ := h
    refine hm_bd (hm_and (hm_of (mt_runs hn hT2 hN2)) (hm_pm (cm_runs (P := fun g => g 2 = f2 2) ⟨fun g F h => h, fun g k F hk h => (gb_un (by omega)).trans h⟩ rfl))) (fun f3 w3 _ h3 => ?_)
    obtain ⟨⟨hX, -⟩, g2⟩ := h3
    have hT3 := hX.1
    have hN3 := gb_NNx hX hN2
    have b3 : (((f3 0 12) + 1) + (4 * v7)).toInt = B := by
      rw [hX.2.2.2.1, s2 0 (by decide)]
      exact hB
    have fin : ∀ (g : gb_F) (u : Int64), g = f3 → ∀ (x3 x4 x5 x6 : Int32), gb_iv 0 24 x4 → gb_hm (gb_bd (ms_swaps n g u v7) (fun f_34 wl_35 _ => gb_lt (v7 + 1) (fun x_39 => ms_shift_35 n mm f_34 wl_35 x3 x4 x5 x6 x_39))) (fun f2 _ _ => gb_k12 F1 F2 f2) := by
      intro g u eg x3 x4 x5 x6 hx4
      subst eg
      refine hm_bd (hm_and (hm_of (mt_swaps hn hT3 hN3 i7')) (mh_swaps b3 hB2)) (fun f4 w4 _ h => ?_)
      obtain ⟨⟨hT4, hN4⟩, u1, u2⟩ := h
      refine hm_lt (fun x ex => ih f4 w4 _ _ _ _ x hT4 hN4 ⟨?_, ?_⟩ hx4 (st x ex))
      · rw [u1, hX.2.1, s1, gb_swF2]
        exact hk.1
      · rw [u2 2 (by decide), g2, s2 2 (by decide)]
        exact hk.2
    have key : ∀ t0 : Int32, gb_hm (ms_shift_79 n (fun f w v3 v4 v5 v6 v7 => ms_shift_35 n mm f w v3 v4 v5 v6 v7) f3 w3 v3 v4 v5 v6 v7 t0) (fun f2 _ _ => gb_k12 F1 F2 f2) := by
      intro t0
      unfold ms_shift_79
      refine hm_if (fun _ => hm_if (fun _ => fin _ _ rfl _ _ _ _ i4) (fun _ => fin _ _ rfl _ _ _ _ i4)) (fun _ => ?_)
      refine hm_bd (hm_of (mt_allPay hn hT3)) (fun f5 w5 r h5 => ?_)
      exact hm_if (fun _ => fin _ _ h5.1 _ _ _ _ i4) (fun _ => fin _ _ h5.1 _ _ _ _ i4)
    refine hm_if (fun _ => ?_) (fun _ => ?_)
    · unfold ms_shift_78
      exact key 0
    · refine hm_bd (hm_of (mt_allPay hn hT3)) (fun f5 w5 r h5 => ?_)
      obtain ⟨rfl, rfl, -⟩ := h5
      refine hm_if (fun _ => ?_) (fun _ => key 1)
      unfold ms_shift_78
      exact key 0
theorem mh_shift {n : Nat} (hn : gb_N ≤ n) {f : gb_F} {w : Int64} {p1 p2 p3 : Int32} (hT : gb_TM f) : gb_hm (ms_shift n f w p1 p2 p3) (fun f2 _ _ => gb_k12 (f 1) (f 2) f2) := by
  unfold ms_shift
  refine hm_bd (hm_and (hm_of (mt_areTold hT)) (hm_pm (cm_areTold (P := gb_k12 (f 1) (f 2)) gb_k12_sm ⟨rfl, rfl⟩))) (fun f1 w1 r1 h1 => ?_)
  obtain ⟨⟨hT1, i1, hN⟩, k1⟩ := h1
  refine hm_if (fun c => hm_some k1) (fun c => ?_)
  refine hm_bd (hm_and (hm_of (mt_runs hn hT1 (hN c))) (hm_pm (cm_runs (P := gb_k12 (f 1) (f 2)) gb_k12_sm k1))) (fun f3 w3 _ h3 => ?_)
  obtain ⟨⟨hX, -⟩, k3⟩ := h3
  refine hm_lt (fun x ex => hm_bd (hm_of (mt_allPay hn hX.1)) (fun f5 w5 r h5 => ?_))
  obtain ⟨rfl, rfl, -⟩ := h5
  have z : gb_iv 0 24 (0 : Int32) := gb_iw (gb_ic (a := 0) (by decide)) (by decide)
  exact mh_shift_35 hn n f5 w5 _ _ _ _ _ hX.1 (gb_NNx hX (hN c)) k3 (by rw [ex]; exact gb_i23 hX.1) z
/-! THE REFERENCE's text(): what stands behind the reading of lines, exactly -/
def gb_cpF (F R : Nat → Int32) (P i : Nat) : Nat → Int32 := fun j => if P ≤ j ∧ j < P + i then R (j - P) else F j
theorem gb_cpF0 {F R : Nat → Int32} {P : Nat} : gb_cpF F R P 0 = F := by
  funext j
  unfold gb_cpF
  rw [if_neg (by omega)]
theorem gb_cpF1 {F R : Nat → Int32} {P i : Nat} : upd (gb_cpF F R P i) (P + i) (R i) = gb_cpF F R P (i + 1) := by
  funext j
  by_cases h : j = P + i
  · rw [h, pk_us]
    unfold gb_cpF
    rw [if_pos (by omega), Nat.add_sub_cancel_left]
  · rw [pk_un h]
    unfold gb_cpF
    by_cases h2 : P ≤ j ∧ j < P + i
    · rw [if_pos h2, if_pos (by omega)]
    · rw [if_neg h2, if_neg (by omega)]
theorem mh_text_248 {n : Nat} {F0 : Nat → Int32} {f0 : gb_F} {v1 v3 : Int32} {s k : Nat} (h1 : v1.toInt = s) (hs : s ≤ 3) (h3 : v3.toInt = k) (hk : k ≤ 1) : ∀ (mm : Nat) (f : gb_F) (w : Int64) (v4 : Int32) (i : Nat), v4.toInt = i → i ≤ gb_sz s → f 1 = gb_cpF F0 (f0 3) (gb_pl s k) i → (∀ q, q ≠ 1 → f q = f0 q) → gb_hm (ms_text_248 n mm f w v1 v3 v4) (fun f2 _ r => r = v3 ∧ f2 1 = gb_cpF F0 (f0 3) (gb_pl s k) (gb_sz s) ∧ ∀ q, q ≠ 1 → f2 q = f0 q) := by
  intro mm
  induction mm with
  | zero =>
    intros
    exact hm_none
  | succ mm ih =>
    intro f w v4 i e4 hi hf hq
    unfold ms_text_248
    refine hm_bd (hm_of (mt_sizeOfE h1 hs)) (fun g w2 r hr => ?_)
    obtain ⟨rfl, rfl, hr⟩ := hr
    refine hm_if (fun c => ?_) (fun c => ?_)
    · have := gi_le c
      have hi2 : i = gb_sz s := by omega
      rw [hi2] at hf
      exact hm_some ⟨rfl, hf, hq⟩
    · have := gi_nle c
      refine hm_bd (hm_of (mt_placeOfE h1 hs h3 hk)) (fun g2 w3 p hp => ?_)
      obtain ⟨rfl, rfl, hp⟩ := hp
      obtain ⟨-, q2⟩ := gt_1R hs hk (i := i) (by omega)
      have ep : (p + v4).toInt = ((gb_pl s k + i : Nat) : Int) := by
        rw [gb_tadd (by rw [hp, e4]; omega) (by rw [hp, e4]; omega), hp, e4]
        omega
      refine hm_ck (fun _ _ => hm_lt (fun x ex => hm_ck (fun _ _ => hm_lt (fun f2 e2 => hm_lt (fun y ey => ?_)))))
      refine ih f2 w3 y (i + 1) (by rw [ey]; exact gi_s1 e4 (by omega)) (by omega) ?_ (fun q hne => ?_)
      · rw [e2, gb_us, gi_tn ep, ex, gi_tn e4, hf, hq 3 (by decide)]
        exact gb_cpF1
      · rw [e2, gb_un hne]
        exact hq q hne
/-! the number of the text: the next one, or the one told -/
def gb_nt (s : Nat) (v2 : Int32) (f : gb_F) : Int32 := if v2 = -1 then f 1 s else v2
def gb_hd (s : Nat) (v2 : Int32) (f : gb_F) : Nat → Int32 := if v2 = -1 then upd (f 1) s (f 1 s + 1) else f 1
theorem mh_text_203 {n : Nat} {f : gb_F} {w : Int64} {v1 v2 : Int32} {s k : Nat} (h1 : v1.toInt = s) (hs : s ≤ 3) (hk : (gb_nt s v2 f).toInt = k) (hk1 : k ≤ 1) : gb_hm (ms_text_203 n f w v1 v2) (fun f2 _ r => (¬ f 1 5 = 0 ∧ r = -1 ∧ f2 = f) ∨ (f 1 5 = 0 ∧ r = gb_nt s v2 f ∧ f2 1 = gb_cpF (gb_hd s v2 f) (f 3) (gb_pl s k) (gb_sz s) ∧ ∀ q, q ≠ 1 → f2 q = f q)) := by
  unfold ms_text_203
  have t5 : Int32.toNatClampNeg 5 = 5 := by decide
  have t1 := gi_tn h1
  have z : (0 : Int32).toInt = ((0 : Nat) : Int) := by decide
  rw [t5]
  refine hm_lt (fun x ex => hm_if (fun c => ?_) (fun c => ?_))
  · rw [ex] at c
    have go : ∀ t0 : Int32, t0 = gb_nt s v2 f → gb_hm (ms_text_229 n f w v1 v2 t0) (fun f2 _ r => r = gb_nt s v2 f ∧ f2 1 = gb_cpF (gb_hd s v2 f) (f 3) (gb_pl s k) (gb_sz s) ∧ ∀ q, q ≠ 1 → f2 q = f q) := by
      intro t0 et
      unfold ms_text_229
      rw [t1]
      refine hm_if (fun d => hm_ck (fun _ _ => hm_lt (fun y ey => hm_ck (fun _ _ => hm_lt (fun g eg => ?_))))) (fun d => ?_)
      · have g3 : g 3 = f 3 := by
          rw [eg]
          exact gb_un (by decide)
        have hh : gb_hd s v2 f = g 1 := by
          unfold gb_hd
          rw [if_pos d, eg, gb_us, ey]
        refine hm_mono (mh_text_248 (F0 := g 1) (f0 := g) h1 hs (by rw [et]; exact hk) hk1 n g w 0 0 z (Nat.zero_le _) gb_cpF0.symm (fun _ _ => rfl)) (fun f4 _ r h => ⟨h.1.trans et, ?_, fun q hq => ?_⟩)
        · rw [h.2.1, hh, g3]
        · rw [h.2.2 q hq, eg]
          exact gb_un hq
      · have hh : gb_hd s v2 f = f 1 := if_neg d
        refine hm_mono (mh_text_248 (F0 := f 1) (f0 := f) h1 hs (by rw [et]; exact hk) hk1 n f w 0 0 z (Nat.zero_le _) gb_cpF0.symm (fun _ _ => rfl)) (fun f4 _ r h => ⟨h.1.trans et, ?_, h.2.2⟩)
        rw [h.2.1, hh]
    refine hm_if (fun d => hm_ck (fun _ _ => hm_lt (fun y ey => ?_))) (fun d => ?_)
    · rw [t1] at ey
      refine hm_mono (go y ?_) (fun _ _ _ h => Or.inr ⟨c, h⟩)
      unfold gb_nt
      rw [if_pos d, ey]
    · refine hm_mono (go v2 ?_) (fun _ _ _ h => Or.inr ⟨c, h⟩)
      unfold gb_nt
      rw [if_neg d]
  · rw [ex] at c
    exact hm_some (Or.inl ⟨c, rfl, rfl⟩)
/-! what text() leaves: by the state f behind the lines -/
def gb_txd (s k : Nat) (v2 : Int32) (f f2 : gb_F) (r : Int32) : Prop := (¬ f 1 5 = 0 ∧ r = -1 ∧ f2 = f) ∨ (f 1 5 = 0 ∧ ¬ f 0 9 = 0 ∧ r = -1 ∧ f2 1 = upd (upd (f 1) 5 4) 6 (f 0 4) ∧ ∀ q, q ≠ 1 → f2 q = f q) ∨ (f 1 5 = 0 ∧ f 0 9 = 0 ∧ r = gb_nt s v2 f ∧ f2 1 = gb_cpF (gb_hd s v2 f) (f 3) (gb_pl s k) (gb_sz s) ∧ ∀ q, q ≠ 1 → f2 q = f q)
theorem mh_text_178 {n : Nat} {f : gb_F} {w : Int64} {v1 v2 : Int32} {s k : Nat} (h1 : v1.toInt = s) (hs : s ≤ 3) (hk : (gb_nt s v2 f).toInt = k) (hk1 : k ≤ 1) (hw : ¬ f 0 8 = 0 → ¬ f 1 5 = 0) : gb_hm (ms_text_178 n f w v1 v2) (fun f2 _ r => gb_txd s k v2 f f2 r) := by
  unfold ms_text_178
  have t5 : Int32.toNatClampNeg 5 = 5 := by decide
  have t6 : Int32.toNatClampNeg 6 = 6 := by decide
  rw [t5]
  refine hm_lt (fun x ex => hm_if (fun c => ?_) (fun c => ?_))
  · rw [ex] at c
    refine hm_if (fun d => ?_) (fun d => ?_)
    · refine hm_mono (mh_text_203 h1 hs hk hk1) (fun f2 _ r h => ?_)
      rcases h with h | h
      · exact absurd c h.1
      · exact Or.inr (Or.inr ⟨c, d, h.2⟩)
    · have h8 : f 0 8 = 0 := Classical.byContradiction (fun q => hw q c)
      refine hm_bd (P := fun f2 _ _ => f2 1 = upd (upd (f 1) 5 4) 6 (f 0 4) ∧ ∀ q, q ≠ 1 → f2 q = f q) ?_ (fun g w2 _ h => ?_)
      · unfold ms_also
        rw [if_pos h8, t5, t6]
        refine hm_lt (fun y ey => ?_)
        rw [if_pos (ey.trans c)]
        refine hm_lt (fun g eg => hm_lt (fun g2 eg2 => hm_some ⟨?_, fun q hq => ?_⟩))
        · rw [eg2, gb_us, eg, gb_us]
        · rw [eg2, gb_un hq, eg, gb_un hq]
      · have g5 : g 1 5 = 4 := by
          rw [h.1, pk_un (by decide), pk_us]
        have gn : gb_nt s v2 g = gb_nt s v2 f := by
          unfold gb_nt
          rw [h.1, pk_un (by omega), pk_un (by omega)]
        refine hm_mono (mh_text_203 h1 hs (by rw [gn]; exact hk) hk1) (fun f2 _ r h2 => ?_)
        rcases h2 with h2 | h2
        · refine Or.inr (Or.inl ⟨c, d, h2.2.1, ?_, fun q hq => ?_⟩)
          · rw [h2.2.2]
            exact h.1
          · rw [h2.2.2]
            exact h.2 q hq
        · rw [g5] at h2
          exact absurd h2.1 (by decide)
  · rw [ex] at c
    refine hm_mono (mh_text_203 h1 hs hk hk1) (fun f2 _ r h => ?_)
    rcases h with h | h
    · exact Or.inl h
    · exact absurd h.1 c
/-! text() leaves the tape empty, the images and what is kept as they were -/
def gb_zz (F0 F2 : Nat → Int32) (g : gb_F) : Prop := g 1 4 = 0 ∧ (∀ j, 992 ≤ j → g 1 j = F0 j) ∧ g 2 = F2
theorem gb_zz_t {F0 F2 : Nat → Int32} {s k : Nat} {v2 : Int32} {f f2 : gb_F} {r : Int32} (hs : s ≤ 3) (hk : k ≤ 1) (h : gb_txd s k v2 f f2 r) (g : gb_zz F0 F2 f) : gb_zz F0 F2 f2 := by
  obtain ⟨g1, g2, g3⟩ := g
  rcases h with h | h | h
  · rw [h.2.2]
    exact ⟨g1, g2, g3⟩
  · obtain ⟨-, -, -, h1, h2⟩ := h
    refine ⟨?_, fun j hj => ?_, (h2 2 (by decide)).trans g3⟩
    · rw [h1, pk_un (by decide), pk_un (by decide)]
      exact g1
    · rw [h1, pk_un (by omega), pk_un (by omega)]
      exact g2 j hj
  · obtain ⟨-, -, -, h1, h2⟩ := h
    have hpl : 610 ≤ gb_pl s k := by
      unfold gb_pl
      repeat' split
      all_goals omega
    have hin : ∀ j, gb_pl s k ≤ j → j < gb_pl s k + gb_sz s → j < 992 := fun j a b => by
      have := (gt_1R hs hk (i := j - gb_pl s k) (by omega)).2
      omega
    have hh : ∀ j, 4 ≤ j → gb_hd s v2 f j = f 1 j := fun j hj => by
      unfold gb_hd
      split
      · exact pk_un (by omega)
      · rfl
    refine ⟨?_, fun j hj => ?_, (h2 2 (by decide)).trans g3⟩
    · rw [h1]
      unfold gb_cpF
      rw [if_neg (by omega), hh 4 (by omega)]
      exact g1
    · rw [h1]
      unfold gb_cpF
      rw [if_neg (fun q => by have := hin j q.1 q.2; omega), hh j (by omega)]
      exact g2 j hj
theorem gb_zz_sm {F0 F2 : Nat → Int32} : gb_sm (gb_zz F0 F2) := ⟨fun f F h => h, fun f k F hk h => by
  unfold gb_zz
  rw [gb_un (by omega), gb_un (by omega)]
  exact h⟩
theorem gb_zz_s5 {F0 F2 : Nat → Int32} : gb_w5c (gb_zz F0 F2) := fun f v h => by
  have t5 : Int32.toNatClampNeg 5 = 5 := by decide
  have t6 : Int32.toNatClampNeg 6 = 6 := by decide
  obtain ⟨h1, h2, h3⟩ := h
  rw [t5, t6]
  refine ⟨⟨?_, fun j hj => ?_, h3⟩, ⟨?_, fun j hj => ?_, h3⟩⟩
  · rw [gb_us, pk_un (by decide)]
    exact h1
  · rw [gb_us, pk_un (by omega)]
    exact h2 j hj
  · rw [gb_us, pk_un (by decide)]
    exact h1
  · rw [gb_us, pk_un (by omega)]
    exact h2 j hj
theorem gb_Ek {s : Nat} {v2 : Int32} {f : gb_F} (hT : gb_TM f) (hs : s ≤ 3) (hE : gb_E s v2 f) : ∃ k : Nat, (gb_nt s v2 f).toInt = k ∧ k ≤ 1 := by
  unfold gb_nt
  by_cases c : v2 = -1
  · rw [if_pos c]
    have h1 := hE.1 c
    have h2 := (gb_r1 (f := f) (j := s) (lo := 0) (hi := 2) hT (by
      have : s % 992 < 4 := by omega
      unfold gt_1
      rw [if_pos this]
      decide)).1
    exact ⟨(f 1 s).toInt.toNat, by omega, by omega⟩
  · rw [if_neg c]
    have h := hE.2 c
    have := h.1
    have := h.2
    exact ⟨v2.toInt.toNat, by omega, by omega⟩
theorem mh_text_122z {n : Nat} (hn : gb_N ≤ n) {F0 F2 : Nat → Int32} {v1 v2 : Int32} {s : Nat} (h1 : v1.toInt = s) (hs : s ≤ 3) : ∀ (mm : Nat) (f : gb_F) (w : Int64), gb_I s f → gb_E s v2 f → gb_zz F0 F2 f → gb_hm (ms_text_122 n mm f w v1 v2) (fun f2 _ _ => gb_zz F0 F2 f2) := by
  intro mm
  induction mm with
  | zero =>
    intros
    exact hm_none
  | succ mm ih =>
    intro f w hI hE hz
    obtain ⟨k, hk, hk1⟩ := gb_Ek hI.1 hs hE
    have last : gb_hm (ms_text_178 n f w v1 v2) (fun f2 _ _ => gb_zz F0 F2 f2) := hm_mono (mh_text_178 h1 hs hk hk1 hI.2.2.2.2) (fun _ _ _ h => gb_zz_t hs hk1 h hz)
    rw [ms_text_122]
    refine hm_if (fun c => hm_if (fun _ => last) (fun _ => ?_)) (fun _ => last)
    have st : ∀ (f2 : gb_F) (w2 : Int64), gb_L s f f2 → gb_zz F0 F2 f2 → gb_hm (ms_text_122 n mm f2 w2 v1 v2) (fun f2 _ _ => gb_zz F0 F2 f2) := fun f2 w2 h hz2 => ih f2 w2 h.1 (gb_E_keep hs hE h.2.1) hz2
    rcases gb_so h1 hs with ⟨e, rfl⟩ | ⟨e, rfl⟩ | ⟨e, rfl⟩ | ⟨e, rfl⟩
    · rw [if_pos e]
      exact hm_bd (hm_and (hm_of (mi_borderLine hn hI)) (hm_pm (cm_borderLine gb_zz_sm gb_zz_s5 hz))) (fun f2 w2 _ h => st f2 w2 h.1 h.2)
    · rw [if_neg (by rw [e]; decide), if_pos e]
      exact hm_bd (hm_and (hm_of (mi_deedLine hn hI)) (hm_pm (cm_deedLine gb_zz_sm gb_zz_s5 hz))) (fun f2 w2 _ h => st f2 w2 h.1 h.2)
    · rw [if_neg (by rw [e]; decide), if_neg (by rw [e]; decide), if_pos e]
      exact hm_bd (hm_and (hm_of (mi_termLine hn hI)) (hm_pm (cm_termLine gb_zz_sm gb_zz_s5 hz))) (fun f2 w2 _ h => st f2 w2 h.1 h.2)
    · rw [if_neg (by rw [e]; decide), if_neg (by rw [e]; decide), if_neg (by rw [e]; decide)]
      exact hm_bd (hm_and (hm_of (mi_seenLine hn hI)) (hm_pm (cm_seenLine gb_zz_sm gb_zz_s5 hz))) (fun f2 w2 _ h => st f2 w2 h.1 h.2)
/-! text(), up to the first token -/
def gb_F1 (F : Nat → Int32) : Nat → Int32 := upd (upd (upd F 4 0) 5 0) 6 (-1)
def gb_r0 (s j : Nat) : Int32 := if s = 0 ∧ j = 2 then -1 else 0
def gb_go (s : Nat) (p2 : Int32) (f g : gb_F) : Prop := gb_TM g ∧ gb_E s p2 g ∧ g 0 2 = f 1 4 ∧ g 0 3 = 0 ∧ g 0 8 = 0 ∧ g 0 9 = 0 ∧ g 1 = gb_F1 (f 1) ∧ g 2 = f 2
theorem mh_text_88 {n : Nat} {Q : gb_F → Int64 → Int32 → Prop} {f0 : gb_F} {v1 v2 : Int32} {s : Nat} (h1 : v1.toInt = s) (hs : s ≤ 3) (K : ∀ (g : gb_F) (w : Int64), gb_go s v2 f0 g → (∀ j, j < 97 → g 3 j = gb_r0 s j) → gb_hm (gb_bd (ms_advance n g w) (fun f w _ => ms_text_122 n n f w v1 v2)) Q) : ∀ (mm : Nat) (f : gb_F) (w : Int64) (v3 : Int32) (i : Nat), v3.toInt = i → i ≤ 97 → gb_go s v2 f0 f → (∀ j, j < i → f 3 j = 0) → gb_hm (ms_text_88 n mm f w v1 v2 v3) Q := by
  intro mm
  induction mm with
  | zero =>
    intros
    exact hm_none
  | succ mm ih =>
    intro f w v3 i e3 hi hg hz
    rw [ms_text_88]
    have c97 : (97 : Int32).toInt = 97 := by decide
    have t2 : Int32.toNatClampNeg 2 = 2 := by decide
    have c0 : (0 : Int32).toInt = 0 := by decide
    have up : ∀ (g : gb_F) (F : Nat → Int32), g = gb_u f 3 F → gb_go s v2 f0 g := fun g F eg => by
      obtain ⟨a1, a2, a3, a4, a5, a6, a7, a8⟩ := hg
      have e0 : g 0 = f 0 := by rw [eg]; exact gb_un (by decide)
      have e1 : g 1 = f 1 := by rw [eg]; exact gb_un (by decide)
      have e2 : g 2 = f 2 := by rw [eg]; exact gb_un (by decide)
      refine ⟨by rw [eg]; exact (gb_XKu (gb_XKr a1) rfl).1, ⟨fun q => by rw [e1]; exact a2.1 q, a2.2⟩, ?_, ?_, ?_, ?_, e1.trans a7, e2.trans a8⟩
      · rw [e0]; exact a3
      · rw [e0]; exact a4
      · rw [e0]; exact a5
      · rw [e0]; exact a6
    refine hm_if (fun c => ?_) (fun c => ?_)
    · have := gi_le c
      refine hm_if (fun d => hm_lt (fun g eg => ?_)) (fun d => ?_)
      · have s0 : s = 0 := by
          rw [d] at h1
          omega
        refine K g w (up g _ eg) (fun j hj => ?_)
        rw [eg, gb_us, t2]
        unfold gb_r0
        by_cases q : j = 2
        · rw [q, pk_us, if_pos ⟨s0, rfl⟩]
        · rw [pk_un q, if_neg (fun z => q z.2)]
          exact hz j (by omega)
      · have s0 : ¬ s = 0 := fun q => d (gi_eq h1 (by rw [q]; decide))
        refine K f w hg (fun j hj => ?_)
        unfold gb_r0
        rw [if_neg (fun z => s0 z.1)]
        exact hz j (by omega)
    · have := gi_nle c
      refine hm_ck (fun _ _ => hm_lt (fun g eg => hm_lt (fun y ey => ?_)))
      refine ih g w y (i + 1) (by rw [ey]; exact gi_s1 e3 (by omega)) (by omega) (up g _ eg) (fun j hj => ?_)
      rw [eg, gb_us, gi_tn e3]
      by_cases q : j = i
      · rw [q, pk_us]
      · rw [pk_un q]
        exact hz j (by omega)
set_option maxHeartbeats 2000000 in
theorem mh_text {n : Nat} {Q : gb_F → Int64 → Int32 → Prop} {f : gb_F} {w : Int64} {p1 p2 : Int32} (hT : gb_TM f) (K : ∀ (s : Nat) (g : gb_F) (w : Int64), p1.toInt = s → s ≤ 3 → (p2 = -1 ∧ (f 1 s).toInt < 2 ∨ ¬ p2 = -1 ∧ 0 ≤ p2.toInt ∧ p2.toInt < (f 1 s).toInt) → gb_go s p2 f g → (∀ j, j < 97 → g 3 j = gb_r0 s j) → gb_hm (gb_bd (ms_advance n g w) (fun f w _ => ms_text_122 n n f w p1 p2)) Q) (K2 : ∀ (g : gb_F) (w : Int64), g 1 = gb_F1 (f 1) → g 2 = f 2 → ((p1.toInt < 0 ∨ 3 < p1.toInt) ∨ ∃ s : Nat, p1.toInt = s ∧ s ≤ 3 ∧ (p2 = -1 ∧ 2 ≤ (f 1 s).toInt ∨ ¬ p2 = -1 ∧ (p2.toInt < 0 ∨ (f 1 s).toInt ≤ p2.toInt))) → Q g w (-2)) : gb_hm (ms_text n f w p1 p2) Q := by
  unfold ms_text
  have t4 : Int32.toNatClampNeg 4 = 4 := by decide
  have t5 : Int32.toNatClampNeg 5 = 5 := by decide
  have t6 : Int32.toNatClampNeg 6 = 6 := by decide
  have c0 : (0 : Int32).toInt = 0 := by decide
  have c1 : (1 : Int32).toInt = 1 := by decide
  have c2 : (2 : Int32).toInt = 2 := by decide
  have c3 : (3 : Int32).toInt = 3 := by decide
  rw [t4, t5, t6]
  have i4 : gb_iv 0 600 (f 1 4) := gb_r1 (j := 4) hT (by decide)
  refine hm_lt (fun x ex => hm_lt (fun f2 e2 => hm_lt (fun f3 e3 => hm_lt (fun f4 e4 => hm_lt (fun f5 e5 => ?_)))))
  have T2 : gb_TM f2 := by
    rw [e2, ex]
    exact gb_TMf2 hT i4
  have T3 : gb_TM f3 := by
    rw [e3]
    exact gb_TMu1 T2 ⟨by decide, by decide⟩
  have T4 : gb_TM f4 := by
    rw [e4]
    exact gb_TM5 T3 ⟨by decide, by decide⟩
  have T5 : gb_TM f5 := by
    rw [e5]
    exact gb_TM6 T4 ⟨by decide, by decide⟩
  have q1 : f5 1 = gb_F1 (f 1) := by
    rw [e5, gb_us, e4, gb_us, e3, gb_us, e2, gb_un (by decide)]
    rfl
  have q2 : f5 2 = f 2 := by
    rw [e5, gb_un (by decide), e4, gb_un (by decide), e3, gb_un (by decide), e2, gb_un (by decide)]
  have q02 : f5 0 2 = f 1 4 := by
    rw [e5, gb_un (by decide), e4, gb_un (by decide), e3, gb_un (by decide), e2, gb_us, pk_us, ex]
  have qs : ∀ s : Nat, s ≤ 3 → f5 1 s = f 1 s := fun s hs => by
    rw [q1]
    unfold gb_F1
    rw [pk_un (by omega), pk_un (by omega), pk_un (by omega)]
  refine hm_bd mh_isIn (fun g w1 r h => ?_)
  obtain ⟨rfl, rfl, h⟩ := h
  refine hm_if (fun c => ?_) (fun c => ?_)
  · rcases h with h | h
    · rw [c] at h
      exact absurd h.1 (by decide)
    · exact hm_some (K2 _ _ q1 q2 (Or.inl (by omega)))
  · rcases h with h | h
    · obtain ⟨s, es, ts⟩ := gi_nn (x := p1) (by omega)
      have hs : s ≤ 3 := by omega
      have go : ∀ w2 : Int64, gb_E s p2 g → (p2 = -1 ∧ (f 1 s).toInt < 2 ∨ ¬ p2 = -1 ∧ 0 ≤ p2.toInt ∧ p2.toInt < (f 1 s).toInt) → gb_hm (gb_lt (gb_u g 0 (upd (g 0) 3 0)) (fun f_100 => gb_lt (gb_u f_100 0 (upd (f_100 0) 8 0)) (fun f_101 => gb_lt (gb_u f_101 0 (upd (f_101 0) 9 0)) (fun f_102 => ms_text_88 n n f_102 w2 p1 p2 0)))) Q := fun w2 hE hcc => by
        refine hm_lt (fun f6 e6 => hm_lt (fun f7 e7 => hm_lt (fun f8 e8 => ?_)))
        have T6 : gb_TM f6 := by
          rw [e6]
          exact gb_TMf3 T5 ⟨by decide, by decide⟩
        have T7 : gb_TM f7 := by
          rw [e7]
          exact gb_TMfj T6 rfl
        have T8 : gb_TM f8 := by
          rw [e8]
          exact gb_TMfj T7 rfl
        have u1 : f8 1 = g 1 := by
          rw [e8, gb_un (by decide), e7, gb_un (by decide), e6, gb_un (by decide)]
        have u2 : f8 2 = g 2 := by
          rw [e8, gb_un (by decide), e7, gb_un (by decide), e6, gb_un (by decide)]
        have u0 : f8 0 = upd (upd (upd (g 0) 3 0) 8 0) 9 0 := by
          rw [e8, gb_us, e7, gb_us, e6, gb_us]
        refine mh_text_88 es hs (fun g w hg hz => K s g w es hs hcc hg hz) n f8 w2 0 0 c0 (Nat.zero_le _) ⟨T8, ⟨fun q => by rw [u1]; exact hE.1 q, hE.2⟩, ?_, ?_, ?_, ?_, u1.trans q1, u2.trans q2⟩ (fun j hj => absurd hj (Nat.not_lt_zero _))
        · rw [u0, pk_un (by decide), pk_un (by decide), pk_un (by decide)]
          exact q02
        · rw [u0, pk_un (by decide), pk_un (by decide), pk_us]
        · rw [u0, pk_un (by decide), pk_us]
        · rw [u0, pk_us]
      refine hm_if (fun d => ?_) (fun d => ?_)
      · refine hm_ck (fun _ _ => hm_lt (fun y ey => ?_))
        rw [ts, qs s hs] at ey
        refine hm_if (fun e => ?_) (fun e => ?_)
        · have := gi_lt e
          rw [ey, c2] at this
          refine go _ ⟨fun _ => by rw [qs s hs]; omega, fun q => absurd d q⟩ (Or.inl ⟨d, this⟩)
        · have := gi_nlt e
          rw [ey, c2] at this
          exact hm_some (K2 _ _ q1 q2 (Or.inr ⟨s, es, hs, Or.inl ⟨d, this⟩⟩))
      · unfold ms_isOf
        refine hm_bd (P := fun g2 w2 r2 => g2 = g ∧ (r2 = 1 ∧ 0 ≤ p2.toInt ∧ p2.toInt < (f 1 s).toInt ∨ r2 = 0 ∧ (p2.toInt < 0 ∨ (f 1 s).toInt ≤ p2.toInt))) ?_ (fun g2 w2 r2 h2 => ?_)
        · refine hm_ck (fun _ _ => hm_lt (fun y ey => ?_))
          rw [ts, qs s hs] at ey
          have iy : gb_iv 0 2 y := by
            rw [ey]
            exact gb_r1 (j := s) hT (by
              have : s % 992 < 4 := by omega
              unfold gt_1
              rw [if_pos this]
              decide)
          have y1 : (y - 1).toInt = y.toInt - 1 := by
            have := iy.1
            have := iy.2
            rw [gb_tsub (by omega) (by omega), c1]
          refine hm_bd mh_isIn (fun g3 w3 r3 h3 => hm_cb (fun _ => hm_some ⟨h3.1, ?_⟩))
          have ht := h3.2.2
          rw [y1, c0, ey] at ht
          rcases ht with ht | ht
          · exact Or.inl ⟨ht.1, by omega, by omega⟩
          · exact Or.inr ⟨ht.1, by omega⟩
        · obtain ⟨rfl, h2⟩ := h2
          refine hm_if (fun c4 => ?_) (fun c4 => ?_)
          · rcases h2 with h2 | h2
            · rw [c4] at h2
              exact absurd h2.1 (by decide)
            · exact hm_some (K2 _ _ q1 q2 (Or.inr ⟨s, es, hs, Or.inr ⟨d, h2.2⟩⟩))
          · rcases h2 with h2 | h2
            · have i2 := (gb_r1 (f := f) (j := s) (lo := 0) (hi := 2) hT (by
                have : s % 992 < 4 := by omega
                unfold gt_1
                rw [if_pos this]
                decide)).2
              exact go _ ⟨fun q => absurd q d, fun _ => ⟨h2.2.1, by have := h2.2.2; omega⟩⟩ (Or.inr ⟨d, h2.2⟩)
            · exact absurd h2.1 c4
    · exact absurd h.1 c
theorem gb_goI {n : Nat} (hn : gb_N ≤ n) {s : Nat} {p2 : Int32} {f g : gb_F} {w : Int64} (hg : gb_go s p2 f g) (hz : ∀ j, j < 97 → g 3 j = gb_r0 s j) : gb_hm (ms_advance n g w) (fun f2 _ _ => gb_I s f2 ∧ gb_E s p2 f2 ∧ f2 1 = g 1 ∧ f2 3 = g 3 ∧ f2 0 8 = 0 ∧ f2 0 2 = g 0 2) := by
  refine hm_mono (hm_of (mt_advance hn hg.1)) (fun f2 _ _ hA => ?_)
  obtain ⟨⟨a1, a2, a3, a4, a5⟩, b1, b2, b3⟩ := hA
  obtain ⟨g1, g2, g3, g4, g5, g6, g7, g8⟩ := hg
  have q8 : f2 0 8 = 0 := a4.trans g5
  have hR : ∀ j, j < 97 → gb_iv (gt_R s j).1 (gt_R s j).2 (f2 3 j) := fun j hj => by
    rw [a3, hz j hj]
    unfold gb_r0
    split
    · rename_i q
      rw [q.1, q.2]
      exact ⟨by decide, by decide⟩
    · exact gt_R00
  refine ⟨⟨a1, ⟨hR 0 (by decide), fun q => ?_⟩, fun _ => hR, ⟨b2, b3⟩, fun q => absurd q8 q⟩, ⟨fun q => by rw [a2]; exact g2.1 q, g2.2⟩, a2, a3, q8, a5⟩
  have := hR 1 (by decide)
  rw [q] at this
  exact this
theorem mh_textz {n : Nat} (hn : gb_N ≤ n) {f : gb_F} {w : Int64} {p1 p2 : Int32} (hT : gb_TM f) : gb_hm (ms_text n f w p1 p2) (fun f2 _ _ => gb_zz (f 1) (f 2) f2) := by
  have zf : ∀ g : gb_F, g 1 = gb_F1 (f 1) → g 2 = f 2 → gb_zz (f 1) (f 2) g := fun g h1 h2 => by
    refine ⟨?_, fun j hj => ?_, h2⟩
    · rw [h1]
      unfold gb_F1
      rw [pk_un (by decide), pk_un (by decide), pk_us]
    · rw [h1]
      unfold gb_F1
      rw [pk_un (by omega), pk_un (by omega), pk_un (by omega)]
  refine mh_text hT (fun s g w2 h1 hs _ hg hz => ?_) (fun g w2 h1 h2 _ => zf g h1 h2)
  refine hm_bd (hm_and (gb_goI hn hg hz) (hm_pm (cm_advance gb_zz_sm (zf g hg.2.2.2.2.2.2.1 hg.2.2.2.2.2.2.2)))) (fun f2 w3 _ h => ?_)
  exact mh_text_122z hn h1 hs n f2 w3 h.1.1 h.1.2.1 h.2
/-! THE CLASS's text(), but the Reader, exactly -/
def gb_s1t (σ : gb_S) : gb_S := gb_su (gb_su (gb_su σ 1 (upd (σ.1 1) 6 0)) 1 (upd ((gb_su σ 1 (upd (σ.1 1) 6 0)).1 1) 7 0)) 1 (upd ((gb_su (gb_su σ 1 (upd (σ.1 1) 6 0)) 1 (upd ((gb_su σ 1 (upd (σ.1 1) 6 0)).1 1) 7 0)).1 1) 8 (-1))
theorem gb_s1t1 {σ : gb_S} : (gb_s1t σ).1 1 = upd (upd (upd (σ.1 1) 6 0) 7 0) 8 (-1) := by
  unfold gb_s1t
  rw [gb_sus, gb_sus, gb_sus]
theorem gb_s1tn {σ : gb_S} {k : Nat} (h : k ≠ 1) : (gb_s1t σ).1 k = σ.1 k := by
  unfold gb_s1t
  rw [gb_sun h, gb_sun h, gb_sun h]
/-- the fault of the reader is the text's -/
def gb_s2t (σ : gb_S) : gb_S := gb_su (gb_su σ 1 (upd (σ.1 1) 7 (σ.1 106 4))) 1 (upd ((gb_su σ 1 (upd (σ.1 1) 7 (σ.1 106 4))).1 1) 8 ((gb_su σ 1 (upd (σ.1 1) 7 (σ.1 106 4))).1 106 5))
theorem gb_s2t1 {σ : gb_S} : (gb_s2t σ).1 1 = upd (upd (σ.1 1) 7 (σ.1 106 4)) 8 (σ.1 106 5) := by
  unfold gb_s2t
  rw [gb_sus, gb_sus, gb_sun (by decide)]
theorem gb_s2tn {σ : gb_S} {k : Nat} (h : k ≠ 1) : (gb_s2t σ).1 k = σ.1 k := by
  unfold gb_s2t
  rw [gb_sun h, gb_sun h]
/-- the draft becomes the text, and there is one more -/
def gb_s3t (σ : gb_S) (s m : Nat) (more v4 : Int32) : gb_S := if more = 0 then gb_su σ (1 + gb_o s m) (va_cpy (σ.1 (97 + 2 * s)) (σ.1 (1 + gb_o s m)) 0 0 (gb_gz s)) else gb_su (gb_su σ (1 + gb_o s m) (va_cpy (σ.1 (97 + 2 * s)) (σ.1 (1 + gb_o s m)) 0 0 (gb_gz s))) 22 (upd ((gb_su σ (1 + gb_o s m) (va_cpy (σ.1 (97 + 2 * s)) (σ.1 (1 + gb_o s m)) 0 0 (gb_gz s))).1 22) s (v4 + 1))
theorem gb_s3tn {σ : gb_S} {s m k : Nat} {more v4 : Int32} (h : k ≠ 1 + gb_o s m) (h2 : k ≠ 22) : (gb_s3t σ s m more v4).1 k = σ.1 k := by
  unfold gb_s3t
  split
  · rw [gb_sun h]
  · rw [gb_sun h2, gb_sun h]
theorem ch_text_171 {n : Nat} {σ : gb_S} {v1 v4 v5 t0 : Int32} {s m : Nat} (e1 : v1.toInt = s) (hs : s < 4) (e0 : t0.toInt = m) : gb_hc (cs_Face_text_171 n σ v1 v4 v5 (96 + 2 * s) t0) (fun σ2 r => r = t0 ∧ m < 2 ∧ σ2 = gb_s3t σ s m v5 v4) := by
  unfold cs_Face_text_171
  refine hc_cd (ch_sheetOf e1 hs e0) (fun sA r hA => ?_)
  obtain ⟨rfl, er, hm2, hkd⟩ := hA
  have fin : ∀ (z : Nat) (s3 : gb_S), z = gb_gz s → s3 = gb_su sA (r + 1) (va_cpy (sA.1 (96 + 2 * s + 1)) (sA.1 (r + 1)) 0 0 z) → gb_hc (if v5 = 0 then some (s3, t0) else gb_ck v1 4 (gb_lt (gb_su s3 22 (upd (s3.1 22) (Int32.toNatClampNeg v1) (v4 + 1))) (fun s_36 => some (s_36, t0)))) (fun σ2 r => r = t0 ∧ m < 2 ∧ σ2 = gb_s3t sA s m v5 v4) := by
    intro z s3 ez e3
    have en : 96 + 2 * s + 1 = 97 + 2 * s := by omega
    rw [ez, er, en] at e3
    refine hc_if (fun c => hc_some ⟨rfl, hm2, ?_⟩) (fun c => hc_ck (fun _ _ => hc_lt (fun s4 e4 => hc_some ⟨rfl, hm2, ?_⟩)))
    · unfold gb_s3t
      rw [if_pos c, e3]
    · unfold gb_s3t
      rw [if_neg c, e4, e3, gi_tn e1]
  refine hc_if (fun _ => hc_none) (fun _ => ?_)
  refine hc_if (fun b => hc_kk (fun _ => ?_)) (fun nb => hc_if (fun b => hc_kk (fun _ => ?_)) (fun nn => hc_if (fun b => hc_kk (fun _ => ?_)) (fun nl => hc_if (fun b => hc_kk (fun _ => ?_)) (fun nd => hc_none))))
  · have hs0 : s = 0 := by
      rcases hkd with q | q | q | q
      · exact q.1
      · exact absurd b (gc_BN q.2)
      · exact absurd b (gc_BL q.2).1
      · exact absurd b (gc_BD q.2).1
    refine hc_cd ch_cpB (fun s3 _ h3 => fin 58 s3 ?_ h3)
    rw [hs0]
    rfl
  · have hs0 : s = 1 := by
      rcases hkd with q | q | q | q
      · exact absurd q.2 nb
      · exact q.1
      · exact absurd b (gc_BL q.2).2
      · exact absurd b (gc_BD q.2).2.1
    refine hc_cd ch_cpN (fun s3 _ h3 => fin 97 s3 ?_ h3)
    rw [hs0]
    rfl
  · have hs0 : s = 2 := by
      rcases hkd with q | q | q | q
      · exact absurd q.2 nb
      · exact absurd q.2 nn
      · exact q.1
      · exact absurd b (gc_BD q.2).2.2
    refine hc_cd ch_cpL (fun s3 _ h3 => fin 25 s3 ?_ h3)
    rw [hs0]
    rfl
  · have hs0 : s = 3 := by
      rcases hkd with q | q | q | q
      · exact absurd q.2 nb
      · exact absurd q.2 nn
      · exact absurd q.2 nl
      · exact q.1
    refine hc_cd ch_cpD (fun s3 _ h3 => fin 16 s3 ?_ h3)
    rw [hs0]
    rfl
theorem gb_dr {v : Int32} {s : Nat} (e : v.toInt = s) (hs : s < 4) : ([96, 98, 100, 102] : List Nat).getD (Int32.toNatClampNeg v) 0 = 96 + 2 * s := by
  rw [gi_tn e]
  have : s = 0 ∨ s = 1 ∨ s = 2 ∨ s = 3 := by omega
  rcases this with rfl | rfl | rfl | rfl <;> rfl
/-- the end of text(): by the state of the class behind the Reader -/
def gb_ctd (s : Nat) (p2 v4 more : Int32) (σ σ2 : gb_S) (r : Int32) : Prop := (¬ σ.1 106 4 = 0 ∧ r = -1 ∧ σ2 = gb_s2t σ) ∨ (σ.1 106 4 = 0 ∧ ∃ m : Nat, r = (if more = 0 then p2 else v4) ∧ r.toInt = m ∧ m < 2 ∧ σ2 = gb_s3t (gb_s2t σ) s m more v4)
theorem ch_text_94 {n : Nat} {σ : gb_S} {v1 v2 v3 v4 v5 : Int32} {s : Nat} {Q : gb_S → Int32 → Prop} (e1 : v1.toInt = s) (hs : s < 4) (h2 : v5 = 0 → 0 ≤ v2.toInt) (h4 : ¬ v5 = 0 → 0 ≤ v4.toInt) (K : gb_hc (cs_Reader_read_c23_S n σ v3 v1 (96 + 2 * s)) (fun s2 _ => ∀ (s3 : gb_S) (r : Int32), gb_ctd s v2 v4 v5 s2 s3 r → Q s3 r)) : gb_hc (cs_Face_text_94 n σ v1 v2 v3 v4 v5) Q := by
  unfold cs_Face_text_94
  refine hc_ck (fun _ _ => hc_lt (fun a ea => ?_))
  rw [gb_dr e1 hs] at ea
  subst ea
  refine hc_cd K (fun s2 _ hK => hc_lt (fun sA eA => hc_lt (fun sB eB => ?_)))
  have eB' : sB = gb_s2t s2 := by
    rw [eB, eA]
    rfl
  have e7 : sB.1 1 7 = s2.1 106 4 := by
    rw [eB', gb_s2t1, pk_un (by decide), pk_us]
  refine hc_if (fun c => hc_if (fun d => ?_) (fun d => ?_)) (fun c => ?_)
  · obtain ⟨m, em, -⟩ := gi_nn (h2 d)
    refine hc_mono (ch_text_171 e1 hs em) (fun s3 r h3 => hK s3 r (Or.inr ⟨e7.symm.trans c, m, ?_, ?_, h3.2.1, ?_⟩))
    · rw [if_pos d]
      exact h3.1
    · rw [h3.1]
      exact em
    · rw [h3.2.2, eB']
  · obtain ⟨m, em, -⟩ := gi_nn (h4 d)
    refine hc_mono (ch_text_171 e1 hs em) (fun s3 r h3 => hK s3 r (Or.inr ⟨e7.symm.trans c, m, ?_, ?_, h3.2.1, ?_⟩))
    · rw [if_neg d]
      exact h3.1
    · rw [h3.1]
      exact em
    · rw [h3.2.2, eB']
  · exact hc_some (hK _ _ (Or.inl ⟨fun q => c (e7.trans q), rfl, eB'⟩))
set_option maxHeartbeats 2000000 in
theorem ch_text {n : Nat} {Q : gb_S → Int32 → Prop} {σ : gb_S} {p1 p2 : Int32} (hT : gb_TC σ) (K : ∀ (s : Nat), p1.toInt = s → s ≤ 3 → (p2 = -1 ∧ (σ.1 22 s).toInt < 2 ∨ ¬ p2 = -1 ∧ 0 ≤ p2.toInt ∧ p2.toInt < (σ.1 22 s).toInt) → gb_hc (cs_Reader_read_c23_S n (gb_s1t σ) (σ.1 1 6) p1 (96 + 2 * s)) (fun s2 _ => ∀ (s3 : gb_S) (r : Int32), gb_ctd s p2 (σ.1 22 s) (if p2 = -1 then 1 else 0) s2 s3 r → Q s3 r)) (K2 : ((p1.toInt < 0 ∨ 3 < p1.toInt) ∨ ∃ s : Nat, p1.toInt = s ∧ s ≤ 3 ∧ (p2 = -1 ∧ 2 ≤ (σ.1 22 s).toInt ∨ ¬ p2 = -1 ∧ (p2.toInt < 0 ∨ (σ.1 22 s).toInt ≤ p2.toInt))) → Q (gb_s1t σ) (-2)) : gb_hc (cs_Face_text n σ p1 p2) Q := by
  unfold cs_Face_text
  have c0 : (0 : Int32).toInt = 0 := by decide
  have c2 : (2 : Int32).toInt = 2 := by decide
  have c4 : (4 : Int32).toInt = 4 := by decide
  refine hc_lt (fun x ex => hc_lt (fun sA eA => hc_lt (fun sB eB => hc_lt (fun sC eC => ?_))))
  have eC' : sC = gb_s1t σ := by
    rw [eC, eB, eA]
    rfl
  subst eC'
  refine hc_if (fun c => hc_some (K2 (Or.inl (Or.inl (by have := gi_lt c; omega))))) (fun c => hc_if (fun d => ?_) (fun d => hc_some (K2 (Or.inl (Or.inr (by have := gi_nlt d; omega))))))
  have a1 := gi_nlt c
  have a2 := gi_lt d
  obtain ⟨s, es, ts⟩ := gi_nn (x := p1) (by omega)
  have hs : s ≤ 3 := by omega
  refine hc_ck (fun _ _ => hc_lt (fun y ey => ?_))
  rw [ts, gb_s1tn (by decide)] at ey
  subst ey
  subst ex
  have i22 : gb_iv 0 2 (σ.1 22 s) := gc_rd (c := 5) hT rfl ⟨Int.le_refl 0, Int.le_refl 2⟩
  refine hc_if (fun e => ?_) (fun e => ?_)
  · unfold cs_Face_text_65
    rw [if_neg (by decide : ¬ (1 : Int32) = 0)]
    refine hc_if (fun g => ?_) (fun g => hc_some (K2 (Or.inr ⟨s, es, hs, Or.inl ⟨e, by have := gi_nlt g; omega⟩⟩)))
    have g1 := gi_lt g
    refine ch_text_94 es (by omega) (fun q => absurd q (by decide)) (fun _ => i22.1) ?_
    refine hc_mono (K s es hs (Or.inl ⟨e, by omega⟩)) (fun s2 _ h s3 r h3 => h s3 r ?_)
    rw [if_pos e]
    exact h3
  · unfold cs_Face_text_65
    rw [if_pos rfl]
    refine hc_if (fun g => hc_some (K2 (Or.inr ⟨s, es, hs, Or.inr ⟨e, Or.inl (by have := gi_lt g; omega)⟩⟩))) (fun g => hc_if (fun u => ?_) (fun u => hc_some (K2 (Or.inr ⟨s, es, hs, Or.inr ⟨e, Or.inr (gi_nlt u)⟩⟩))))
    have g1 := gi_nlt g
    have u1 := gi_lt u
    refine ch_text_94 es (by omega) (fun _ => by omega) (fun q => absurd rfl q) ?_
    refine hc_mono (K s es hs (Or.inr ⟨e, by omega, u1⟩)) (fun s2 _ h s3 r h3 => h s3 r ?_)
    rw [if_neg e]
    exact h3
/-! text() leaves the tape empty, images and what is kept as they were -/
def gb_Wq (k : Nat) : Prop := k = 0 ∨ 95 ≤ k
theorem gb_Wq_sc : gb_sc gb_Wq := ⟨Or.inl rfl, fun k h => Or.inr h⟩
theorem ch_textz {n : Nat} {σ : gb_S} {p1 p2 : Int32} (hT : gb_TC σ) : gb_hc (cs_Face_text n σ p1 p2) (fun s2 _ => s2.1 1 6 = 0 ∧ ∀ k, 24 ≤ k → k ≤ 94 → s2.1 k = σ.1 k) := by
  have z1 : (gb_s1t σ).1 1 6 = 0 := by
    rw [gb_s1t1, pk_un (by decide), pk_un (by decide), pk_us]
  refine ch_text hT (fun s es hs _ => ?_) (fun _ => ⟨z1, fun k h1 h2 => gb_s1tn (by omega)⟩)
  refine hc_mono (hc_pf (cf_Reader_read_c23_S (W := gb_Wq) gb_Wq_sc (Or.inr (by omega)) fs_rf)) (fun s2 _ hW s3 r h3 => ?_)
  have w1 : s2.1 1 = (gb_s1t σ).1 1 := hW 1 (by unfold gb_Wq; omega)
  have w2 : ∀ k, 24 ≤ k → k ≤ 94 → s2.1 k = σ.1 k := fun k h1 h2 => (hW k (by unfold gb_Wq; omega)).trans (gb_s1tn (by omega))
  have y1 : (gb_s2t s2).1 1 6 = 0 := by
    rw [gb_s2t1, pk_un (by decide), pk_un (by decide), w1]
    exact z1
  have y2 : ∀ k, 24 ≤ k → k ≤ 94 → (gb_s2t s2).1 k = σ.1 k := fun k h1 h2 => (gb_s2tn (by omega)).trans (w2 k h1 h2)
  rcases h3 with h3 | h3
  · rw [h3.2.2]
    exact ⟨y1, y2⟩
  · obtain ⟨-, m, -, -, hm, h5⟩ := h3
    rw [h5]
    have o1 : 1 + gb_o s m ≠ 1 := by unfold gb_o; omega
    have o2 : 1 + gb_o s m < 24 := by unfold gb_o; omega
    refine ⟨?_, fun k h1 h2 => ?_⟩
    · rw [gb_s3tn (by omega) (by omega)]
      exact y1
    · rw [gb_s3tn (by omega) (by omega)]
      exact y2 k h1 h2
/-! feed and end of both sides, exactly -/
def gb_am (j : Nat) : Int32 := if j = 0 then 24 else if j = 1 then 16 else if j = 2 then 8 else 0
def gb_cb1 (x : Int32) (j : Nat) : Int32 := vp_nar .byte ((x >>> (gb_am j &&& 31)).toInt8.toInt32)
def gb_rb1 (x : Int32) (j : Nat) : Int32 := (x >>> (gb_am j &&& 31)) &&& 255
theorem gb_amE {v : Int32} {j : Nat} (h : v.toInt = 24 - 8 * (j : Int)) (hj : j < 4) : v = gb_am j := by
  have c : j = 0 ∨ j = 1 ∨ j = 2 ∨ j = 3 := by omega
  rcases c with rfl | rfl | rfl | rfl
  · exact gi_eq h (by decide)
  · exact gi_eq h (by decide)
  · exact gi_eq h (by decide)
  · exact gi_eq h (by decide)
def gb_ad (σ0 : gb_S) (x : Int32) (L j : Nat) (σ : gb_S) : Prop := σ.1 1 = upd (σ0.1 1) 6 (σ.1 1 6) ∧ (σ.1 1 6).toInt = ((L + j : Nat) : Int) ∧ (∀ k, k ≠ 1 → k ≠ 23 → σ.1 k = σ0.1 k) ∧ ∀ i, σ.1 23 i = if L ≤ i ∧ i < L + j then gb_cb1 x (i - L) else σ0.1 23 i
theorem ch_add14 {n : Nat} {σ0 : gb_S} {x : Int32} {L : Nat} (hL : L ≤ 596) : ∀ (mm : Nat) (σ : gb_S) (v2 : Int32) (j : Nat), v2.toInt = 24 - 8 * (j : Int) → j ≤ 4 → gb_ad σ0 x L j σ → gb_hc (cs_Told_addBytes_14 n mm σ x v2) (fun s _ => gb_ad σ0 x L 4 s) := by
  intro mm
  induction mm with
  | zero =>
    intros
    exact hc_none
  | succ mm ih =>
    intro σ v2 j e2 hj hA
    unfold cs_Told_addBytes_14
    have c0 : (0 : Int32).toInt = 0 := by decide
    have c8 : (-8 : Int32).toInt = -8 := by decide
    refine hc_if (fun c => ?_) (fun c => ?_)
    · have := gi_lt c
      have hj4 : j = 4 := by omega
      rw [hj4] at hA
      exact hc_some hA
    · have := gi_nlt c
      have hj4 : j < 4 := by omega
      obtain ⟨a1, a2, a3, a4⟩ := hA
      refine hc_ck (fun _ _ => hc_lt (fun sA eA => hc_lt (fun sB eB => hc_lt (fun y ey => ?_))))
      have tn := gi_tn a2
      have sA1 : sA.1 1 = σ.1 1 := by
        rw [eA]
        exact gb_sun (by decide)
      have sB6 : sB.1 1 6 = σ.1 1 6 + 1 := by
        rw [eB, gb_sus, pk_us, sA1]
      have ll : (σ.1 1 6 + 1).toInt = ((L + (j + 1) : Nat) : Int) := by
        have := gi_s1 a2 (by omega)
        omega
      refine ih sB y (j + 1) ?_ (by omega) ⟨?_, ?_, fun k k1 k2 => ?_, fun i => ?_⟩
      · rw [ey, gb_tadd (by omega) (by omega), c8]
        omega
      · rw [sB6, eB, gb_sus, sA1, a1]
        funext i
        by_cases q : i = 6
        · rw [q, pk_us, pk_us, pk_us]
        · rw [pk_un q, pk_un q, pk_un q]
      · rw [sB6]
        exact ll
      · rw [eB, gb_sun k1, eA, gb_sun k2]
        exact a3 k k1 k2
      · rw [eB, gb_sun (by decide), eA, gb_sus, tn]
        by_cases q : i = L + j
        · rw [q, pk_us, if_pos (by omega), Nat.add_sub_cancel_left]
          unfold gb_cb1
          rw [gb_amE e2 hj4]
        · rw [pk_un q, a4 i]
          by_cases r : L ≤ i ∧ i < L + j
          · rw [if_pos r, if_pos (by omega)]
          · rw [if_neg r, if_neg (by omega)]
theorem ch_add {n : Nat} {σ : gb_S} {x : Int32} {L : Nat} (e : (σ.1 1 6).toInt = L) (hL : L ≤ 596) : gb_hc (cs_Told_addBytes n σ x) (fun s _ => gb_ad σ x L 4 s) := by
  unfold cs_Told_addBytes
  have c : (596 : Int32).toInt = 596 := by decide
  have d : (24 : Int32).toInt = 24 - 8 * ((0 : Nat) : Int) := by decide
  refine hc_if (fun _ => ch_add14 hL n σ 24 0 d (by omega) ⟨?_, e, fun _ _ _ => rfl, fun i => (if_neg (by omega)).symm⟩) (fun q => ?_)
  · funext i
    by_cases q : i = 6
    · rw [q, pk_us]
    · rw [pk_un q]
  · have := gi_nle q
    omega
/-- so many whole words behind the tape -/
def gb_fd (σ0 : gb_S) (W : Nat → Int32) (L m : Nat) (σ : gb_S) : Prop := σ.1 1 = upd (σ0.1 1) 6 (σ.1 1 6) ∧ (σ.1 1 6).toInt = ((L + 4 * m : Nat) : Int) ∧ (∀ k, k ≠ 1 → k ≠ 23 → σ.1 k = σ0.1 k) ∧ ∀ i, σ.1 23 i = if L ≤ i ∧ i < L + 4 * m then gb_cb1 (W ((i - L) / 4)) ((i - L) % 4) else σ0.1 23 i
theorem gb_fd1 {σ0 σ σ2 : gb_S} {W : Nat → Int32} {L m : Nat} (h : gb_fd σ0 W L m σ) (g : gb_ad σ (W m) (L + 4 * m) 4 σ2) : gb_fd σ0 W L (m + 1) σ2 := by
  obtain ⟨h1, h2, h3, h4⟩ := h
  obtain ⟨g1, g2, g3, g4⟩ := g
  refine ⟨?_, ?_, fun k a b => (g3 k a b).trans (h3 k a b), fun i => ?_⟩
  · funext i
    by_cases q : i = 6
    · rw [q, pk_us]
    · rw [g1, pk_un q, pk_un q, h1, pk_un q]
  · omega
  · rw [g4 i]
    by_cases q : L + 4 * m ≤ i ∧ i < L + 4 * m + 4
    · have q1 : (i - L) / 4 = m := by omega
      have q2 : (i - L) % 4 = i - (L + 4 * m) := by omega
      rw [if_pos q, if_pos (by omega), q1, q2]
    · rw [if_neg q, h4 i]
      by_cases r : L ≤ i ∧ i < L + 4 * m
      · rw [if_pos r, if_pos (by omega)]
      · rw [if_neg r, if_neg (by omega)]
def gb_w5 (p1 p2 p3 p4 p5 : Int32) (m : Nat) : Int32 := if m = 0 then p1 else if m = 1 then p2 else if m = 2 then p3 else if m = 3 then p4 else p5
theorem ch_feed {n : Nat} {σ : gb_S} {p1 p2 p3 p4 p5 : Int32} {L : Nat} (e : (σ.1 1 6).toInt = L) : gb_hc (cs_Face_feed n σ p1 p2 p3 p4 p5) (fun s r => (580 < L ∧ r = -1 ∧ s = σ) ∨ (L ≤ 580 ∧ r = s.1 1 6 ∧ gb_fd σ (gb_w5 p1 p2 p3 p4 p5) L 5 s)) := by
  unfold cs_Face_feed
  have c : (580 : Int32).toInt = 580 := by decide
  refine hc_if (fun q => ?_) (fun q => hc_some (Or.inl ⟨by have := gi_nle q; omega, rfl, rfl⟩))
  have hL := gi_le q
  have h0 : gb_fd σ (gb_w5 p1 p2 p3 p4 p5) L 0 σ := by
    refine ⟨?_, e, fun _ _ _ => rfl, fun i => (if_neg (by omega)).symm⟩
    funext i
    by_cases q : i = 6
    · rw [q, pk_us]
    · rw [pk_un q]
  refine hc_cd (ch_add h0.2.1 (by omega)) (fun s1 _ g1 => ?_)
  have h1 := gb_fd1 h0 g1
  refine hc_cd (ch_add h1.2.1 (by omega)) (fun s2 _ g2 => ?_)
  have h2 := gb_fd1 h1 g2
  refine hc_cd (ch_add h2.2.1 (by omega)) (fun s3 _ g3 => ?_)
  have h3 := gb_fd1 h2 g3
  refine hc_cd (ch_add h3.2.1 (by omega)) (fun s4 _ g4 => ?_)
  have h4 := gb_fd1 h3 g4
  refine hc_cd (ch_add h4.2.1 (by omega)) (fun s5 _ g5 => ?_)
  have h5 := gb_fd1 h4 g5
  exact hc_some (Or.inr ⟨by omega, rfl, h5⟩)
def gb_rd (f0 : gb_F) (W : Nat → Int32) (L t : Nat) (f : gb_F) : Prop := (f 1 4).toInt = ((L + t : Nat) : Int) ∧ (∀ i, i ≠ 4 → f 1 i = if 10 + L ≤ i ∧ i < 10 + L + t then gb_rb1 (W ((i - 10 - L) / 4)) ((i - 10 - L) % 4) else f0 1 i) ∧ ∀ q, q ≠ 1 → f q = f0 q
set_option maxHeartbeats 2000000 in
theorem mh_feed_20 {n : Nat} {f0 : gb_F} {p1 p2 p3 p4 p5 : Int32} {L : Nat} (hL : L ≤ 580) : ∀ (mm : Nat) (f : gb_F) (w : Int64) (v6 : Int32) (t : Nat), v6.toInt = t → t ≤ 20 → gb_rd f0 (gb_w5 p1 p2 p3 p4 p5) L t f → gb_hm (ms_feed_20 n mm f w p1 p2 p3 p4 p5 v6) (fun f2 _ r => r = f2 1 4 ∧ gb_rd f0 (gb_w5 p1 p2 p3 p4 p5) L 20 f2) := by
  intro mm
  induction mm with
  | zero =>
    intros
    exact hm_none
  | succ mm ih =>
    intro f w v6 t e6 ht hR
    rw [ms_feed_20]
    have c1 : (1 : Int32).toInt = 1 := by decide
    have c4 : (4 : Int32).toInt = 4 := by decide
    have c8 : (8 : Int32).toInt = 8 := by decide
    have c10 : (10 : Int32).toInt = 10 := by decide
    have c12 : (12 : Int32).toInt = 12 := by decide
    have c16 : (16 : Int32).toInt = 16 := by decide
    have c20 : (20 : Int32).toInt = 20 := by decide
    have c24 : (24 : Int32).toInt = 24 := by decide
    have t4 : Int32.toNatClampNeg 4 = 4 := by decide
    refine hm_if (fun c => ?_) (fun c => ?_)
    · have := gi_le c
      have h20 : t = 20 := by omega
      rw [h20] at hR
      rw [t4]
      exact hm_lt (fun x ex => hm_some ⟨ex, hR⟩)
    · have ht2 := gi_nle c
      have key : ∀ t0 : Int32, t0 = gb_w5 p1 p2 p3 p4 p5 (t / 4) → gb_hm (ms_feed_73 n (fun f w v1 v2 v3 v4 v5 v6 => ms_feed_20 n mm f w v1 v2 v3 v4 v5 v6) f w p1 p2 p3 p4 p5 v6 t0) (fun f2 _ r => r = f2 1 4 ∧ gb_rd f0 (gb_w5 p1 p2 p3 p4 p5) L 20 f2) := by
        intro t0 et
        obtain ⟨r1, r2, r3⟩ := hR
        unfold ms_feed_73
        rw [t4]
        refine hm_lt (fun x ex => hm_lt (fun y ey => hm_ck (fun _ _ => hm_lt (fun f2 e2 => hm_lt (fun z ez => hm_lt (fun f3 e3 => hm_lt (fun u eu => ?_)))))))
        have iv6 : gb_iv 0 19 v6 := ⟨by omega, by omega⟩
        have ydiv : (v6 / 4).toInt = ((t / 4 : Nat) : Int) := by
          rw [gb_tdiv iv6 (gb_ic c4) (by decide), c4, e6, Int.tdiv_eq_ediv_of_nonneg (by omega)]
          omega
        have ymul : (v6 / 4 * 4).toInt = ((t / 4 * 4 : Nat) : Int) := by
          rw [gb_tmul (by rw [ydiv, c4]; omega) (by rw [ydiv, c4]; omega), ydiv, c4]
          omega
        have yv : y.toInt = ((t % 4 : Nat) : Int) := by
          rw [ey, gb_tsub (by omega) (by omega), e6, ymul]
          omega
        have y8 : (8 * y).toInt = 8 * ((t % 4 : Nat) : Int) := by
          rw [gb_tmul (by rw [c8]; omega) (by rw [c8]; omega), c8, yv]
        have yam : (24 - 8 * y).toInt = 24 - 8 * ((t % 4 : Nat) : Int) := by
          rw [gb_tsub (by omega) (by omega), y8, c24]
        have am := gb_amE yam (by omega)
        have xp : (10 + x).toInt = ((10 + (L + t) : Nat) : Int) := by
          rw [gb_tadd (by rw [ex]; omega) (by rw [ex]; omega), ex, c10, r1]
          omega
        have xt := gi_tn xp
        have f24 : f2 1 4 = f 1 4 := by
          rw [e2, gb_us, xt, pk_un (by omega)]
        refine ih f3 w u (t + 1) (by rw [eu]; exact gi_s1 e6 (by omega)) (by omega) ⟨?_, fun i hi => ?_, fun q hq => ?_⟩
        · rw [e3, gb_us, pk_us, ez, f24]
          have := gi_s1 r1 (by omega)
          omega
        · rw [e3, gb_us, pk_un hi, e2, gb_us, xt]
          by_cases q : i = 10 + (L + t)
          · have q1 : (i - 10 - L) = t := by omega
            rw [q1, q, pk_us, if_pos (by omega), am, et]
            rfl
          · rw [pk_un q, r2 i hi]
            by_cases r : 10 + L ≤ i ∧ i < 10 + L + t
            · rw [if_pos r, if_pos (by omega)]
            · rw [if_neg r, if_neg (by omega)]
        · rw [e3, gb_un hq, e2, gb_un hq]
          exact r3 q hq
      refine hm_if (fun d1 => hm_if (fun d2 => hm_if (fun d3 => hm_if (fun d4 => key _ ?_) (fun d4 => key _ ?_)) (fun d3 => key _ ?_)) (fun d2 => key _ ?_)) (fun d1 => key _ ?_)
      · have := gi_le d4
        unfold gb_w5
        rw [if_neg (by omega), if_neg (by omega), if_neg (by omega), if_neg (by omega)]
      · have := gi_le d3
        have := gi_nle d4
        unfold gb_w5
        rw [if_neg (by omega), if_neg (by omega), if_neg (by omega), if_pos (by omega)]
      · have := gi_le d2
        have := gi_nle d3
        unfold gb_w5
        rw [if_neg (by omega), if_neg (by omega), if_pos (by omega)]
      · have := gi_le d1
        have := gi_nle d2
        unfold gb_w5
        rw [if_neg (by omega), if_pos (by omega)]
      · have := gi_nle d1
        unfold gb_w5
        rw [if_pos (by omega)]
theorem mh_feed {n : Nat} {f : gb_F} {w : Int64} {p1 p2 p3 p4 p5 : Int32} {L : Nat} (e : (f 1 4).toInt = L) (hL : L ≤ 600) : gb_hm (ms_feed n f w p1 p2 p3 p4 p5) (fun f2 _ r => (580 < L ∧ r = -1 ∧ f2 = f) ∨ (L ≤ 580 ∧ r = f2 1 4 ∧ gb_rd f (gb_w5 p1 p2 p3 p4 p5) L 20 f2)) := by
  unfold ms_feed
  have t4 : Int32.toNatClampNeg 4 = 4 := by decide
  have c20 : (20 : Int32).toInt = 20 := by decide
  have c600 : (600 : Int32).toInt = 600 := by decide
  have z : (0 : Int32).toInt = ((0 : Nat) : Int) := by decide
  rw [t4]
  refine hm_lt (fun x ex => ?_)
  have hx : (x + 20).toInt = ((L + 20 : Nat) : Int) := by
    rw [gb_tadd (by rw [ex]; omega) (by rw [ex]; omega), ex, c20, e]
    omega
  refine hm_if (fun c => ?_) (fun c => hm_some (Or.inl ⟨by have := gi_nle c; omega, rfl, rfl⟩))
  have := gi_le c
  refine hm_mono (mh_feed_20 (f0 := f) (L := L) (by omega) n f w 0 0 z (by omega) ⟨e, fun i _ => (if_neg (by omega)).symm, fun _ _ => rfl⟩) (fun f2 _ r h => Or.inr ⟨by omega, h.1, h.2⟩)
theorem ch_end {n : Nat} {σ : gb_S} {p1 : Int32} : gb_hc (cs_Face_end n σ p1) (fun s r => ((p1.toInt < 0 ∨ (σ.1 1 6).toInt < p1.toInt) ∧ r = -1 ∧ s = σ) ∨ (0 ≤ p1.toInt ∧ p1.toInt ≤ (σ.1 1 6).toInt ∧ r = p1 ∧ s = gb_su σ 1 (upd (σ.1 1) 6 p1))) := by
  unfold cs_Face_end
  have c0 : (0 : Int32).toInt = 0 := by decide
  refine hc_if (fun c => hc_some (Or.inl ⟨Or.inl (by have := gi_lt c; omega), rfl, rfl⟩)) (fun c => hc_if (fun d => hc_lt (fun s e => hc_some (Or.inr ⟨?_, gi_le d, rfl, e⟩))) (fun d => hc_some (Or.inl ⟨Or.inr (gi_nle d), rfl, rfl⟩)))
  have := gi_nlt c
  omega
theorem mh_end {n : Nat} {f : gb_F} {w : Int64} {p1 : Int32} : gb_hm (ms_end n f w p1) (fun f2 _ r => ((p1.toInt < 0 ∨ (f 1 4).toInt < p1.toInt) ∧ r = -1 ∧ f2 = f) ∨ (0 ≤ p1.toInt ∧ p1.toInt ≤ (f 1 4).toInt ∧ r = p1 ∧ f2 = gb_u f 1 (upd (f 1) 4 p1))) := by
  unfold ms_end
  have c0 : (0 : Int32).toInt = 0 := by decide
  have t4 : Int32.toNatClampNeg 4 = 4 := by decide
  rw [t4]
  refine hm_if (fun c => hm_some (Or.inl ⟨Or.inl (by have := gi_lt c; omega), rfl, rfl⟩)) (fun c => hm_lt (fun x ex => ?_))
  subst ex
  refine hm_if (fun d => hm_lt (fun s e => hm_some (Or.inr ⟨?_, gi_le d, rfl, e⟩))) (fun d => hm_some (Or.inl ⟨Or.inr (gi_nle d), rfl, rfl⟩))
  have := gi_nlt c
  omega
/-! each call of both sides at once -/
theorem gb_NN0 : gb_N ≤ gb_N := Nat.le_refl _
theorem qs_feed (a1 a2 a3 a4 a5 : Int32) {σ : gb_S} {f : gb_F} (w : Int64) (hC : gb_TC σ) (hM : gb_TM f) : ∃ (σ2 : gb_S) (ra : Int32) (f2 : gb_F) (w2 : Int64) (qa : Int32), cs_Face_feed gb_N σ a1 a2 a3 a4 a5 = some (σ2, ra) ∧ ms_feed gb_N f w a1 a2 a3 a4 a5 = some (f2, w2, qa) ∧ gb_TC σ2 ∧ gb_TM f2 := by
  obtain ⟨σ2, ra, ec, hc⟩ := ct_Face_feed gb_NN0 (σ := σ) (p1 := a1) (p2 := a2) (p3 := a3) (p4 := a4) (p5 := a5) hC
  obtain ⟨f2, w2, qa, em, hm⟩ := mt_feed gb_NN0 (f := f) (w := w) (p1 := a1) (p2 := a2) (p3 := a3) (p4 := a4) (p5 := a5) hM
  exact ⟨σ2, ra, f2, w2, qa, ec, em, hc.1, hm⟩
theorem qs_end (a1 : Int32) {σ : gb_S} {f : gb_F} (w : Int64) (hC : gb_TC σ) (hM : gb_TM f) : ∃ (σ2 : gb_S) (ra : Int32) (f2 : gb_F) (w2 : Int64) (qa : Int32), cs_Face_end gb_N σ a1 = some (σ2, ra) ∧ ms_end gb_N f w a1 = some (f2, w2, qa) ∧ gb_TC σ2 ∧ gb_TM f2 := by
  obtain ⟨σ2, ra, ec, hc⟩ := ct_Face_end gb_NN0 (σ := σ) (p1 := a1) hC
  obtain ⟨f2, w2, qa, em, hm⟩ := mt_end (f := f) (w := w) (p1 := a1) hM
  exact ⟨σ2, ra, f2, w2, qa, ec, em, hc.1, hm⟩
theorem qs_text (a1 a2 : Int32) {σ : gb_S} {f : gb_F} (w : Int64) (hC : gb_TC σ) (hM : gb_TM f) : ∃ (σ2 : gb_S) (ra : Int32) (f2 : gb_F) (w2 : Int64) (qa : Int32), cs_Face_text gb_N σ a1 a2 = some (σ2, ra) ∧ ms_text gb_N f w a1 a2 = some (f2, w2, qa) ∧ gb_TC σ2 ∧ gb_TM f2 := by
  obtain ⟨σ2, ra, ec, hc⟩ := ct_Face_text gb_NN0 (σ := σ) (p1 := a1) (p2 := a2) hC
  obtain ⟨f2, w2, qa, em, hm⟩ := mt_text gb_NN0 (f := f) (w := w) (p1 := a1) (p2 := a2) hM
  exact ⟨σ2, ra, f2, w2, qa, ec, em, hc, hm⟩
theorem qs_fault (a1 : Int32) {σ : gb_S} {f : gb_F} (w : Int64) (hC : gb_TC σ) (hM : gb_TM f) : ∃ (σ2 : gb_S) (ra : Int32) (f2 : gb_F) (w2 : Int64) (qa : Int32), cs_Face_fault gb_N σ a1 = some (σ2, ra) ∧ ms_fault gb_N f w a1 = some (f2, w2, qa) ∧ gb_TC σ2 ∧ gb_TM f2 ∧ gb_fs gb_Wq σ σ2 ∧ gb_k12 (f 1) (f 2) f2 := by
  obtain ⟨σ2, ra, ec, hc⟩ := ct_Face_fault gb_NN0 (σ := σ) (p1 := a1) hC
  obtain ⟨f2, w2, qa, em, hm⟩ := mt_fault gb_NN0 (f := f) (w := w) (p1 := a1) hM
  exact ⟨σ2, ra, f2, w2, qa, ec, em, hc.1 ▸ hC, hm.1 ▸ hM, cf_Face_fault gb_Wq_sc fs_rf _ _ ec, cm_fault gb_k12_sm ⟨rfl, rfl⟩ _ _ _ em⟩
theorem qs_border (a1 a2 : Int32) {σ : gb_S} {f : gb_F} (w : Int64) (hC : gb_TC σ) (hM : gb_TM f) : ∃ (σ2 : gb_S) (ra : Int32) (f2 : gb_F) (w2 : Int64) (qa : Int32), cs_Face_border gb_N σ a1 a2 = some (σ2, ra) ∧ ms_border gb_N f w a1 a2 = some (f2, w2, qa) ∧ gb_TC σ2 ∧ gb_TM f2 ∧ gb_fs gb_Wq σ σ2 ∧ gb_k12 (f 1) (f 2) f2 := by
  obtain ⟨σ2, ra, ec, hc⟩ := ct_Face_border gb_NN0 (σ := σ) (p1 := a1) (p2 := a2) hC
  obtain ⟨f2, w2, qa, em, hm⟩ := mt_border gb_NN0 (f := f) (w := w) (p1 := a1) (p2 := a2) hM
  exact ⟨σ2, ra, f2, w2, qa, ec, em, hc.1 ▸ hC, hm.1, cf_Face_border gb_Wq_sc fs_rf _ _ ec, cm_border gb_k12_sm ⟨rfl, rfl⟩ _ _ _ em⟩
theorem qs_marks (a1 a2 a3 a4 : Int32) {σ : gb_S} {f : gb_F} (w : Int64) (hC : gb_TC σ) (hM : gb_TM f) : ∃ (σ2 : gb_S) (ra : Int32) (f2 : gb_F) (w2 : Int64) (qa : Int32), cs_Face_marks gb_N σ a1 a2 a3 a4 = some (σ2, ra) ∧ ms_marks gb_N f w a1 a2 a3 a4 = some (f2, w2, qa) ∧ gb_TC σ2 ∧ gb_TM f2 ∧ gb_fs gb_Wq σ σ2 ∧ gb_k12 (f 1) (f 2) f2 := by
  obtain ⟨σ2, ra, ec, hc⟩ := ct_Face_marks gb_NN0 (σ := σ) (p1 := a1) (p2 := a2) (p3 := a3) (p4 := a4) hC
  obtain ⟨f2, w2, qa, em, hm⟩ := mt_marks gb_NN0 (f := f) (w := w) (p1 := a1) (p2 := a2) (p3 := a3) (p4 := a4) hM
  exact ⟨σ2, ra, f2, w2, qa, ec, em, hc.1 ▸ hC, hm.1, cf_Face_marks gb_Wq_sc fs_rf _ _ ec, cm_marks gb_k12_sm ⟨rfl, rfl⟩ _ _ _ em⟩
theorem qs_deed (a1 a2 a3 : Int32) {σ : gb_S} {f : gb_F} (w : Int64) (hC : gb_TC σ) (hM : gb_TM f) : ∃ (σ2 : gb_S) (ra : Int32) (f2 : gb_F) (w2 : Int64) (qa : Int32), cs_Face_deed gb_N σ a1 a2 a3 = some (σ2, ra) ∧ ms_deed gb_N f w a1 a2 a3 = some (f2, w2, qa) ∧ gb_TC σ2 ∧ gb_TM f2 ∧ gb_fs gb_Wq σ σ2 ∧ gb_k12 (f 1) (f 2) f2 := by
  obtain ⟨σ2, ra, ec, hc⟩ := ct_Face_deed gb_NN0 (σ := σ) (p1 := a1) (p2 := a2) (p3 := a3) hC
  obtain ⟨f2, w2, qa, em, hm⟩ := mt_deed gb_NN0 (f := f) (w := w) (p1 := a1) (p2 := a2) (p3 := a3) hM
  exact ⟨σ2, ra, f2, w2, qa, ec, em, hc.1 ▸ hC, hm.1, cf_Face_deed gb_Wq_sc fs_rf _ _ ec, cm_deed gb_k12_sm ⟨rfl, rfl⟩ _ _ _ em⟩
theorem qs_stop (a1 a2 : Int32) {σ : gb_S} {f : gb_F} (w : Int64) (hC : gb_TC σ) (hM : gb_TM f) : ∃ (σ2 : gb_S) (ra : Int32) (f2 : gb_F) (w2 : Int64) (qa : Int32), cs_Face_stop gb_N σ a1 a2 = some (σ2, ra) ∧ ms_stop gb_N f w a1 a2 = some (f2, w2, qa) ∧ gb_TC σ2 ∧ gb_TM f2 ∧ gb_fs gb_Wq σ σ2 ∧ gb_k12 (f 1) (f 2) f2 := by
  obtain ⟨σ2, ra, ec, hc⟩ := ct_Face_stop gb_NN0 (σ := σ) (p1 := a1) (p2 := a2) hC
  obtain ⟨f2, w2, qa, em, hm⟩ := mt_stop gb_NN0 (f := f) (w := w) (p1 := a1) (p2 := a2) hM
  exact ⟨σ2, ra, f2, w2, qa, ec, em, hc.1, hm.1, cf_Face_stop gb_Wq_sc fs_rf _ _ ec, cm_stop gb_k12_sm ⟨rfl, rfl⟩ _ _ _ em⟩
theorem qs_goose (a1 a2 a3 a4 a5 : Int32) {σ : gb_S} {f : gb_F} (w : Int64) (hC : gb_TC σ) (hM : gb_TM f) : ∃ (σ2 : gb_S) (ra : Int32) (f2 : gb_F) (w2 : Int64) (qa : Int32), cs_Face_goose gb_N σ a1 a2 a3 a4 a5 = some (σ2, ra) ∧ ms_goose gb_N f w a1 a2 a3 a4 a5 = some (f2, w2, qa) ∧ gb_TC σ2 ∧ gb_TM f2 ∧ gb_fs gb_Wq σ σ2 ∧ gb_k12 (f 1) (f 2) f2 := by
  obtain ⟨σ2, ra, ec, hc⟩ := ct_Face_goose gb_NN0 (σ := σ) (p1 := a1) (p2 := a2) (p3 := a3) (p4 := a4) (p5 := a5) hC
  obtain ⟨f2, w2, qa, em, hm⟩ := mt_goose gb_NN0 (f := f) (w := w) (p1 := a1) (p2 := a2) (p3 := a3) (p4 := a4) (p5 := a5) hM
  exact ⟨σ2, ra, f2, w2, qa, ec, em, hc.1, hm.1, cf_Face_goose gb_Wq_sc fs_rf _ _ ec, cm_goose gb_k12_sm ⟨rfl, rfl⟩ _ _ _ em⟩
theorem qs_path (a1 a2 a3 a4 a5 : Int32) {σ : gb_S} {f : gb_F} (w : Int64) (hC : gb_TC σ) (hM : gb_TM f) : ∃ (σ2 : gb_S) (ra : Int32) (f2 : gb_F) (w2 : Int64) (qa : Int32), cs_Face_path gb_N σ a1 a2 a3 a4 a5 = some (σ2, ra) ∧ ms_path gb_N f w a1 a2 a3 a4 a5 = some (f2, w2, qa) ∧ gb_TC σ2 ∧ gb_TM f2 ∧ gb_fs gb_Wq σ σ2 ∧ gb_k12 (f 1) (f 2) f2 := by
  obtain ⟨σ2, ra, ec, hc⟩ := ct_Face_path gb_NN0 (σ := σ) (p1 := a1) (p2 := a2) (p3 := a3) (p4 := a4) (p5 := a5) hC
  obtain ⟨f2, w2, qa, em, hm⟩ := mt_path gb_NN0 (f := f) (w := w) (p1 := a1) (p2 := a2) (p3 := a3) (p4 := a4) (p5 := a5) hM
  exact ⟨σ2, ra, f2, w2, qa, ec, em, hc.1, hm.1, cf_Face_path gb_Wq_sc fs_rf _ _ ec, cm_path gb_k12_sm ⟨rfl, rfl⟩ _ _ _ em⟩
theorem qs_state (a1 a2 a3 a4 : Int32) {σ : gb_S} {f : gb_F} (w : Int64) (hC : gb_TC σ) (hM : gb_TM f) : ∃ (σ2 : gb_S) (ra : Int32) (f2 : gb_F) (w2 : Int64) (qa : Int32), cs_Face_state gb_N σ a1 a2 a3 a4 = some (σ2, ra) ∧ ms_state gb_N f w a1 a2 a3 a4 = some (f2, w2, qa) ∧ gb_TC σ2 ∧ gb_TM f2 ∧ gb_fs gb_Wq σ σ2 ∧ gb_k12 (f 1) (f 2) f2 := by
  obtain ⟨σ2, ra, ec, hc⟩ := ct_Face_state gb_NN0 (σ := σ) (p1 := a1) (p2 := a2) (p3 := a3) (p4 := a4) hC
  obtain ⟨f2, w2, qa, em, hm⟩ := mt_state gb_NN0 (f := f) (w := w) (p1 := a1) (p2 := a2) (p3 := a3) (p4 := a4) hM
  exact ⟨σ2, ra, f2, w2, qa, ec, em, hc.1, hm.1, cf_Face_state gb_Wq_sc fs_rf _ _ ec, cm_state gb_k12_sm ⟨rfl, rfl⟩ _ _ _ em⟩
theorem qs_term (a1 a2 a3 : Int32) {σ : gb_S} {f : gb_F} (w : Int64) (hC : gb_TC σ) (hM : gb_TM f) : ∃ (σ2 : gb_S) (ra : Int32) (f2 : gb_F) (w2 : Int64) (qa : Int32), cs_Face_term gb_N σ a1 a2 a3 = some (σ2, ra) ∧ ms_term gb_N f w a1 a2 a3 = some (f2, w2, qa) ∧ gb_TC σ2 ∧ gb_TM f2 ∧ gb_fs gb_Wq σ σ2 ∧ gb_k12 (f 1) (f 2) f2 := by
  obtain ⟨σ2, ra, ec, hc⟩ := ct_Face_term gb_NN0 (σ := σ) (p1 := a1) (p2 := a2) (p3 := a3) hC
  obtain ⟨f2, w2, qa, em, hm⟩ := mt_term gb_NN0 (f := f) (w := w) (p1 := a1) (p2 := a2) (p3 := a3) hM
  exact ⟨σ2, ra, f2, w2, qa, ec, em, hc.1 ▸ hC, hm.1, cf_Face_term gb_Wq_sc fs_rf _ _ ec, cm_term gb_k12_sm ⟨rfl, rfl⟩ _ _ _ em⟩
theorem qs_pays (a1 a2 : Int32) {σ : gb_S} {f : gb_F} (w : Int64) (hC : gb_TC σ) (hM : gb_TM f) : ∃ (σ2 : gb_S) (ra : Int32) (f2 : gb_F) (w2 : Int64) (qa : Int32), cs_Face_pays gb_N σ a1 a2 = some (σ2, ra) ∧ ms_pays gb_N f w a1 a2 = some (f2, w2, qa) ∧ gb_TC σ2 ∧ gb_TM f2 ∧ gb_fs gb_Wq σ σ2 ∧ gb_k12 (f 1) (f 2) f2 := by
  obtain ⟨σ2, ra, ec, hc⟩ := ct_Face_pays gb_NN0 (σ := σ) (p1 := a1) (p2 := a2) hC
  obtain ⟨f2, w2, qa, em, hm⟩ := mt_pays gb_NN0 (f := f) (w := w) (p1 := a1) (p2 := a2) hM
  exact ⟨σ2, ra, f2, w2, qa, ec, em, hc.1 ▸ hC, hm.1, cf_Face_pays gb_Wq_sc fs_rf _ _ ec, cm_pays gb_k12_sm ⟨rfl, rfl⟩ _ _ _ em⟩
theorem qs_even (a1 a2 : Int32) {σ : gb_S} {f : gb_F} (w : Int64) (hC : gb_TC σ) (hM : gb_TM f) : ∃ (σ2 : gb_S) (ra : Int32) (f2 : gb_F) (w2 : Int64) (qa : Int32), cs_Face_even gb_N σ a1 a2 = some (σ2, ra) ∧ ms_even gb_N f w a1 a2 = some (f2, w2, qa) ∧ gb_TC σ2 ∧ gb_TM f2 ∧ gb_fs gb_Wq σ σ2 ∧ gb_k12 (f 1) (f 2) f2 := by
  obtain ⟨σ2, ra, ec, hc⟩ := ct_Face_even gb_NN0 (σ := σ) (p1 := a1) (p2 := a2) hC
  obtain ⟨f2, w2, qa, em, hm⟩ := mt_even gb_NN0 (f := f) (w := w) (p1 := a1) (p2 := a2) hM
  exact ⟨σ2, ra, f2, w2, qa, ec, em, hc.1, hm.1, cf_Face_even gb_Wq_sc fs_rf _ _ ec, cm_even gb_k12_sm ⟨rfl, rfl⟩ _ _ _ em⟩
theorem qs_richest (a1 a2 a3 : Int32) {σ : gb_S} {f : gb_F} (w : Int64) (hC : gb_TC σ) (hM : gb_TM f) : ∃ (σ2 : gb_S) (ra : Int32) (f2 : gb_F) (w2 : Int64) (qa : Int32), cs_Face_richest gb_N σ a1 a2 a3 = some (σ2, ra) ∧ ms_richest gb_N f w a1 a2 a3 = some (f2, w2, qa) ∧ gb_TC σ2 ∧ gb_TM f2 ∧ gb_fs gb_Wq σ σ2 ∧ gb_k12 (f 1) (f 2) f2 := by
  obtain ⟨σ2, ra, ec, hc⟩ := ct_Face_richest gb_NN0 (σ := σ) (p1 := a1) (p2 := a2) (p3 := a3) hC
  obtain ⟨f2, w2, qa, em, hm⟩ := mt_richest gb_NN0 (f := f) (w := w) (p1 := a1) (p2 := a2) (p3 := a3) hM
  exact ⟨σ2, ra, f2, w2, qa, ec, em, hc.1, hm.1, cf_Face_richest gb_Wq_sc fs_rf _ _ ec, cm_richest gb_k12_sm ⟨rfl, rfl⟩ _ _ _ em⟩
theorem qs_tar (a1 a2 a3 : Int32) {σ : gb_S} {f : gb_F} (w : Int64) (hC : gb_TC σ) (hM : gb_TM f) : ∃ (σ2 : gb_S) (ra : Int32) (f2 : gb_F) (w2 : Int64) (qa : Int32), cs_Face_tar gb_N σ a1 a2 a3 = some (σ2, ra) ∧ ms_tar gb_N f w a1 a2 a3 = some (f2, w2, qa) ∧ gb_TC σ2 ∧ gb_TM f2 ∧ gb_fs gb_Wq σ σ2 ∧ gb_k12 (f 1) (f 2) f2 := by
  obtain ⟨σ2, ra, ec, hc⟩ := ct_Face_tar gb_NN0 (σ := σ) (p1 := a1) (p2 := a2) (p3 := a3) hC
  obtain ⟨f2, w2, qa, em, hm⟩ := mt_tar gb_NN0 (f := f) (w := w) (p1 := a1) (p2 := a2) (p3 := a3) hM
  exact ⟨σ2, ra, f2, w2, qa, ec, em, hc.1 ▸ hC, hm.1, cf_Face_tar gb_Wq_sc fs_rf _ _ ec, cm_tar gb_k12_sm ⟨rfl, rfl⟩ _ _ _ em⟩
theorem qs_lame (a1 a2 a3 : Int32) {σ : gb_S} {f : gb_F} (w : Int64) (hC : gb_TC σ) (hM : gb_TM f) : ∃ (σ2 : gb_S) (ra : Int32) (f2 : gb_F) (w2 : Int64) (qa : Int32), cs_Face_lame gb_N σ a1 a2 a3 = some (σ2, ra) ∧ ms_lame gb_N f w a1 a2 a3 = some (f2, w2, qa) ∧ gb_TC σ2 ∧ gb_TM f2 ∧ gb_fs gb_Wq σ σ2 ∧ gb_k12 (f 1) (f 2) f2 := by
  obtain ⟨σ2, ra, ec, hc⟩ := ct_Face_lame gb_NN0 (σ := σ) (p1 := a1) (p2 := a2) (p3 := a3) hC
  obtain ⟨f2, w2, qa, em, hm⟩ := mt_lame gb_NN0 (f := f) (w := w) (p1 := a1) (p2 := a2) (p3 := a3) hM
  exact ⟨σ2, ra, f2, w2, qa, ec, em, hc.1 ▸ hC, hm.1, cf_Face_lame gb_Wq_sc fs_rf _ _ ec, cm_lame gb_k12_sm ⟨rfl, rfl⟩ _ _ _ em⟩
theorem qs_rest (a1 a2 a3 : Int32) {σ : gb_S} {f : gb_F} (w : Int64) (hC : gb_TC σ) (hM : gb_TM f) : ∃ (σ2 : gb_S) (ra : Int32) (f2 : gb_F) (w2 : Int64) (qa : Int32), cs_Face_rest gb_N σ a1 a2 a3 = some (σ2, ra) ∧ ms_rest gb_N f w a1 a2 a3 = some (f2, w2, qa) ∧ gb_TC σ2 ∧ gb_TM f2 ∧ gb_fs gb_Wq σ σ2 ∧ gb_k12 (f 1) (f 2) f2 := by
  obtain ⟨σ2, ra, ec, hc⟩ := ct_Face_rest gb_NN0 (σ := σ) (p1 := a1) (p2 := a2) (p3 := a3) hC
  obtain ⟨f2, w2, qa, em, hm⟩ := mt_rest gb_NN0 (f := f) (w := w) (p1 := a1) (p2 := a2) (p3 := a3) hM
  exact ⟨σ2, ra, f2, w2, qa, ec, em, hc.1, hm.1, cf_Face_rest gb_Wq_sc fs_rf _ _ ec, cm_rest gb_k12_sm ⟨rfl, rfl⟩ _ _ _ em⟩
theorem qs_take (a1 a2 a3 a4 : Int32) {σ : gb_S} {f : gb_F} (w : Int64) (hC : gb_TC σ) (hM : gb_TM f) : ∃ (σ2 : gb_S) (ra : Int32) (f2 : gb_F) (w2 : Int64) (qa : Int32), cs_Face_take gb_N σ a1 a2 a3 a4 = some (σ2, ra) ∧ ms_take gb_N f w a1 a2 a3 a4 = some (f2, w2, qa) ∧ gb_TC σ2 ∧ gb_TM f2 ∧ gb_fs gb_Wq σ σ2 ∧ gb_k12 (f 1) (f 2) f2 := by
  obtain ⟨σ2, ra, ec, hc⟩ := ct_Face_take gb_NN0 (σ := σ) (p1 := a1) (p2 := a2) (p3 := a3) (p4 := a4) hC
  obtain ⟨f2, w2, qa, em, hm⟩ := mt_take gb_NN0 (f := f) (w := w) (p1 := a1) (p2 := a2) (p3 := a3) (p4 := a4) hM
  exact ⟨σ2, ra, f2, w2, qa, ec, em, hc.1, hm.1, cf_Face_take gb_Wq_sc fs_rf _ _ ec, cm_take gb_k12_sm ⟨rfl, rfl⟩ _ _ _ em⟩
theorem qs_seen (a1 a2 a3 : Int32) {σ : gb_S} {f : gb_F} (w : Int64) (hC : gb_TC σ) (hM : gb_TM f) : ∃ (σ2 : gb_S) (ra : Int32) (f2 : gb_F) (w2 : Int64) (qa : Int32), cs_Face_seen gb_N σ a1 a2 a3 = some (σ2, ra) ∧ ms_seen gb_N f w a1 a2 a3 = some (f2, w2, qa) ∧ gb_TC σ2 ∧ gb_TM f2 ∧ gb_fs gb_Wq σ σ2 ∧ gb_k12 (f 1) (f 2) f2 := by
  obtain ⟨σ2, ra, ec, hc⟩ := ct_Face_seen gb_NN0 (σ := σ) (p1 := a1) (p2 := a2) (p3 := a3) hC
  obtain ⟨f2, w2, qa, em, hm⟩ := mt_seen gb_NN0 (f := f) (w := w) (p1 := a1) (p2 := a2) (p3 := a3) hM
  exact ⟨σ2, ra, f2, w2, qa, ec, em, hc.1 ▸ hC, hm.1, cf_Face_seen gb_Wq_sc fs_rf _ _ ec, cm_seen gb_k12_sm ⟨rfl, rfl⟩ _ _ _ em⟩
theorem qs_fits (a1 a2 : Int32) {σ : gb_S} {f : gb_F} (w : Int64) (hC : gb_TC σ) (hM : gb_TM f) : ∃ (σ2 : gb_S) (ra : Int64) (f2 : gb_F) (w2 : Int64) (qa : Int64), cs_Face_fits gb_N σ a1 a2 = some (σ2, ra) ∧ ms_fits gb_N f w a1 a2 = some (f2, w2, qa) ∧ gb_TC σ2 ∧ gb_TM f2 ∧ gb_fs gb_Wq σ σ2 ∧ gb_k12 (f 1) (f 2) f2 := by
  obtain ⟨σ2, ra, ec, hc⟩ := ct_Face_fits gb_NN0 (σ := σ) (p1 := a1) (p2 := a2) hC
  obtain ⟨f2, w2, qa, em, hm⟩ := mt_fits gb_NN0 (f := f) (w := w) (p1 := a1) (p2 := a2) hM
  exact ⟨σ2, ra, f2, w2, qa, ec, em, hc.1, hm, cf_Face_fits gb_Wq_sc fs_rf _ _ ec, cm_fits gb_k12_sm ⟨rfl, rfl⟩ _ _ _ em⟩
theorem qs_told (a1 a2 a3 : Int32) {σ : gb_S} {f : gb_F} (w : Int64) (hC : gb_TC σ) (hM : gb_TM f) : ∃ (σ2 : gb_S) (ra : Int32) (f2 : gb_F) (w2 : Int64) (qa : Int32), cs_Face_told gb_N σ a1 a2 a3 = some (σ2, ra) ∧ ms_told gb_N f w a1 a2 a3 = some (f2, w2, qa) ∧ gb_TC σ2 ∧ gb_TM f2 ∧ gb_fs gb_Wq σ σ2 ∧ gb_k12 (f 1) (f 2) f2 := by
  obtain ⟨σ2, ra, ec, hc⟩ := ct_Face_told gb_NN0 (σ := σ) (p1 := a1) (p2 := a2) (p3 := a3) hC
  obtain ⟨f2, w2, qa, em, hm⟩ := mt_told gb_NN0 (f := f) (w := w) (p1 := a1) (p2 := a2) (p3 := a3) hM
  exact ⟨σ2, ra, f2, w2, qa, ec, em, hc.1, hm, cf_Face_told gb_Wq_sc fs_rf _ _ ec, cm_told gb_k12_sm ⟨rfl, rfl⟩ _ _ _ em⟩
theorem qs_lacks (a1 a2 a3 : Int32) {σ : gb_S} {f : gb_F} (w : Int64) (hC : gb_TC σ) (hM : gb_TM f) : ∃ (σ2 : gb_S) (ra : Int32) (f2 : gb_F) (w2 : Int64) (qa : Int32), cs_Face_lacks gb_N σ a1 a2 a3 = some (σ2, ra) ∧ ms_lacks gb_N f w a1 a2 a3 = some (f2, w2, qa) ∧ gb_TC σ2 ∧ gb_TM f2 ∧ gb_fs gb_Wq σ σ2 ∧ gb_k12 (f 1) (f 2) f2 := by
  obtain ⟨σ2, ra, ec, hc⟩ := ct_Face_lacks gb_NN0 (σ := σ) (p1 := a1) (p2 := a2) (p3 := a3) hC
  obtain ⟨f2, w2, qa, em, hm⟩ := mt_lacks gb_NN0 (f := f) (w := w) (p1 := a1) (p2 := a2) (p3 := a3) hM
  exact ⟨σ2, ra, f2, w2, qa, ec, em, hc.1, hm.1, cf_Face_lacks gb_Wq_sc fs_rf _ _ ec, cm_lacks gb_k12_sm ⟨rfl, rfl⟩ _ _ _ em⟩
theorem qs_who (a1 a2 a3 a4 : Int32) {σ : gb_S} {f : gb_F} (w : Int64) (hC : gb_TC σ) (hM : gb_TM f) : ∃ (σ2 : gb_S) (ra : Int32) (f2 : gb_F) (w2 : Int64) (qa : Int32), cs_Face_who gb_N σ a1 a2 a3 a4 = some (σ2, ra) ∧ ms_who gb_N f w a1 a2 a3 a4 = some (f2, w2, qa) ∧ gb_TC σ2 ∧ gb_TM f2 ∧ gb_fs gb_Wq σ σ2 ∧ gb_k12 (f 1) (f 2) f2 := by
  obtain ⟨σ2, ra, ec, hc⟩ := ct_Face_who gb_NN0 (σ := σ) (p1 := a1) (p2 := a2) (p3 := a3) (p4 := a4) hC
  obtain ⟨f2, w2, qa, em, hm⟩ := mt_who gb_NN0 (f := f) (w := w) (p1 := a1) (p2 := a2) (p3 := a3) (p4 := a4) hM
  exact ⟨σ2, ra, f2, w2, qa, ec, em, hc.1, hm.1, cf_Face_who gb_Wq_sc fs_rf _ _ ec, cm_who gb_k12_sm ⟨rfl, rfl⟩ _ _ _ em⟩
theorem qs_drawn (a1 a2 a3 a4 : Int32) {σ : gb_S} {f : gb_F} (w : Int64) (hC : gb_TC σ) (hM : gb_TM f) : ∃ (σ2 : gb_S) (ra : Int32) (f2 : gb_F) (w2 : Int64) (qa : Int32), cs_Face_drawn gb_N σ a1 a2 a3 a4 = some (σ2, ra) ∧ ms_drawn gb_N f w a1 a2 a3 a4 = some (f2, w2, qa) ∧ gb_TC σ2 ∧ gb_TM f2 ∧ gb_fs gb_Wq σ σ2 ∧ gb_k12 (f 1) (f 2) f2 := by
  obtain ⟨σ2, ra, ec, hc⟩ := ct_Face_drawn gb_NN0 (σ := σ) (p1 := a1) (p2 := a2) (p3 := a3) (p4 := a4) hC
  obtain ⟨f2, w2, qa, em, hm⟩ := mt_drawn gb_NN0 (f := f) (w := w) (p1 := a1) (p2 := a2) (p3 := a3) (p4 := a4) hM
  exact ⟨σ2, ra, f2, w2, qa, ec, em, hc.1, hm.1, cf_Face_drawn gb_Wq_sc (Or.inl rfl) fs_rf _ _ ec, cm_drawn gb_k12_sm ⟨rfl, rfl⟩ _ _ _ em⟩
theorem qs_alike (a1 a2 a3 : Int32) {σ : gb_S} {f : gb_F} (w : Int64) (hC : gb_TC σ) (hM : gb_TM f) : ∃ (σ2 : gb_S) (ra : Int32) (f2 : gb_F) (w2 : Int64) (qa : Int32), cs_Face_alike gb_N σ a1 a2 a3 = some (σ2, ra) ∧ ms_alike gb_N f w a1 a2 a3 = some (f2, w2, qa) ∧ gb_TC σ2 ∧ gb_TM f2 ∧ gb_fs gb_Wq σ σ2 ∧ gb_k12 (f 1) (f 2) f2 := by
  obtain ⟨σ2, ra, ec, hc⟩ := ct_Face_alike gb_NN0 (σ := σ) (p1 := a1) (p2 := a2) (p3 := a3) hC
  obtain ⟨f2, w2, qa, em, hm⟩ := mt_alike gb_NN0 (f := f) (w := w) (p1 := a1) (p2 := a2) (p3 := a3) hM
  exact ⟨σ2, ra, f2, w2, qa, ec, em, hc.1 ▸ hC, hm.1, cf_Face_alike gb_Wq_sc fs_rf _ _ ec, cm_alike gb_k12_sm ⟨rfl, rfl⟩ _ _ _ em⟩
theorem qs_span (a1 a2 a3 a4 : Int32) {σ : gb_S} {f : gb_F} (w : Int64) (hC : gb_TC σ) (hM : gb_TM f) : ∃ (σ2 : gb_S) (ra : Int32) (f2 : gb_F) (w2 : Int64) (qa : Int32), cs_Face_span gb_N σ a1 a2 a3 a4 = some (σ2, ra) ∧ ms_span gb_N f w a1 a2 a3 a4 = some (f2, w2, qa) ∧ gb_TC σ2 ∧ gb_TM f2 ∧ gb_fs gb_Wq σ σ2 ∧ gb_k12 (f 1) (f 2) f2 := by
  obtain ⟨σ2, ra, ec, hc⟩ := ct_Face_span gb_NN0 (σ := σ) (p1 := a1) (p2 := a2) (p3 := a3) (p4 := a4) hC
  obtain ⟨f2, w2, qa, em, hm⟩ := mt_span gb_NN0 (f := f) (w := w) (p1 := a1) (p2 := a2) (p3 := a3) (p4 := a4) hM
  exact ⟨σ2, ra, f2, w2, qa, ec, em, hc.1, hm.1, cf_Face_span gb_Wq_sc fs_rf _ _ ec, cm_span gb_k12_sm ⟨rfl, rfl⟩ _ _ _ em⟩
theorem qs_honest (a1 a2 a3 : Int32) {σ : gb_S} {f : gb_F} (w : Int64) (hC : gb_TC σ) (hM : gb_TM f) : ∃ (σ2 : gb_S) (ra : Int32) (f2 : gb_F) (w2 : Int64) (qa : Int32), cs_Face_honest gb_N σ a1 a2 a3 = some (σ2, ra) ∧ ms_honest gb_N f w a1 a2 a3 = some (f2, w2, qa) ∧ gb_TC σ2 ∧ gb_TM f2 ∧ gb_fs gb_Wq σ σ2 ∧ gb_k12 (f 1) (f 2) f2 := by
  obtain ⟨σ2, ra, ec, hc⟩ := ct_Face_honest gb_NN0 (σ := σ) (p1 := a1) (p2 := a2) (p3 := a3) hC
  obtain ⟨f2, w2, qa, em, hm⟩ := mt_honest gb_NN0 (f := f) (w := w) (p1 := a1) (p2 := a2) (p3 := a3) hM
  exact ⟨σ2, ra, f2, w2, qa, ec, em, hc.1, hm.1, cf_Face_honest gb_Wq_sc fs_rf _ _ ec, cm_honest gb_k12_sm ⟨rfl, rfl⟩ _ _ _ em⟩
theorem qs_split (a1 a2 a3 a4 : Int32) {σ : gb_S} {f : gb_F} (w : Int64) (hC : gb_TC σ) (hM : gb_TM f) : ∃ (σ2 : gb_S) (ra : Int32) (f2 : gb_F) (w2 : Int64) (qa : Int32), cs_Face_split gb_N σ a1 a2 a3 a4 = some (σ2, ra) ∧ ms_split gb_N f w a1 a2 a3 a4 = some (f2, w2, qa) ∧ gb_TC σ2 ∧ gb_TM f2 ∧ gb_fs gb_Wq σ σ2 ∧ gb_k12 (f 1) (f 2) f2 := by
  obtain ⟨σ2, ra, ec, hc⟩ := ct_Face_split gb_NN0 (σ := σ) (p1 := a1) (p2 := a2) (p3 := a3) (p4 := a4) hC
  obtain ⟨f2, w2, qa, em, hm⟩ := mt_split gb_NN0 (f := f) (w := w) (p1 := a1) (p2 := a2) (p3 := a3) (p4 := a4) hM
  exact ⟨σ2, ra, f2, w2, qa, ec, em, hc.1, hm.1, cf_Face_split gb_Wq_sc fs_rf _ _ ec, cm_split gb_k12_sm ⟨rfl, rfl⟩ _ _ _ em⟩
theorem qs_two (a1 a2 a3 a4 : Int32) {σ : gb_S} {f : gb_F} (w : Int64) (hC : gb_TC σ) (hM : gb_TM f) : ∃ (σ2 : gb_S) (ra : Int32) (f2 : gb_F) (w2 : Int64) (qa : Int32), cs_Face_two gb_N σ a1 a2 a3 a4 = some (σ2, ra) ∧ ms_two gb_N f w a1 a2 a3 a4 = some (f2, w2, qa) ∧ gb_TC σ2 ∧ gb_TM f2 ∧ gb_fs gb_Wq σ σ2 ∧ gb_k12 (f 1) (f 2) f2 := by
  obtain ⟨σ2, ra, ec, hc⟩ := ct_Face_two gb_NN0 (σ := σ) (p1 := a1) (p2 := a2) (p3 := a3) (p4 := a4) hC
  obtain ⟨f2, w2, qa, em, hm⟩ := mt_two gb_NN0 (f := f) (w := w) (p1 := a1) (p2 := a2) (p3 := a3) (p4 := a4) hM
  exact ⟨σ2, ra, f2, w2, qa, ec, em, hc.1 ▸ hC, hm, cf_Face_two gb_Wq_sc fs_rf _ _ ec, cm_two gb_k12_sm ⟨rfl, rfl⟩ _ _ _ em⟩
theorem qs_backs (a1 a2 a3 a4 : Int32) {σ : gb_S} {f : gb_F} (w : Int64) (hC : gb_TC σ) (hM : gb_TM f) : ∃ (σ2 : gb_S) (ra : Int32) (f2 : gb_F) (w2 : Int64) (qa : Int32), cs_Face_backs gb_N σ a1 a2 a3 a4 = some (σ2, ra) ∧ ms_backs gb_N f w a1 a2 a3 a4 = some (f2, w2, qa) ∧ gb_TC σ2 ∧ gb_TM f2 ∧ gb_fs gb_Wq σ σ2 ∧ gb_k12 (f 1) (f 2) f2 := by
  obtain ⟨σ2, ra, ec, hc⟩ := ct_Face_backs gb_NN0 (σ := σ) (p1 := a1) (p2 := a2) (p3 := a3) (p4 := a4) hC
  obtain ⟨f2, w2, qa, em, hm⟩ := mt_backs gb_NN0 (f := f) (w := w) (p1 := a1) (p2 := a2) (p3 := a3) (p4 := a4) hM
  exact ⟨σ2, ra, f2, w2, qa, ec, em, hc.1, hm.1, cf_Face_backs gb_Wq_sc fs_rf _ _ ec, cm_backs gb_k12_sm ⟨rfl, rfl⟩ _ _ _ em⟩
theorem qs_close (a1 a2 : Int32) {σ : gb_S} {f : gb_F} (w : Int64) (hC : gb_TC σ) (hM : gb_TM f) : ∃ (σ2 : gb_S) (ra : Int32) (f2 : gb_F) (w2 : Int64) (qa : Int32), cs_Face_close gb_N σ a1 a2 = some (σ2, ra) ∧ ms_close gb_N f w a1 a2 = some (f2, w2, qa) ∧ gb_TC σ2 ∧ gb_TM f2 ∧ gb_fs gb_Wq σ σ2 ∧ gb_k12 (f 1) (f 2) f2 := by
  obtain ⟨σ2, ra, ec, hc⟩ := ct_Face_close gb_NN0 (σ := σ) (p1 := a1) (p2 := a2) hC
  obtain ⟨f2, w2, qa, em, hm⟩ := mt_close gb_NN0 (f := f) (w := w) (p1 := a1) (p2 := a2) hM
  exact ⟨σ2, ra, f2, w2, qa, ec, em, hc.1, hm.1, cf_Face_close gb_Wq_sc fs_rf _ _ ec, cm_close gb_k12_sm ⟨rfl, rfl⟩ _ _ _ em⟩
theorem qs_near (a1 a2 a3 : Int32) {σ : gb_S} {f : gb_F} (w : Int64) (hC : gb_TC σ) (hM : gb_TM f) : ∃ (σ2 : gb_S) (ra : Int32) (f2 : gb_F) (w2 : Int64) (qa : Int32), cs_Face_near gb_N σ a1 a2 a3 = some (σ2, ra) ∧ ms_near gb_N f w a1 a2 a3 = some (f2, w2, qa) ∧ gb_TC σ2 ∧ gb_TM f2 ∧ gb_fs gb_Wq σ σ2 ∧ gb_k12 (f 1) (f 2) f2 := by
  obtain ⟨σ2, ra, ec, hc⟩ := ct_Face_near gb_NN0 (σ := σ) (p1 := a1) (p2 := a2) (p3 := a3) hC
  obtain ⟨f2, w2, qa, em, hm⟩ := mt_near gb_NN0 (f := f) (w := w) (p1 := a1) (p2 := a2) (p3 := a3) hM
  exact ⟨σ2, ra, f2, w2, qa, ec, em, hc.1, hm.1, cf_Face_near gb_Wq_sc fs_rf _ _ ec, cm_near gb_k12_sm ⟨rfl, rfl⟩ _ _ _ em⟩
theorem qs_shift (a1 a2 a3 : Int32) {σ : gb_S} {f : gb_F} (w : Int64) (hC : gb_TC σ) (hM : gb_TM f) : ∃ (σ2 : gb_S) (ra : Int32) (f2 : gb_F) (w2 : Int64) (qa : Int32), cs_Face_shift gb_N σ a1 a2 a3 = some (σ2, ra) ∧ ms_shift gb_N f w a1 a2 a3 = some (f2, w2, qa) ∧ gb_TC σ2 ∧ gb_TM f2 ∧ gb_fs gb_Wq σ σ2 ∧ gb_k12 (f 1) (f 2) f2 := by
  obtain ⟨σ2, ra, ec, hc⟩ := ct_Face_shift gb_NN0 (σ := σ) (p1 := a1) (p2 := a2) (p3 := a3) hC
  obtain ⟨f2, w2, qa, em, hm⟩ := mt_shift gb_NN0 (f := f) (w := w) (p1 := a1) (p2 := a2) (p3 := a3) hM
  exact ⟨σ2, ra, f2, w2, qa, ec, em, hc.1, hm, cf_Face_shift gb_Wq_sc fs_rf _ _ ec, mh_shift gb_NN0 hM _ _ _ em⟩
theorem qs_thrift (a1 : Int32) {σ : gb_S} {f : gb_F} (w : Int64) (hC : gb_TC σ) (hM : gb_TM f) : ∃ (σ2 : gb_S) (ra : Int32) (f2 : gb_F) (w2 : Int64) (qa : Int32), cs_Face_thrift gb_N σ a1 = some (σ2, ra) ∧ ms_thrift gb_N f w a1 = some (f2, w2, qa) ∧ gb_TC σ2 ∧ gb_TM f2 ∧ gb_fs gb_Wq σ σ2 ∧ gb_k12 (f 1) (f 2) f2 := by
  obtain ⟨σ2, ra, ec, hc⟩ := ct_Face_thrift gb_NN0 (σ := σ) (p1 := a1) hC
  obtain ⟨f2, w2, qa, em, hm⟩ := mt_thrift gb_NN0 (f := f) (w := w) (p1 := a1) hM
  exact ⟨σ2, ra, f2, w2, qa, ec, em, hc.1, hm.1, cf_Face_thrift gb_Wq_sc fs_rf _ _ ec, cm_thrift gb_k12_sm ⟨rfl, rfl⟩ _ _ _ em⟩
theorem qs_count (a1 : Int32) {σ : gb_S} {f : gb_F} (w : Int64) (hC : gb_TC σ) (hM : gb_TM f) : ∃ (σ2 : gb_S) (ra : Int32) (f2 : gb_F) (w2 : Int64) (qa : Int32), cs_Face_count gb_N σ a1 = some (σ2, ra) ∧ ms_count gb_N f w a1 = some (f2, w2, qa) ∧ gb_TC σ2 ∧ gb_TM f2 ∧ gb_fs gb_Wq σ σ2 ∧ gb_k12 (f 1) (f 2) f2 := by
  obtain ⟨σ2, ra, ec, hc⟩ := ct_Face_count gb_NN0 (σ := σ) (p1 := a1) hC
  obtain ⟨f2, w2, qa, em, hm⟩ := mt_count gb_NN0 (f := f) (w := w) (p1 := a1) hM
  exact ⟨σ2, ra, f2, w2, qa, ec, em, hc.1 ▸ hC, hm.1 ▸ hM, cf_Face_count gb_Wq_sc fs_rf _ _ ec, cm_count gb_k12_sm ⟨rfl, rfl⟩ _ _ _ em⟩
theorem qs_image (a1 : Int32) {σ : gb_S} {f : gb_F} (w : Int64) (hC : gb_TC σ) (hM : gb_TM f) : ∃ (σ2 : gb_S) (ra : Int32) (f2 : gb_F) (w2 : Int64) (qa : Int32), cs_Face_image gb_N σ a1 = some (σ2, ra) ∧ ms_image gb_N f w a1 = some (f2, w2, qa) ∧ gb_TC σ2 ∧ gb_TM f2 := by
  obtain ⟨σ2, ra, ec, hc⟩ := ct_Face_image gb_NN0 (σ := σ) (p1 := a1) hC
  obtain ⟨f2, w2, qa, em, hm⟩ := mt_image gb_NN0 (f := f) (w := w) (p1 := a1) hM
  exact ⟨σ2, ra, f2, w2, qa, ec, em, hc.1, hm.1⟩
theorem qs_again (a1 : Int32) {σ : gb_S} {f : gb_F} (w : Int64) (hC : gb_TC σ) (hM : gb_TM f) : ∃ (σ2 : gb_S) (ra : Int32) (f2 : gb_F) (w2 : Int64) (qa : Int32), cs_Face_again gb_N σ a1 = some (σ2, ra) ∧ ms_again gb_N f w a1 = some (f2, w2, qa) ∧ gb_TC σ2 ∧ gb_TM f2 := by
  obtain ⟨σ2, ra, ec, hc⟩ := ct_Face_again gb_NN0 (σ := σ) (p1 := a1) hC
  obtain ⟨f2, w2, qa, em, hm⟩ := mt_again gb_NN0 (f := f) (w := w) (p1 := a1) hM
  exact ⟨σ2, ra, f2, w2, qa, ec, em, hc, hm⟩
/-! BOTH SIDES: the tape's length, also in images, and which images there are -/
def gb_ia (σ : gb_S) (f : gb_F) : Prop := (∀ k, k < 3 → (σ.1 94 k = 0 ↔ f 2 k = 0)) ∧ σ.1 1 6 = f 1 4 ∧ ∀ k, k < 3 → σ.1 (25 + 23 * k) 6 = f 1 (992 * (k + 1) + 4)
theorem ia_q {σ σ2 : gb_S} {f f2 : gb_F} (h : gb_ia σ f) (hc : gb_fs gb_Wq σ σ2) (hm : gb_k12 (f 1) (f 2) f2) : gb_ia σ2 f2 := by
  obtain ⟨h1, h2, h3⟩ := h
  refine ⟨fun k hk => ?_, ?_, fun k hk => ?_⟩
  · rw [hc 94 (by unfold gb_Wq; omega), hm.2]
    exact h1 k hk
  · rw [hc 1 (by unfold gb_Wq; omega), hm.1]
    exact h2
  · rw [hc _ (by unfold gb_Wq; omega), hm.1]
    exact h3 k hk
theorem gb_len {σ : gb_S} (hT : gb_TC σ) : ∃ L : Nat, (σ.1 1 6).toInt = L ∧ L ≤ 600 := by
  have i : gb_iv 0 600 (σ.1 1 6) := gc_rd (c := 7) hT rfl ⟨Int.le_refl 0, Int.le_refl 600⟩
  have := i.1
  have := i.2
  exact ⟨(σ.1 1 6).toInt.toNat, by omega, by omega⟩
theorem ia_feed {σ σ2 : gb_S} {f f2 : gb_F} {w w2 : Int64} {p1 p2 p3 p4 p5 ra qa : Int32} (hT : gb_TC σ) (h : gb_ia σ f) (ec : cs_Face_feed gb_N σ p1 p2 p3 p4 p5 = some (σ2, ra)) (em : ms_feed gb_N f w p1 p2 p3 p4 p5 = some (f2, w2, qa)) : ra = qa ∧ gb_ia σ2 f2 := by
  obtain ⟨L, eL, hL⟩ := gb_len hT
  obtain ⟨h1, h2, h3⟩ := h
  have hc := ch_feed eL _ _ ec
  have hm := mh_feed (by rw [← h2]; exact eL) hL _ _ _ em
  rcases hc with ⟨c1, c2, c3⟩ | ⟨c1, c2, c3⟩
  · rcases hm with ⟨m1, m2, m3⟩ | ⟨m1, m2, m3⟩
    · subst c3
      subst m3
      exact ⟨c2.trans m2.symm, h1, h2, h3⟩
    · omega
  · rcases hm with ⟨m1, m2, m3⟩ | ⟨m1, m2, m3⟩
    · omega
    · have e : σ2.1 1 6 = f2 1 4 := gb_ieq (c3.2.1.trans m3.1.symm)
      refine ⟨c2.trans (e.trans m2.symm), fun k hk => ?_, e, fun k hk => ?_⟩
      · rw [c3.2.2.1 94 (by decide) (by decide), m3.2.2 2 (by decide)]
        exact h1 k hk
      · rw [c3.2.2.1 _ (by omega) (by omega), m3.2.1 _ (by omega), if_neg (by omega)]
        exact h3 k hk
theorem ia_end {σ σ2 : gb_S} {f f2 : gb_F} {w w2 : Int64} {p1 ra qa : Int32} (h : gb_ia σ f) (ec : cs_Face_end gb_N σ p1 = some (σ2, ra)) (em : ms_end gb_N f w p1 = some (f2, w2, qa)) : ra = qa ∧ gb_ia σ2 f2 := by
  obtain ⟨h1, h2, h3⟩ := h
  have hc := ch_end _ _ ec
  have hm := mh_end _ _ _ em
  rw [h2] at hc
  rcases hc with ⟨c1, c2, c3⟩ | ⟨c1, c2, c3, c4⟩
  · rcases hm with ⟨m1, m2, m3⟩ | ⟨m1, m2, m3, m4⟩
    · subst c3
      subst m3
      exact ⟨c2.trans m2.symm, h1, h2, h3⟩
    · omega
  · rcases hm with ⟨m1, m2, m3⟩ | ⟨m1, m2, m3, m4⟩
    · omega
    · refine ⟨c3.trans m3.symm, fun k hk => ?_, ?_, fun k hk => ?_⟩
      · rw [c4, m4, gb_sun (by decide), gb_un (by decide)]
        exact h1 k hk
      · rw [c4, m4, gb_sus, gb_us, pk_us, pk_us]
      · rw [c4, m4, gb_sun (by omega), gb_us, pk_un (by omega)]
        exact h3 k hk
theorem ia_text {σ σ2 : gb_S} {f f2 : gb_F} {w w2 : Int64} {p1 p2 ra qa : Int32} (hT : gb_TC σ) (hM : gb_TM f) (h : gb_ia σ f) (ec : cs_Face_text gb_N σ p1 p2 = some (σ2, ra)) (em : ms_text gb_N f w p1 p2 = some (f2, w2, qa)) : gb_ia σ2 f2 := by
  obtain ⟨h1, h2, h3⟩ := h
  obtain ⟨c1, c2⟩ := ch_textz hT _ _ ec
  obtain ⟨m1, m2, m3⟩ := mh_textz gb_NN0 hM _ _ _ em
  refine ⟨fun k hk => ?_, c1.trans m1.symm, fun k hk => ?_⟩
  · rw [c2 94 (by decide) (by decide), m3]
    exact h1 k hk
  · rw [c2 _ (by omega) (by omega), m2 _ (by omega)]
    exact h3 k hk
theorem gb_p3 {p : Int32} {k j : Nat} (h : p.toInt = k) (g : p.toInt = j) : k = j := by omega
theorem ia_image {σ σ2 : gb_S} {f f2 : gb_F} {w w2 : Int64} {p1 ra qa : Int32} (h : gb_ia σ f) (ec : cs_Face_image gb_N σ p1 = some (σ2, ra)) (em : ms_image gb_N f w p1 = some (f2, w2, qa)) : ra = qa ∧ gb_ia σ2 f2 := by
  obtain ⟨h1, h2, h3⟩ := h
  have hc := ch_image _ _ ec
  have hm := mh_image _ _ _ em
  rcases hc with ⟨c1, c2, c3⟩ | ⟨k, s2, c1, c2, c3, c4, c5⟩
  · rcases hm with ⟨m1, m2, m3⟩ | ⟨j, m1, m2, m3, m4, m5⟩
    · subst c2
      subst m2
      exact ⟨c1.trans m1.symm, h1, h2, h3⟩
    · omega
  · rcases hm with ⟨m1, m2, m3⟩ | ⟨j, m1, m2, m3, m4, m5⟩
    · omega
    · have : k = j := gb_p3 c2 m2
      subst this
      have q94 : σ2.1 94 = upd (σ.1 94) k 1 := by
        rw [c5, gb_sus, c4.1 94 (by omega)]
      have qn : ∀ q, q ≠ 94 → σ2.1 q = s2.1 q := fun q hq => by rw [c5, gb_sun hq]
      refine ⟨c1.trans m1.symm, fun i hi => ?_, ?_, fun i hi => ?_⟩
      · rw [q94, m5]
        by_cases e : i = k
        · rw [e, pk_us, pk_us]
        · rw [pk_un e, pk_un e]
          exact h1 i hi
      · rw [qn 1 (by decide), c4.1 1 (by omega), m4.2 4 (by omega)]
        exact h2
      · rw [qn _ (by omega)]
        by_cases e : i = k
        · rw [e, c4.2.2.2.2.1, m4.1 4 (by omega)]
          exact h2
        · rw [c4.1 _ (by omega), m4.2 _ (by omega)]
          exact h3 i hi
theorem ia_again {σ σ2 : gb_S} {f f2 : gb_F} {w w2 : Int64} {p1 ra qa : Int32} (h : gb_ia σ f) (ec : cs_Face_again gb_N σ p1 = some (σ2, ra)) (em : ms_again gb_N f w p1 = some (f2, w2, qa)) : ra = qa ∧ gb_ia σ2 f2 := by
  obtain ⟨h1, h2, h3⟩ := h
  have hc := ch_again _ _ ec
  have hm := mh_again _ _ _ em
  rcases hc with ⟨c1, c2, c3⟩ | ⟨k, c1, c2, c3, c4, c5⟩
  · rcases hm with ⟨m1, m2, m3⟩ | ⟨j, m1, m2, m3, m4, m5, m6⟩
    · subst c2
      subst m2
      exact ⟨c1.trans m1.symm, h1, h2, h3⟩
    · rcases c3 with c3 | c3 | ⟨k, d1, d2, d3⟩
      · omega
      · omega
      · have : k = j := gb_p3 d1 m2
        subst this
        exact absurd ((h1 k d2).mp d3) m4
  · rcases hm with ⟨m1, m2, m3⟩ | ⟨j, m1, m2, m3, m4, m5, m6⟩
    · rcases m3 with m3 | m3 | ⟨j, d1, d2, d3⟩
      · omega
      · omega
      · have : k = j := gb_p3 c2 d1
        subst this
        exact absurd ((h1 k d2).mpr d3) c4
    · have : k = j := gb_p3 c2 m2
      subst this
      refine ⟨c1.trans m1.symm, fun i hi => ?_, ?_, fun i hi => ?_⟩
      · rw [c5.1 94 (by omega), m6]
        exact h1 i hi
      · rw [c5.2.2.2.2.1, m5.1 4 (by omega)]
        exact h3 k c3
      · rw [c5.1 _ (by omega), m5.2 _ (by omega)]
        exact h3 i hi
/-! TOKENS: runs of bytes, words, numbers; the reference's advance() -/
def gb_bl (T : Nat → Int32) (N i : Nat) : Prop := i < N ∧ (T i = 10 ∨ T i = 32)
def gb_lt1 (T : Nat → Int32) (N i : Nat) : Prop := i < N ∧ 97 ≤ (T i).toInt ∧ (T i).toInt ≤ 122
def gb_di (T : Nat → Int32) (N i : Nat) : Prop := i < N ∧ 48 ≤ (T i).toInt ∧ (T i).toInt ≤ 57
def gb_run (P : Nat → Prop) (p e : Nat) : Prop := p ≤ e ∧ (∀ i, p ≤ i → i < e → P i) ∧ ¬ P e
theorem run_uq {P : Nat → Prop} {p e e2 : Nat} (h : gb_run P p e) (g : gb_run P p e2) : e = e2 := by
  obtain ⟨h1, h2, h3⟩ := h
  obtain ⟨g1, g2, g3⟩ := g
  rcases Nat.lt_trichotomy e e2 with c | c | c
  · exact absurd (g2 e h1 c) h3
  · exact c
  · exact absurd (h2 e2 g1 c) g3
theorem run_0 {P : Nat → Prop} {p : Nat} (h : ¬ P p) : gb_run P p p := ⟨Nat.le_refl _, fun i a b => absurd b (by omega), h⟩
theorem run_s {P : Nat → Prop} {p e : Nat} (h : P p) (g : gb_run P (p + 1) e) : gb_run P p e := by
  obtain ⟨g1, g2, g3⟩ := g
  refine ⟨by omega, fun i a b => ?_, g3⟩
  by_cases q : i = p
  · rw [q]; exact h
  · exact g2 i (by omega) b
theorem run_t {P : Nat → Prop} {p : Nat} (h : P p) {e : Nat} (g : gb_run P p e) : gb_run P (p + 1) e := by
  obtain ⟨g1, g2, g3⟩ := g
  have : p ≠ e := fun q => g3 (q ▸ h)
  exact ⟨by omega, fun i a b => g2 i (by omega) b, g3⟩
theorem run_q {P : Nat → Prop} {p e : Nat} (g : gb_run P p e) : gb_run P e e := run_0 g.2.2
/-- the value of so many digits -/
def gb_val (T : Nat → Int32) (q : Nat) : Nat → Int
  | 0 => 0
  | k + 1 => 10 * gb_val T q k + (T (q + k)).toInt - 48
theorem val_b {T : Nat → Int32} {q : Nat} : ∀ k, (∀ i, i < k → 48 ≤ (T (q + i)).toInt ∧ (T (q + i)).toInt ≤ 57) → 0 ≤ gb_val T q k ∧ gb_val T q k < 10 ^ k := by
  intro k
  induction k with
  | zero =>
    intro _
    exact ⟨Int.le_refl _, Int.one_pos⟩
  | succ k ih =>
    intro h
    obtain ⟨a, b⟩ := ih (fun i hi => h i (by omega))
    obtain ⟨c, d⟩ := h k (by omega)
    have e : (10 : Int) ^ (k + 1) = 10 * 10 ^ k := by rw [Int.pow_succ, Int.mul_comm]
    have f : gb_val T q (k + 1) = 10 * gb_val T q k + (T (q + k)).toInt - 48 := rfl
    rw [e, f]
    omega
/-- words by five bits a letter -/
def gb_enc (D : Nat → Nat) : Nat → Nat
  | 0 => 0
  | k + 1 => 32 * gb_enc D k + D k
theorem enc_inj {D E : Nat → Nat} : ∀ k j, (∀ i, i < k → 1 ≤ D i ∧ D i < 32) → (∀ i, i < j → 1 ≤ E i ∧ E i < 32) → gb_enc D k = gb_enc E j → k = j ∧ ∀ i, i < k → D i = E i := by
  intro k
  induction k with
  | zero =>
    intro j _ hE h
    cases j with
    | zero => exact ⟨rfl, fun i hi => absurd hi (Nat.not_lt_zero _)⟩
    | succ j =>
      have := hE j (by omega)
      have e : gb_enc E (j + 1) = 32 * gb_enc E j + E j := rfl
      have z : gb_enc D 0 = 0 := rfl
      omega
  | succ k ih =>
    intro j hD hE h
    have d1 := hD k (by omega)
    have ed : gb_enc D (k + 1) = 32 * gb_enc D k + D k := rfl
    cases j with
    | zero =>
      have z : gb_enc E 0 = 0 := rfl
      omega
    | succ j =>
      have e1 := hE j (by omega)
      have ee : gb_enc E (j + 1) = 32 * gb_enc E j + E j := rfl
      have q1 : D k = E j := by omega
      have q2 : gb_enc D k = gb_enc E j := by omega
      obtain ⟨a, b⟩ := ih j (fun i hi => hD i (by omega)) (fun i hi => hE i (by omega)) q2
      refine ⟨by omega, fun i hi => ?_⟩
      by_cases c : i = k
      · rw [c, q1, a]
      · exact b i (by omega)
theorem enc_b {D : Nat → Nat} : ∀ k, (∀ i, i < k → D i < 32) → gb_enc D k < 32 ^ k := by
  intro k
  induction k with
  | zero =>
    intro _
    exact Nat.one_pos
  | succ k ih =>
    intro h
    have a := ih (fun i hi => h i (by omega))
    have b := h k (by omega)
    have e : (32 : Nat) ^ (k + 1) = 32 * 32 ^ k := by rw [Nat.pow_succ, Nat.mul_comm]
    have f : gb_enc D (k + 1) = 32 * gb_enc D k + D k := rfl
    rw [e, f]
    omega
def gb_wby (l i : Nat) : Int32 := (gb_sbyt.getD l []).getD i 0
def gb_isw (T : Nat → Int32) (q e l : Nat) : Prop := e = q + gb_ln l ∧ ∀ i, i < gb_ln l → T (q + i) = gb_wby l i
def gb_wc (l : Nat) : Int64 := ([525960, 7847525, 3120, 13682792, 66667, 277925, 3197529, 609322612, 591150, 6897268, 663607, 6648, 164968, 1130181, 2273783, 15492, 441972, 398548] : List Int64).getD l 0
def gb_dg (T : Nat → Int32) (q i : Nat) : Nat := (T (q + i)).toInt.toNat - 96
def gb_wdg (l i : Nat) : Nat := (gb_wby l i).toInt.toNat - 96
theorem gb_wtab : ∀ l : Fin 18, gb_enc (gb_wdg l.val) (gb_ln l.val) = (gb_wc l.val).toInt.toNat ∧ 0 ≤ (gb_wc l.val).toInt ∧ gb_ln l.val ≤ 6 := by decide +kernel
theorem gb_wtb2 : ∀ l : Fin 18, ∀ i : Fin 6, i.val < gb_ln l.val → 97 ≤ (gb_wby l.val i.val).toInt ∧ (gb_wby l.val i.val).toInt ≤ 122 := by decide +kernel
theorem gb_wtb3 : ∀ l m : Fin 18, gb_wc l.val = gb_wc m.val → l = m := by decide +kernel
theorem gb_wb {l i : Nat} (hl : l < 18) (hi : i < gb_ln l) : 97 ≤ (gb_wby l i).toInt ∧ (gb_wby l i).toInt ≤ 122 := by
  have := (gb_wtab ⟨l, hl⟩).2.2
  exact gb_wtb2 ⟨l, hl⟩ ⟨i, Nat.lt_of_lt_of_le hi this⟩ hi
theorem gb_wt1 {l : Nat} (hl : l < 18) : gb_enc (gb_wdg l) (gb_ln l) = (gb_wc l).toInt.toNat := (gb_wtab ⟨l, hl⟩).1
theorem gb_wt2 {l : Nat} (hl : l < 18) : 0 ≤ (gb_wc l).toInt := (gb_wtab ⟨l, hl⟩).2.1
theorem gb_wt3 {l : Nat} (hl : l < 18) : gb_ln l ≤ 6 := (gb_wtab ⟨l, hl⟩).2.2
theorem enc_cg {D E : Nat → Nat} : ∀ k, (∀ i, i < k → D i = E i) → gb_enc D k = gb_enc E k := by
  intro k
  induction k with
  | zero => intro _; rfl
  | succ k ih =>
    intro h
    have a := ih (fun i hi => h i (by omega))
    have b := h k (by omega)
    show 32 * gb_enc D k + D k = 32 * gb_enc E k + E k
    rw [a, b]
/-- a row of letters is the word that its number tells -/
theorem isw_mp {T : Nat → Int32} {q e l : Nat} (hl : l < 18) (h : gb_isw T q e l) : gb_enc (gb_dg T q) (e - q) = (gb_wc l).toInt.toNat := by
  obtain ⟨h1, h2⟩ := h
  have e1 : e - q = gb_ln l := by omega
  rw [e1, ← gb_wt1 hl]
  refine enc_cg _ (fun i hi => ?_)
  unfold gb_dg gb_wdg
  rw [h2 i hi]
theorem isw_mr {T : Nat → Int32} {q e l : Nat} (hl : l < 18) (hqe : q ≤ e) (hT : ∀ i, q ≤ i → i < e → 97 ≤ (T i).toInt ∧ (T i).toInt ≤ 122) (h : gb_enc (gb_dg T q) (e - q) = (gb_wc l).toInt.toNat) : gb_isw T q e l := by
  have h' : gb_enc (gb_dg T q) (e - q) = gb_enc (gb_wdg l) (gb_ln l) := h.trans (gb_wt1 hl).symm
  have d1 : ∀ i, i < e - q → 1 ≤ gb_dg T q i ∧ gb_dg T q i < 32 := fun i hi => by
    have := hT (q + i) (by omega) (by omega)
    unfold gb_dg
    omega
  have d2 : ∀ i, i < gb_ln l → 1 ≤ gb_wdg l i ∧ gb_wdg l i < 32 := fun i hi => by
    have := gb_wb hl hi
    unfold gb_wdg
    omega
  obtain ⟨h1, h2⟩ := enc_inj (e - q) (gb_ln l) d1 d2 h'
  refine ⟨by omega, fun i hi => ?_⟩
  have a := h2 i (by omega)
  have b := hT (q + i) (by omega) (by omega)
  have c := gb_wb hl hi
  unfold gb_dg gb_wdg at a
  exact gb_ieq (by omega)
theorem isw_iff {T : Nat → Int32} {q e l : Nat} (hl : l < 18) (hqe : q ≤ e) (hT : ∀ i, q ≤ i → i < e → 97 ≤ (T i).toInt ∧ (T i).toInt ≤ 122) : gb_isw T q e l ↔ gb_enc (gb_dg T q) (e - q) = (gb_wc l).toInt.toNat := ⟨isw_mp hl, isw_mr hl hqe hT⟩
theorem isw_uq {T : Nat → Int32} {q e l m : Nat} (hl : l < 18) (hm : m < 18) (h : gb_isw T q e l) (g : gb_isw T q e m) : l = m := by
  have hT : ∀ i, q ≤ i → i < e → 97 ≤ (T i).toInt ∧ (T i).toInt ≤ 122 := fun i a b => by
    have h1 := h.1
    have := h.2 (i - q) (by omega)
    rw [show q + (i - q) = i by omega] at this
    rw [this]
    exact gb_wb hl (by omega)
  have hqe : q ≤ e := by
    have := h.1
    omega
  have a := (isw_iff hl hqe hT).mp h
  have b := (isw_iff hm hqe hT).mp g
  have c1 := (gb_wtab ⟨l, hl⟩).2.1
  have c2 := (gb_wtab ⟨m, hm⟩).2.1
  have d : gb_wc l = gb_wc m := Int64.toInt_inj.mp (by
    have c1' : 0 ≤ (gb_wc l).toInt := c1
    have c2' : 0 ≤ (gb_wc m).toInt := c2
    omega)
  have := gb_wtb3 ⟨l, hl⟩ ⟨m, hm⟩ d
  exact Fin.mk.inj this
theorem lg_c0 {x y : Int64} (h : lg_cmp x y = 0) : x = y := by
  unfold lg_cmp at h
  by_cases a : x > y
  · rw [if_pos a] at h
    exact absurd h (by decide)
  · rw [if_neg a] at h
    by_cases b : x = y
    · exact b
    · rw [if_neg b] at h
      exact absurd h (by decide)
theorem lg_c1 {x y : Int64} (h : ¬ lg_cmp x y = 0) : ¬ x = y := fun e => h (by
  subst e
  unfold lg_cmp
  rw [if_neg (by exact fun q => absurd q Int64.lt_irrefl), if_pos rfl])
theorem mh_four {n : Nat} {f : gb_F} {w : Int64} {a b c d : Int32} {l : Nat} (h : (((((((a * 32) + b) * 32) + c) * 32) + d).toInt64) = gb_wc l) : gb_hm (ms_four n f w a b c d) (fun f2 w2 r => f2 = f ∧ w2 = w ∧ r = gb_wc l) := hm_some ⟨rfl, rfl, h⟩
theorem mh_eight {n : Nat} {f : gb_F} {w : Int64} {a b c d a2 b2 c2 d2 : Int32} {l : Nat} (h : ((((((((a * 32) + b) * 32) + c) * 32) + d).toInt64) * 1048576) + (((((((a2 * 32) + b2) * 32) + c2) * 32) + d2).toInt64) = gb_wc l) : gb_hm (ms_eight n f w a b c d a2 b2 c2 d2) (fun f2 w2 r => f2 = f ∧ w2 = w ∧ r = gb_wc l) := hm_some ⟨rfl, rfl, h⟩
theorem mh_wordOf {n : Nat} {f : gb_F} {w v : Int64} : gb_hm (ms_wordOf n f w v) (fun f2 w2 r => f2 = f ∧ w2 = w ∧ ((∃ l : Nat, l < 18 ∧ v = gb_wc l ∧ r.toInt = ((l + 1 : Nat) : Int) ∧ ¬ r = 99) ∨ ((∀ l, l < 18 → ¬ v = gb_wc l) ∧ r = 99))) := by
  unfold ms_wordOf
  refine hm_bd (mh_four (l := 0) (by decide +kernel)) (fun g0 u0 r h => ?_)
  obtain ⟨rfl, rfl, rfl⟩ := h
  refine hm_if (fun c => hm_some ⟨rfl, rfl, Or.inl ⟨0, by decide, lg_c0 c, by decide, by decide⟩⟩) (fun c0 => ?_)
  refine hm_bd (mh_eight (l := 1) (by decide +kernel)) (fun g1 u1 r h => ?_)
  obtain ⟨rfl, rfl, rfl⟩ := h
  refine hm_if (fun c => hm_some ⟨rfl, rfl, Or.inl ⟨1, by decide, lg_c0 c, by decide, by decide⟩⟩) (fun c1 => ?_)
  refine hm_bd (mh_four (l := 2) (by decide +kernel)) (fun g2 u2 r h => ?_)
  obtain ⟨rfl, rfl, rfl⟩ := h
  refine hm_if (fun c => hm_some ⟨rfl, rfl, Or.inl ⟨2, by decide, lg_c0 c, by decide, by decide⟩⟩) (fun c2 => ?_)
  refine hm_bd (mh_eight (l := 3) (by decide +kernel)) (fun g3 u3 r h => ?_)
  obtain ⟨rfl, rfl, rfl⟩ := h
  refine hm_if (fun c => hm_some ⟨rfl, rfl, Or.inl ⟨3, by decide, lg_c0 c, by decide, by decide⟩⟩) (fun c3 => ?_)
  refine hm_bd (mh_four (l := 4) (by decide +kernel)) (fun g4 u4 r h => ?_)
  obtain ⟨rfl, rfl, rfl⟩ := h
  refine hm_if (fun c => hm_some ⟨rfl, rfl, Or.inl ⟨4, by decide, lg_c0 c, by decide, by decide⟩⟩) (fun c4 => ?_)
  refine hm_bd (mh_four (l := 5) (by decide +kernel)) (fun g5 u5 r h => ?_)
  obtain ⟨rfl, rfl, rfl⟩ := h
  refine hm_if (fun c => hm_some ⟨rfl, rfl, Or.inl ⟨5, by decide, lg_c0 c, by decide, by decide⟩⟩) (fun c5 => ?_)
  refine hm_bd (mh_eight (l := 6) (by decide +kernel)) (fun g6 u6 r h => ?_)
  obtain ⟨rfl, rfl, rfl⟩ := h
  refine hm_if (fun c => hm_some ⟨rfl, rfl, Or.inl ⟨6, by decide, lg_c0 c, by decide, by decide⟩⟩) (fun c6 => ?_)
  refine hm_bd (mh_eight (l := 7) (by decide +kernel)) (fun g7 u7 r h => ?_)
  obtain ⟨rfl, rfl, rfl⟩ := h
  refine hm_if (fun c => hm_some ⟨rfl, rfl, Or.inl ⟨7, by decide, lg_c0 c, by decide, by decide⟩⟩) (fun c7 => ?_)
  refine hm_bd (mh_four (l := 8) (by decide +kernel)) (fun g8 u8 r h => ?_)
  obtain ⟨rfl, rfl, rfl⟩ := h
  refine hm_if (fun c => hm_some ⟨rfl, rfl, Or.inl ⟨8, by decide, lg_c0 c, by decide, by decide⟩⟩) (fun c8 => ?_)
  refine hm_bd (mh_eight (l := 9) (by decide +kernel)) (fun g9 u9 r h => ?_)
  obtain ⟨rfl, rfl, rfl⟩ := h
  refine hm_if (fun c => hm_some ⟨rfl, rfl, Or.inl ⟨9, by decide, lg_c0 c, by decide, by decide⟩⟩) (fun c9 => ?_)
  refine hm_bd (mh_four (l := 10) (by decide +kernel)) (fun g10 u10 r h => ?_)
  obtain ⟨rfl, rfl, rfl⟩ := h
  refine hm_if (fun c => hm_some ⟨rfl, rfl, Or.inl ⟨10, by decide, lg_c0 c, by decide, by decide⟩⟩) (fun c10 => ?_)
  refine hm_bd (mh_four (l := 11) (by decide +kernel)) (fun g11 u11 r h => ?_)
  obtain ⟨rfl, rfl, rfl⟩ := h
  refine hm_if (fun c => hm_some ⟨rfl, rfl, Or.inl ⟨11, by decide, lg_c0 c, by decide, by decide⟩⟩) (fun c11 => ?_)
  refine hm_bd (mh_four (l := 12) (by decide +kernel)) (fun g12 u12 r h => ?_)
  obtain ⟨rfl, rfl, rfl⟩ := h
  refine hm_if (fun c => hm_some ⟨rfl, rfl, Or.inl ⟨12, by decide, lg_c0 c, by decide, by decide⟩⟩) (fun c12 => ?_)
  refine hm_bd (mh_eight (l := 13) (by decide +kernel)) (fun g13 u13 r h => ?_)
  obtain ⟨rfl, rfl, rfl⟩ := h
  refine hm_if (fun c => hm_some ⟨rfl, rfl, Or.inl ⟨13, by decide, lg_c0 c, by decide, by decide⟩⟩) (fun c13 => ?_)
  refine hm_bd (mh_eight (l := 14) (by decide +kernel)) (fun g14 u14 r h => ?_)
  obtain ⟨rfl, rfl, rfl⟩ := h
  refine hm_if (fun c => hm_some ⟨rfl, rfl, Or.inl ⟨14, by decide, lg_c0 c, by decide, by decide⟩⟩) (fun c14 => ?_)
  refine hm_bd (mh_four (l := 15) (by decide +kernel)) (fun g15 u15 r h => ?_)
  obtain ⟨rfl, rfl, rfl⟩ := h
  refine hm_if (fun c => hm_some ⟨rfl, rfl, Or.inl ⟨15, by decide, lg_c0 c, by decide, by decide⟩⟩) (fun c15 => ?_)
  refine hm_bd (mh_four (l := 16) (by decide +kernel)) (fun g16 u16 r h => ?_)
  obtain ⟨rfl, rfl, rfl⟩ := h
  refine hm_if (fun c => hm_some ⟨rfl, rfl, Or.inl ⟨16, by decide, lg_c0 c, by decide, by decide⟩⟩) (fun c16 => ?_)
  refine hm_bd (mh_four (l := 17) (by decide +kernel)) (fun g17 u17 r h => ?_)
  obtain ⟨rfl, rfl, rfl⟩ := h
  refine hm_if (fun c => hm_some ⟨rfl, rfl, Or.inl ⟨17, by decide, lg_c0 c, by decide, by decide⟩⟩) (fun c17 => ?_)
  refine hm_some ⟨rfl, rfl, Or.inr ⟨fun l hl => ?_, rfl⟩⟩
  match l, hl with
  | 0, _ => exact lg_c1 c0
  | 1, _ => exact lg_c1 c1
  | 2, _ => exact lg_c1 c2
  | 3, _ => exact lg_c1 c3
  | 4, _ => exact lg_c1 c4
  | 5, _ => exact lg_c1 c5
  | 6, _ => exact lg_c1 c6
  | 7, _ => exact lg_c1 c7
  | 8, _ => exact lg_c1 c8
  | 9, _ => exact lg_c1 c9
  | 10, _ => exact lg_c1 c10
  | 11, _ => exact lg_c1 c11
  | 12, _ => exact lg_c1 c12
  | 13, _ => exact lg_c1 c13
  | 14, _ => exact lg_c1 c14
  | 15, _ => exact lg_c1 c15
  | 16, _ => exact lg_c1 c16
  | 17, _ => exact lg_c1 c17
  | l + 18, hl => exact absurd hl (by omega)
/-! the reference's lexer: the tape as T, its length as N -/
def gb_cx (T : Nat → Int32) (N : Nat) (f : gb_F) : Prop := (f 0 2).toInt = N ∧ N ≤ 600 ∧ (∀ i, i < N → f 1 (10 + i) = T i) ∧ ∀ i, i < N → 0 ≤ (T i).toInt
def gb_vf (f f2 : gb_F) : Prop := f2 1 = f 1 ∧ f2 2 = f 2 ∧ f2 3 = f 3 ∧ f2 0 8 = f 0 8 ∧ f2 0 9 = f 0 9 ∧ f2 0 2 = f 0 2
theorem vf_t {f g h : gb_F} (a : gb_vf f g) (b : gb_vf g h) : gb_vf f h := ⟨b.1.trans a.1, b.2.1.trans a.2.1, b.2.2.1.trans a.2.2.1, b.2.2.2.1.trans a.2.2.2.1, b.2.2.2.2.1.trans a.2.2.2.2.1, b.2.2.2.2.2.trans a.2.2.2.2.2⟩
theorem vf_r {f : gb_F} : gb_vf f f := ⟨rfl, rfl, rfl, rfl, rfl, rfl⟩
theorem vf_u {f : gb_F} {j : Nat} {v : Int32} (h : j ≠ 8 ∧ j ≠ 9 ∧ j ≠ 2) : gb_vf f (gb_u f 0 (upd (f 0) j v)) := ⟨gb_un (by decide), gb_un (by decide), gb_un (by decide), by rw [gb_us, pk_un (Ne.symm h.1)], by rw [gb_us, pk_un (Ne.symm h.2.1)], by rw [gb_us, pk_un (Ne.symm h.2.2)]⟩
theorem cx_v {T : Nat → Int32} {N : Nat} {f f2 : gb_F} (h : gb_cx T N f) (g : gb_vf f f2) : gb_cx T N f2 := by
  obtain ⟨h1, h2, h3, h4⟩ := h
  refine ⟨by rw [g.2.2.2.2.2]; exact h1, h2, fun i hi => by rw [g.1]; exact h3 i hi, h4⟩
theorem mh_byte {n : Nat} {T : Nat → Int32} {N : Nat} {f : gb_F} {w : Int64} {p : Int32} {i : Nat} (h : gb_cx T N f) (e : p.toInt = i) : gb_hm (ms_byteAt n f w p) (fun f2 w2 r => f2 = f ∧ w2 = w ∧ (i < N ∧ r = T i ∨ N ≤ i ∧ r = -1)) := by
  unfold ms_byteAt
  obtain ⟨h1, h2, h3, h4⟩ := h
  have c10 : (10 : Int32).toInt = 10 := by decide
  refine hm_if (fun c => hm_some ⟨rfl, rfl, Or.inr ⟨by have := gi_le c; omega, rfl⟩⟩) (fun c => hm_ck (fun _ _ => hm_lt (fun x ex => hm_some ⟨rfl, rfl, Or.inl ⟨by have := gi_nle c; omega, ?_⟩⟩)))
  have hi : i < N := by
    have := gi_nle c
    omega
  have ep : (10 + p).toInt = ((10 + i : Nat) : Int) := by
    rw [gb_tadd (by omega) (by omega), c10, e]
    omega
  rw [ex, gi_tn ep]
  exact h3 i hi
theorem mh_isLetter {n : Nat} {f : gb_F} {w : Int64} {p : Int32} : gb_hm (ms_isLetter n f w p) (fun f2 w2 r => f2 = f ∧ w2 = w ∧ (r = 1 ∧ 97 ≤ p.toInt ∧ p.toInt ≤ 122 ∨ r = 0 ∧ ¬ (97 ≤ p.toInt ∧ p.toInt ≤ 122))) := hm_mono (hm_of mt_isLetterE) (fun f2 w2 r h => ⟨h.1, h.2.1, by
  rcases h.2.2 with q | q
  · exact Or.inl ⟨q.2, q.1.1, q.1.2⟩
  · exact Or.inr ⟨q.2, fun z => q.1 ⟨z.1, z.2⟩⟩⟩)
theorem mh_isDigit {n : Nat} {f : gb_F} {w : Int64} {p : Int32} : gb_hm (ms_isDigit n f w p) (fun f2 w2 r => f2 = f ∧ w2 = w ∧ (r = 1 ∧ 48 ≤ p.toInt ∧ p.toInt ≤ 57 ∨ r = 0 ∧ ¬ (48 ≤ p.toInt ∧ p.toInt ≤ 57))) := hm_mono (hm_of mt_isDigitE) (fun f2 w2 r h => ⟨h.1, h.2.1, by
  rcases h.2.2 with q | q
  · exact Or.inl ⟨q.2, q.1.1, q.1.2⟩
  · exact Or.inr ⟨q.2, fun z => q.1 ⟨z.1, z.2⟩⟩⟩)
/-- the token that begins at q is told by the fields -/
def gb_tk (T : Nat → Int32) (N : Nat) (f : gb_F) (q : Nat) : Prop := (f 0 4).toInt = q ∧ q ≤ N ∧ ¬ gb_bl T N q ∧
  ((q = N ∧ f 0 5 = 0) ∨
   (∃ e, gb_run (gb_lt1 T N) q e ∧ q < e ∧ (f 0 3).toInt = e ∧ ((∃ l : Nat, l < 18 ∧ gb_isw T q e l ∧ f 0 5 = 3 ∧ (f 0 7).toInt = ((l + 1 : Nat) : Int)) ∨ ((∀ l, l < 18 → ¬ gb_isw T q e l) ∧ f 0 5 = 4))) ∨
   (∃ e, gb_run (gb_di T N) q e ∧ q < e ∧ (f 0 3).toInt = e ∧ ((3 < e - q ∧ f 0 5 = 4) ∨ (e - q ≤ 3 ∧ f 0 5 = 1 ∧ (f 0 6).toInt = gb_val T q (e - q)))) ∨
   (q < N ∧ ¬ gb_lt1 T N q ∧ ¬ gb_di T N q ∧ (f 0 3).toInt = ((q + 1 : Nat) : Int) ∧ ((T q = 59 ∧ f 0 5 = 2) ∨ (¬ T q = 59 ∧ f 0 5 = 4))))
set_option maxHeartbeats 2000000 in
theorem mh_adv198 {n : Nat} {T : Nat → Int32} {N q : Nat} (hq : q < N) (hb : ¬ gb_bl T N q) (hd : gb_di T N q) : ∀ (mm : Nat) (f : gb_F) (w : Int64) (p : Nat), gb_cx T N f → (f 0 4).toInt = q → (f 0 3).toInt = p → q ≤ p → p ≤ N → (∀ i, q ≤ i → i < p → gb_di T N i) → (p - q ≤ 3 → (f 0 6).toInt = gb_val T q (p - q)) → gb_hm (ms_advance_198 n mm f w) (fun f2 _ _ => gb_vf f f2 ∧ gb_tk T N f2 q) := by
  intro mm
  induction mm with
  | zero =>
    intros
    exact hm_none
  | succ mm ih =>
    intro f w p hx h4 h3 hqp hpN hD hv
    rw [ms_advance_198]
    have c3 : (3 : Int32).toInt = 3 := by decide
    have c10 : (10 : Int32).toInt = 10 := by decide
    have c48 : (48 : Int32).toInt = 48 := by decide
    have hN := hx.2.1
    refine hm_bd (mh_byte hx h3) (fun f1 w1 r h => ?_)
    obtain ⟨rfl, rfl, hr⟩ := h
    refine hm_bd mh_isDigit (fun f2 w2 r2 h => ?_)
    obtain ⟨rfl, rfl, hr2⟩ := h
    have hsub : ((f2 0 3) - (f2 0 4)).toInt = ((p - q : Nat) : Int) := by
      rw [gb_tsub (by omega) (by omega), h3, h4]
      omega
    refine hm_if (fun c => ?_) (fun c => ?_)
    · have hnd : ¬ gb_di T N p := fun z => by
        rcases hr2 with y | y
        · rw [c] at y
          exact absurd y.1 (by decide)
        · rcases hr with x | x
          · rw [x.2] at y
            exact y.2 ⟨z.2.1, z.2.2⟩
          · have := z.1
            omega
      have hrun : gb_run (gb_di T N) q p := ⟨hqp, hD, hnd⟩
      have hlt : q < p := by
        rcases Nat.lt_or_ge q p with z | z
        · exact z
        · have : q = p := by omega
          exact absurd (this ▸ hd) hnd
      refine hm_if (fun d => hm_lt (fun g eg => hm_some ?_)) (fun d => hm_lt (fun g eg => hm_some ?_))
      · have := gi_le d
        have g0 : ∀ j, j ≠ 5 → g 0 j = f2 0 j := fun j hj => by rw [eg, gb_us, pk_un hj]
        refine ⟨by rw [eg]; exact vf_u (by decide), by rw [g0 4 (by decide)]; exact h4, Nat.le_of_lt hq, hb, Or.inr (Or.inr (Or.inl ⟨p, hrun, hlt, by rw [g0 3 (by decide)]; exact h3, Or.inr ⟨by omega, by rw [eg, gb_us, pk_us], ?_⟩⟩))⟩
        rw [g0 6 (by decide)]
        exact hv (by omega)
      · have := gi_nle d
        have g0 : ∀ j, j ≠ 5 → g 0 j = f2 0 j := fun j hj => by rw [eg, gb_us, pk_un hj]
        exact ⟨by rw [eg]; exact vf_u (by decide), by rw [g0 4 (by decide)]; exact h4, Nat.le_of_lt hq, hb, Or.inr (Or.inr (Or.inl ⟨p, hrun, hlt, by rw [g0 3 (by decide)]; exact h3, Or.inl ⟨by omega, by rw [eg, gb_us, pk_us]⟩⟩))⟩
    · have hdp : gb_di T N p := by
        rcases hr2 with y | y
        · rcases hr with x | x
          · rw [x.2] at y
            exact ⟨x.1, y.2⟩
          · rw [x.2] at y
            exact absurd y.2.1 (by decide)
        · exact absurd y.1 c
      have hpl := hdp.1
      have hD2 : ∀ i, q ≤ i → i < p + 1 → gb_di T N i := fun i a b => by
        by_cases z : i = p
        · rw [z]; exact hdp
        · exact hD i a (by omega)
      have inc : (f2 0 3 + 1).toInt = ((p + 1 : Nat) : Int) := gi_s1 h3 (by omega)
      refine hm_if (fun d => hm_lt (fun g eg => ?_)) (fun d => ?_)
      · have := gi_le d
        have g0 : ∀ j, j ≠ 3 → g 0 j = f2 0 j := fun j hj => by rw [eg, gb_us, pk_un hj]
        have vg : gb_vf f2 g := by rw [eg]; exact vf_u (by decide)
        refine hm_mono (ih g _ (p + 1) (cx_v hx vg) (by rw [g0 4 (by decide)]; exact h4) (by rw [eg, gb_us, pk_us]; exact inc) (by omega) (by omega) hD2 (fun z => absurd z (by omega))) (fun _ _ _ h => ⟨vf_t vg h.1, h.2⟩)
      · have hlt3 := gi_nle d
        refine hm_bd (mh_byte hx h3) (fun f3 w3 r3 h => ?_)
        obtain ⟨rfl, rfl, hr3⟩ := h
        have er3 : r3 = T p := by
          rcases hr3 with z | z
          · exact z.2
          · omega
        refine hm_lt (fun g eg => hm_lt (fun g2 eg2 => ?_))
        have vg : gb_vf f3 g := by rw [eg]; exact vf_u (by decide)
        have vg2 : gb_vf g g2 := by rw [eg2]; exact vf_u (by decide)
        have a1 : g2 0 4 = f3 0 4 := by rw [eg2, gb_us, pk_un (by decide), eg, gb_us, pk_un (by decide)]
        have a2 : g2 0 3 = f3 0 3 + 1 := by rw [eg2, gb_us, pk_us, eg, gb_us, pk_un (by decide)]
        have a3 : g2 0 6 = 10 * (f3 0 6) + r3 - 48 := by rw [eg2, gb_us, pk_un (by decide), eg, gb_us, pk_us]
        refine hm_mono (ih g2 _ (p + 1) (cx_v hx (vf_t vg vg2)) (by rw [a1]; exact h4) (by rw [a2]; exact inc) (by omega) (by omega) hD2 (fun z => ?_)) (fun _ _ _ h => ⟨vf_t (vf_t vg vg2) h.1, h.2⟩)
        have hv2 := hv (by omega)
        have bd := val_b (T := T) (q := q) (p - q) (fun i hi => (hD (q + i) (by omega) (by omega)).2)
        have p3 : (10 : Int) ^ (p - q) ≤ 100 := by
          have : p - q = 0 ∨ p - q = 1 ∨ p - q = 2 := by omega
          rcases this with z | z | z <;> (rw [z]; decide)
        have tp := hdp.2
        have e1 : p + 1 - q = (p - q) + 1 := by omega
        have e2 : q + (p - q) = p := by omega
        have m1 : (10 * (f3 0 6)).toInt = 10 * gb_val T q (p - q) := by
          rw [gb_tmul (by rw [c10, hv2]; omega) (by rw [c10, hv2]; omega), c10, hv2]
        have m2 : (10 * (f3 0 6) + r3).toInt = 10 * gb_val T q (p - q) + (T p).toInt := by
          rw [gb_tadd (by rw [m1, er3]; omega) (by rw [m1, er3]; omega), m1, er3]
        have m3 : (10 * (f3 0 6) + r3 - 48).toInt = 10 * gb_val T q (p - q) + (T p).toInt - 48 := by
          rw [gb_tsub (by rw [m2, c48]; omega) (by rw [m2, c48]; omega), m2, c48]
        rw [a3, m3, e1]
        show _ = 10 * gb_val T q (p - q) + (T (q + (p - q))).toInt - 48
        rw [e2]
theorem gi_64 {z : Int} (h1 : 0 ≤ z) (h2 : z < 9000000000000000000) : z.bmod (2 ^ 64) = z := by
  show z.bmod 18446744073709551616 = z
  exact Int.bmod_eq_of_le (by omega) (by omega)
set_option maxHeartbeats 2000000 in
theorem mh_adv77 {n : Nat} {T : Nat → Int32} {N q : Nat} (hq : q < N) (hb : ¬ gb_bl T N q) (hd : gb_lt1 T N q) : ∀ (mm : Nat) (f : gb_F) (w v : Int64) (p : Nat), gb_cx T N f → (f 0 4).toInt = q → (f 0 3).toInt = p → q ≤ p → p ≤ N → (∀ i, q ≤ i → i < p → gb_lt1 T N i) → (p - q ≤ 8 → v.toInt = (gb_enc (gb_dg T q) (p - q) : Nat)) → gb_hm (ms_advance_77 n mm f w v) (fun f2 _ _ => gb_vf f f2 ∧ gb_tk T N f2 q) := by
  intro mm
  induction mm with
  | zero =>
    intros
    exact hm_none
  | succ mm ih =>
    intro f w v p hx h4 h3 hqp hpN hD hv
    rw [ms_advance_77]
    have c8 : (8 : Int32).toInt = 8 := by decide
    have c32 : (32 : Int64).toInt = 32 := by decide
    have c96 : (96 : Int64).toInt = 96 := by decide
    have hN := hx.2.1
    refine hm_bd (mh_byte hx h3) (fun f1 w1 r h => ?_)
    obtain ⟨rfl, rfl, hr⟩ := h
    refine hm_bd mh_isLetter (fun f2 w2 r2 h => ?_)
    obtain ⟨rfl, rfl, hr2⟩ := h
    have hsub : ((f2 0 3) - (f2 0 4)).toInt = ((p - q : Nat) : Int) := by
      rw [gb_tsub (by omega) (by omega), h3, h4]
      omega
    refine hm_if (fun c => ?_) (fun c => ?_)
    · have hnd : ¬ gb_lt1 T N p := fun z => by
        rcases hr2 with y | y
        · rw [c] at y
          exact absurd y.1 (by decide)
        · rcases hr with x | x
          · rw [x.2] at y
            exact y.2 ⟨z.2.1, z.2.2⟩
          · have := z.1
            omega
      have hrun : gb_run (gb_lt1 T N) q p := ⟨hqp, hD, hnd⟩
      have hlt : q < p := by
        rcases Nat.lt_or_ge q p with z | z
        · exact z
        · have : q = p := by omega
          exact absurd (this ▸ hd) hnd
      have hlet : ∀ i, q ≤ i → i < p → 97 ≤ (T i).toInt ∧ (T i).toInt ≤ 122 := fun i a b => (hD i a b).2
      refine hm_if (fun d => ?_) (fun d => ?_)
      · have hle := gi_le d
        have hv2 := hv (by omega)
        refine hm_bd mh_wordOf (fun f3 w3 r3 h => ?_)
        obtain ⟨rfl, rfl, h3w⟩ := h
        refine hm_lt (fun g eg => ?_)
        have vg : gb_vf f3 g := by rw [eg]; exact vf_u (by decide)
        have g7 : g 0 7 = r3 := by rw [eg, gb_us, pk_us]
        have g0 : ∀ j, j ≠ 7 → g 0 j = f3 0 j := fun j hj => by rw [eg, gb_us, pk_un hj]
        refine hm_if (fun z => hm_lt (fun k ek => hm_some ?_)) (fun z => hm_lt (fun k ek => hm_some ?_))
        · have k0 : ∀ j, j ≠ 5 → k 0 j = g 0 j := fun j hj => by rw [ek, gb_us, pk_un hj]
          refine ⟨vf_t vg (by rw [ek]; exact vf_u (by decide)), by rw [k0 4 (by decide), g0 4 (by decide)]; exact h4, Nat.le_of_lt hq, hb, Or.inr (Or.inl ⟨p, hrun, hlt, by rw [k0 3 (by decide), g0 3 (by decide)]; exact h3, Or.inr ⟨fun l hl hi => ?_, by rw [ek, gb_us, pk_us]⟩⟩)⟩
          rw [g7] at z
          rcases h3w with y | y
          · obtain ⟨l2, -, -, -, y4⟩ := y
            exact y4 z
          · have a := (isw_iff hl hqp hlet).mp hi
            have b := (gb_wtab ⟨l, hl⟩).2.1
            have b' : 0 ≤ (gb_wc l).toInt := b
            exact y.1 l hl (Int64.toInt_inj.mp (by rw [hv2, a]; omega))
        · have k0 : ∀ j, j ≠ 5 → k 0 j = g 0 j := fun j hj => by rw [ek, gb_us, pk_un hj]
          rw [g7] at z
          rcases h3w with y | y
          · obtain ⟨l, hl, y2, y3, -⟩ := y
            refine ⟨vf_t vg (by rw [ek]; exact vf_u (by decide)), by rw [k0 4 (by decide), g0 4 (by decide)]; exact h4, Nat.le_of_lt hq, hb, Or.inr (Or.inl ⟨p, hrun, hlt, by rw [k0 3 (by decide), g0 3 (by decide)]; exact h3, Or.inl ⟨l, hl, ?_, by rw [ek, gb_us, pk_us], by rw [k0 7 (by decide), g7]; exact y3⟩⟩)⟩
            refine (isw_iff hl hqp hlet).mpr ?_
            rw [y2] at hv2
            omega
          · exact absurd y.2 z
      · have hgt := gi_nle d
        refine hm_lt (fun g eg => ?_)
        have vg : gb_vf f2 g := by rw [eg]; exact vf_u (by decide)
        have g7 : g 0 7 = 99 := by rw [eg, gb_us, pk_us]
        have g0 : ∀ j, j ≠ 7 → g 0 j = f2 0 j := fun j hj => by rw [eg, gb_us, pk_un hj]
        refine hm_if (fun z => hm_lt (fun k ek => hm_some ?_)) (fun z => absurd g7 z)
        have k0 : ∀ j, j ≠ 5 → k 0 j = g 0 j := fun j hj => by rw [ek, gb_us, pk_un hj]
        refine ⟨vf_t vg (by rw [ek]; exact vf_u (by decide)), by rw [k0 4 (by decide), g0 4 (by decide)]; exact h4, Nat.le_of_lt hq, hb, Or.inr (Or.inl ⟨p, hrun, hlt, by rw [k0 3 (by decide), g0 3 (by decide)]; exact h3, Or.inr ⟨fun l hl hi => ?_, by rw [ek, gb_us, pk_us]⟩⟩)⟩
        have a := hi.1
        have b : gb_ln l ≤ 6 := (gb_wtab ⟨l, hl⟩).2.2
        omega
    · have hdp : gb_lt1 T N p := by
        rcases hr2 with y | y
        · rcases hr with x | x
          · rw [x.2] at y
            exact ⟨x.1, y.2⟩
          · rw [x.2] at y
            exact absurd y.2.1 (by decide)
        · exact absurd y.1 c
      have hpl := hdp.1
      have hD2 : ∀ i, q ≤ i → i < p + 1 → gb_lt1 T N i := fun i a b => by
        by_cases z : i = p
        · rw [z]; exact hdp
        · exact hD i a (by omega)
      have inc : (f2 0 3 + 1).toInt = ((p + 1 : Nat) : Int) := gi_s1 h3 (by omega)
      refine hm_if (fun d => hm_lt (fun g eg => ?_)) (fun d => ?_)
      · have := gi_le d
        have g0 : ∀ j, j ≠ 3 → g 0 j = f2 0 j := fun j hj => by rw [eg, gb_us, pk_un hj]
        have vg : gb_vf f2 g := by rw [eg]; exact vf_u (by decide)
        refine hm_mono (ih g _ v (p + 1) (cx_v hx vg) (by rw [g0 4 (by decide)]; exact h4) (by rw [eg, gb_us, pk_us]; exact inc) (by omega) (by omega) hD2 (fun z => absurd z (by omega))) (fun _ _ _ h => ⟨vf_t vg h.1, h.2⟩)
      · have hlt8 := gi_nle d
        refine hm_bd (mh_byte hx h3) (fun f3 w3 r3 h => ?_)
        obtain ⟨rfl, rfl, hr3⟩ := h
        have er3 : r3 = T p := by
          rcases hr3 with z | z
          · exact z.2
          · omega
        refine hm_lt (fun x ex => hm_lt (fun g eg => ?_))
        have g0 : ∀ j, j ≠ 3 → g 0 j = f3 0 j := fun j hj => by rw [eg, gb_us, pk_un hj]
        have vg : gb_vf f3 g := by rw [eg]; exact vf_u (by decide)
        refine hm_mono (ih g _ x (p + 1) (cx_v hx vg) (by rw [g0 4 (by decide)]; exact h4) (by rw [eg, gb_us, pk_us]; exact inc) (by omega) (by omega) hD2 (fun z => ?_)) (fun _ _ _ h => ⟨vf_t vg h.1, h.2⟩)
        have hv2 := hv (by omega)
        have bd := enc_b (D := gb_dg T q) (p - q) (fun i hi => by
          have := (hD (q + i) (by omega) (by omega)).2
          unfold gb_dg
          omega)
        have p8 : (32 : Nat) ^ (p - q) ≤ 32 ^ 8 := Nat.pow_le_pow_right (by decide) (by omega)
        have p9 : (32 : Nat) ^ 8 = 1099511627776 := by decide
        have tp := hdp.2
        have e1 : p + 1 - q = (p - q) + 1 := by omega
        have e2 : q + (p - q) = p := by omega
        have m1 : (32 * v).toInt = 32 * (gb_enc (gb_dg T q) (p - q) : Nat) := by
          rw [Int64.toInt_mul, c32, hv2, gi_64 (by omega) (by omega)]
        have m2 : (32 * v + r3.toInt64).toInt = 32 * (gb_enc (gb_dg T q) (p - q) : Nat) + (T p).toInt := by
          rw [Int64.toInt_add, m1, Int32.toInt_toInt64, er3, gi_64 (by omega) (by omega)]
        have m3 : (32 * v + r3.toInt64 - 96).toInt = 32 * (gb_enc (gb_dg T q) (p - q) : Nat) + (T p).toInt - 96 := by
          rw [Int64.toInt_sub, m2, c96, gi_64 (by omega) (by omega)]
        have e3 : gb_enc (gb_dg T q) (p + 1 - q) = 32 * gb_enc (gb_dg T q) (p - q) + gb_dg T q (p - q) := by
          rw [e1]
          rfl
        have e4 : gb_dg T q (p - q) = (T p).toInt.toNat - 96 := by
          unfold gb_dg
          rw [e2]
        rw [ex, m3, e3, e4]
        omega
/-- a token, its first byte found -/
theorem mh_tok {n : Nat} {T : Nat → Int32} {N q : Nat} {f : gb_F} {w : Int64} (hx : gb_cx T N f) (h3 : (f 0 3).toInt = q) (hqN : q ≤ N) (hb : ¬ gb_bl T N q) : gb_hm (gb_lt (gb_u f 0 (upd (f 0) 4 (f 0 3))) (fun f_21 => gb_bd (ms_byteAt n f_21 w (f_21 0 3)) (fun f_22 wl_23 r_24 => (if (0 : Int32) ≤ r_24 then gb_bd (ms_isLetter n f_22 wl_23 r_24) (fun f_28 wl_29 r_30 => (if r_30 = 0 then gb_bd (ms_isDigit n f_28 wl_29 r_24) (fun f_34 wl_35 r_36 => (if r_36 = 0 then gb_lt (gb_u f_34 0 (upd (f_34 0) 3 ((f_34 0 3) + 1))) (fun f_40 => (if r_24 = 59 then gb_lt (gb_u f_40 0 (upd (f_40 0) 5 2)) (fun f_43 => some (f_43, wl_35, ())) else gb_lt (gb_u f_40 0 (upd (f_40 0) 5 4)) (fun f_42 => some (f_42, wl_35, ())))) else gb_lt (gb_u f_34 0 (upd (f_34 0) 6 0)) (fun f_44 => ms_advance_198 n n f_44 wl_35))) else ms_advance_77 n n f_28 wl_29 0)) else gb_lt (gb_u f_22 0 (upd (f_22 0) 5 0)) (fun f_102 => some (f_102, wl_23, ())))))) (fun f2 _ _ => gb_vf f f2 ∧ gb_tk T N f2 q) := by
  have c0 : (0 : Int32).toInt = 0 := by decide
  have cm1 : (-1 : Int32).toInt = -1 := by decide
  have hN := hx.2.1
  refine hm_lt (fun g eg => ?_)
  have vg : gb_vf f g := by rw [eg]; exact vf_u (by decide)
  have g3 : (g 0 3).toInt = q := by rw [eg, gb_us, pk_un (by decide)]; exact h3
  have g4 : (g 0 4).toInt = q := by rw [eg, gb_us, pk_us]; exact h3
  have hxg := cx_v hx vg
  refine hm_bd (mh_byte hxg g3) (fun f1 w1 r h => ?_)
  obtain ⟨rfl, rfl, hr⟩ := h
  refine hm_if (fun c => ?_) (fun c => hm_lt (fun k ek => hm_some ?_))
  · have c1 := gi_le c
    have hqN2 : q < N ∧ r = T q := by
      rcases hr with z | z
      · exact z
      · rw [z.2] at c1
        omega
    obtain ⟨hq, er⟩ := hqN2
    refine hm_bd mh_isLetter (fun f2 w2 r2 h => ?_)
    obtain ⟨rfl, rfl, h2⟩ := h
    refine hm_if (fun d => ?_) (fun d => ?_)
    · have nl : ¬ gb_lt1 T N q := fun z => by
        rcases h2 with y | y
        · rw [d] at y
          exact absurd y.1 (by decide)
        · rw [er] at y
          exact y.2 z.2
      refine hm_bd mh_isDigit (fun f3 w3 r3 h => ?_)
      obtain ⟨rfl, rfl, h3d⟩ := h
      refine hm_if (fun e => ?_) (fun e => ?_)
      · have nd : ¬ gb_di T N q := fun z => by
          rcases h3d with y | y
          · rw [e] at y
            exact absurd y.1 (by decide)
          · rw [er] at y
            exact y.2 z.2
        refine hm_lt (fun k ek => ?_)
        have vk : gb_vf f3 k := by rw [ek]; exact vf_u (by decide)
        have k3 : (k 0 3).toInt = ((q + 1 : Nat) : Int) := by rw [ek, gb_us, pk_us]; exact gi_s1 g3 (by omega)
        have k4 : (k 0 4).toInt = q := by rw [ek, gb_us, pk_un (by decide)]; exact g4
        refine hm_if (fun s => hm_lt (fun m em => hm_some ?_)) (fun s => hm_lt (fun m em => hm_some ?_))
        · have m0 : ∀ j, j ≠ 5 → m 0 j = k 0 j := fun j hj => by rw [em, gb_us, pk_un hj]
          exact ⟨vf_t (vf_t vg vk) (by rw [em]; exact vf_u (by decide)), by rw [m0 4 (by decide)]; exact k4, hqN, hb, Or.inr (Or.inr (Or.inr ⟨hq, nl, nd, by rw [m0 3 (by decide)]; exact k3, Or.inl ⟨by rw [← er]; exact s, by rw [em, gb_us, pk_us]⟩⟩))⟩
        · have m0 : ∀ j, j ≠ 5 → m 0 j = k 0 j := fun j hj => by rw [em, gb_us, pk_un hj]
          exact ⟨vf_t (vf_t vg vk) (by rw [em]; exact vf_u (by decide)), by rw [m0 4 (by decide)]; exact k4, hqN, hb, Or.inr (Or.inr (Or.inr ⟨hq, nl, nd, by rw [m0 3 (by decide)]; exact k3, Or.inr ⟨by rw [← er]; exact s, by rw [em, gb_us, pk_us]⟩⟩))⟩
      · have hd : gb_di T N q := by
          rcases h3d with y | y
          · rw [er] at y
            exact ⟨hq, y.2⟩
          · exact absurd y.1 e
        refine hm_lt (fun k ek => ?_)
        have vk : gb_vf f3 k := by rw [ek]; exact vf_u (by decide)
        have k0 : ∀ j, j ≠ 6 → k 0 j = f3 0 j := fun j hj => by rw [ek, gb_us, pk_un hj]
        refine hm_mono (mh_adv198 hq hb hd n k _ q (cx_v hxg vk) (by rw [k0 4 (by decide)]; exact g4) (by rw [k0 3 (by decide)]; exact g3) (Nat.le_refl _) (by omega) (fun i a b => absurd b (by omega)) (fun _ => ?_)) (fun _ _ _ h => ⟨vf_t (vf_t vg vk) h.1, h.2⟩)
        rw [ek, gb_us, pk_us, Nat.sub_self]
        rfl
    · have hl : gb_lt1 T N q := by
        rcases h2 with y | y
        · rw [er] at y
          exact ⟨hq, y.2⟩
        · exact absurd y.1 d
      refine hm_mono (mh_adv77 hq hb hl n f2 _ 0 q hxg g4 g3 (Nat.le_refl _) (by omega) (fun i a b => absurd b (by omega)) (fun _ => ?_)) (fun _ _ _ h => ⟨vf_t vg h.1, h.2⟩)
      rw [Nat.sub_self]
      rfl
  · have c1 := gi_nle c
    have hq : q = N := by
      rcases hr with z | z
      · have := hx.2.2.2 q z.1
        rw [z.2] at c1
        omega
      · omega
    have k0 : ∀ j, j ≠ 5 → k 0 j = f1 0 j := fun j hj => by rw [ek, gb_us, pk_un hj]
    exact ⟨vf_t vg (by rw [ek]; exact vf_u (by decide)), by rw [k0 4 (by decide)]; exact g4, hqN, hb, Or.inl ⟨hq, by rw [ek, gb_us, pk_us]⟩⟩
theorem mh_adv0 {n : Nat} {T : Nat → Int32} {N : Nat} : ∀ (mm : Nat) (f : gb_F) (w : Int64) (p : Nat), gb_cx T N f → (f 0 3).toInt = p → p ≤ N → gb_hm (ms_advance_0 n mm f w) (fun f2 _ _ => gb_vf f f2 ∧ ∃ q, gb_run (gb_bl T N) p q ∧ gb_tk T N f2 q) := by
  intro mm
  induction mm with
  | zero =>
    intros
    exact hm_none
  | succ mm ih =>
    intro f w p hx h3 hp
    rw [ms_advance_0]
    have hN := hx.2.1
    have step : ∀ (g : gb_F) (w2 : Int64), gb_bl T N p → g = gb_u f 0 (upd (f 0) 3 ((f 0 3) + 1)) → gb_hm (ms_advance_0 n mm g w2) (fun f2 _ _ => gb_vf f f2 ∧ ∃ q, gb_run (gb_bl T N) p q ∧ gb_tk T N f2 q) := fun g w2 hb eg => by
      have vg : gb_vf f g := by rw [eg]; exact vf_u (by decide)
      have := hb.1
      refine hm_mono (ih g w2 (p + 1) (cx_v hx vg) (by rw [eg, gb_us, pk_us]; exact gi_s1 h3 (by omega)) (by omega)) (fun f2 _ _ h => ⟨vf_t vg h.1, ?_⟩)
      obtain ⟨q, h1, h2⟩ := h.2
      exact ⟨q, run_s hb h1, h2⟩
    refine hm_bd (mh_byte hx h3) (fun f1 w1 r h => ?_)
    obtain ⟨rfl, rfl, hr⟩ := h
    refine hm_if (fun c => hm_lt (fun g eg => step g _ ?_ eg)) (fun c => ?_)
    · rcases hr with z | z
      · exact ⟨z.1, Or.inl (by rw [← z.2]; exact c)⟩
      · rw [z.2] at c
        exact absurd c (by decide)
    · refine hm_bd (mh_byte hx h3) (fun f2 w2 r2 h => ?_)
      obtain ⟨rfl, rfl, hr2⟩ := h
      refine hm_if (fun d => hm_lt (fun g eg => step g _ ?_ eg)) (fun d => ?_)
      · rcases hr2 with z | z
        · exact ⟨z.1, Or.inr (by rw [← z.2]; exact d)⟩
        · rw [z.2] at d
          exact absurd d (by decide)
      · have nb : ¬ gb_bl T N p := fun z => by
          rcases hr with y | y
          · rcases hr2 with y2 | y2
            · rcases z.2 with x | x
              · exact c (by rw [y.2]; exact x)
              · exact d (by rw [y2.2]; exact x)
            · have := z.1
              omega
          · have := z.1
            omega
        exact hm_mono (mh_tok hx h3 hp nb) (fun f3 _ _ h => ⟨h.1, p, run_0 nb, h.2⟩)
theorem mh_advance {n : Nat} {T : Nat → Int32} {N : Nat} {f : gb_F} {w : Int64} {p : Nat} (hx : gb_cx T N f) (h3 : (f 0 3).toInt = p) (hp : p ≤ N) : gb_hm (ms_advance n f w) (fun f2 _ _ => gb_vf f f2 ∧ ∃ q, gb_run (gb_bl T N) p q ∧ gb_tk T N f2 q) := by
  unfold ms_advance
  have hN := hx.2.1
  have step : ∀ (g : gb_F) (w2 : Int64), gb_bl T N p → g = gb_u f 0 (upd (f 0) 3 ((f 0 3) + 1)) → gb_hm (ms_advance_0 n n g w2) (fun f2 _ _ => gb_vf f f2 ∧ ∃ q, gb_run (gb_bl T N) p q ∧ gb_tk T N f2 q) := fun g w2 hb eg => by
    have vg : gb_vf f g := by rw [eg]; exact vf_u (by decide)
    have := hb.1
    refine hm_mono (mh_adv0 n g w2 (p + 1) (cx_v hx vg) (by rw [eg, gb_us, pk_us]; exact gi_s1 h3 (by omega)) (by omega)) (fun f2 _ _ h => ⟨vf_t vg h.1, ?_⟩)
    obtain ⟨q, h1, h2⟩ := h.2
    exact ⟨q, run_s hb h1, h2⟩
  refine hm_bd (mh_byte hx h3) (fun f1 w1 r h => ?_)
  obtain ⟨rfl, rfl, hr⟩ := h
  refine hm_if (fun c => hm_lt (fun g eg => step g _ ?_ eg)) (fun c => ?_)
  · rcases hr with z | z
    · exact ⟨z.1, Or.inl (by rw [← z.2]; exact c)⟩
    · rw [z.2] at c
      exact absurd c (by decide)
  · refine hm_bd (mh_byte hx h3) (fun f2 w2 r2 h => ?_)
    obtain ⟨rfl, rfl, hr2⟩ := h
    refine hm_if (fun d => hm_lt (fun g eg => step g _ ?_ eg)) (fun d => ?_)
    · rcases hr2 with z | z
      · exact ⟨z.1, Or.inr (by rw [← z.2]; exact d)⟩
      · rw [z.2] at d
        exact absurd d (by decide)
    · have nb : ¬ gb_bl T N p := fun z => by
        rcases hr with y | y
        · rcases hr2 with y2 | y2
          · rcases z.2 with x | x
            · exact c (by rw [y.2]; exact x)
            · exact d (by rw [y2.2]; exact x)
          · have := z.1
            omega
        · have := z.1
          omega
      exact hm_mono (mh_tok hx h3 hp nb) (fun f3 _ _ h => ⟨h.1, p, run_0 nb, h.2⟩)
