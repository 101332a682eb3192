/-! THE REFERENCE: what a call keeps: any predicate of the cells that the written ones don't touch -/
def gb_sm (P : gb_F → Prop) : Prop := (∀ (f : gb_F) (F : Nat → Int32), P f → P (gb_u f 0 F)) ∧ ∀ (f : gb_F) (k : Nat) (F : Nat → Int32), 3 ≤ k → P f → P (gb_u f k F)
def gb_w5c (P : gb_F → Prop) : Prop := ∀ (f : gb_F) (v : Int32), P f → P (gb_u f 1 (upd (f 1) (Int32.toNatClampNeg 5) v)) ∧ P (gb_u f 1 (upd (f 1) (Int32.toNatClampNeg 6) v))
def gb_w1c (P : gb_F → Prop) : Prop := ∀ (f : gb_F) (F : Nat → Int32), P f → P (gb_u f 1 F)
def gb_w2c (P : gb_F → Prop) : Prop := ∀ (f : gb_F) (F : Nat → Int32), P f → P (gb_u f 2 F)
def gb_pm {ρ : Type} (P : gb_F → Prop) (x : gb_MR ρ) : Prop := ∀ (f2 : gb_F) (w2 : Int64) (r : ρ), x = some (f2, w2, r) → P f2
theorem pm_none {ρ : Type} {P : gb_F → Prop} : gb_pm P (none : gb_MR ρ) := fun _ _ _ h => by cases h
theorem pm_some {ρ : Type} {P : gb_F → Prop} {f : gb_F} {w : Int64} {r : ρ} (h : P f) : gb_pm P (some (f, w, r)) := fun _ _ _ e => by cases e; exact h
theorem pm_if {ρ : Type} {P : gb_F → Prop} {c : Prop} [Decidable c] {x y : gb_MR ρ} (h1 : gb_pm P x) (h2 : gb_pm P y) : gb_pm P (if c then x else y) := by
  split
  · exact h1
  · exact h2
theorem pm_ck {ρ : Type} {P : gb_F → Prop} {i : Int32} {n : Nat} {x : gb_MR ρ} (h : gb_pm P x) : gb_pm P (gb_ck i n x) := by
  unfold gb_ck
  split
  · exact h
  · exact pm_none
theorem pm_nz {ρ : Type} {P : gb_F → Prop} {i : Int32} {x : gb_MR ρ} (h : gb_pm P x) : gb_pm P (gb_nz i x) := by
  unfold gb_nz
  split
  · exact pm_none
  · exact h
theorem pm_cb {ρ : Type} {P : gb_F → Prop} {i : Int32} {x : gb_MR ρ} (h : gb_pm P x) : gb_pm P (gb_cb i x) := by
  unfold gb_cb
  split
  · exact h
  · exact pm_none
theorem pm_ltV {ρ α : Type} {P : gb_F → Prop} {v : α} {k : α → gb_MR ρ} (h : ∀ v, gb_pm P (k v)) : gb_pm P (gb_lt v k) := h v
theorem pm_ltS {ρ : Type} {P : gb_F → Prop} {v : gb_F} {k : gb_F → gb_MR ρ} (hv : P v) (h : ∀ s, P s → gb_pm P (k s)) : gb_pm P (gb_lt v k) := h v hv
theorem pm_bd {ρ τ : Type} {P : gb_F → Prop} {x : gb_MR ρ} {k : gb_F → Int64 → ρ → gb_MR τ} (h : gb_pm P x) (hk : ∀ s w r, P s → gb_pm P (k s w r)) : gb_pm P (gb_bd x k) := by
  unfold gb_bd
  cases x with
  | none => exact pm_none
  | some q => exact hk q.1 q.2.1 q.2.2 (h q.1 q.2.1 q.2.2 rfl)
theorem cm_isIn {P : gb_F → Prop} (hW : gb_sm P) {n : Nat} {f : gb_F} {w : Int64} {p1 : Int32} {p2 : Int32} {p3 : Int32} (h : P f) : gb_pm P (ms_isIn n f w p1 p2 p3) := by
  unfold ms_isIn
  refine pm_if ?_ ?_
  · exact pm_some h
  · refine pm_if ?_ ?_
    · exact pm_some h
    · exact pm_some h
theorem cm_feed_73 {P : gb_F → Prop} (hW : gb_sm P) (w1 : gb_w1c P) {n : Nat} {k20 : gb_F → Int64 → Int32 → Int32 → Int32 → Int32 → Int32 → Int32 → gb_MR Int32} (h_k20 : ∀ (s : gb_F) (x1 : Int64) (x2 : Int32) (x3 : Int32) (x4 : Int32) (x5 : Int32) (x6 : Int32) (x7 : Int32), P s → gb_pm P (k20 s x1 x2 x3 x4 x5 x6 x7)) {f : gb_F} {w : Int64} {v1 : Int32} {v2 : Int32} {v3 : Int32} {v4 : Int32} {v5 : Int32} {v6 : Int32} {t0 : Int32} (h : P f) : gb_pm P (ms_feed_73 n k20 f w v1 v2 v3 v4 v5 v6 t0) := by
  unfold ms_feed_73
  refine pm_ltV (fun x_9 => ?_)
  refine pm_ltV (fun x_10 => ?_)
  refine pm_ck ?_
  refine pm_ltS (w1 _ _ h) (fun f_12 hf_12 => ?_)
  refine pm_ltV (fun x_13 => ?_)
  refine pm_ltS (w1 _ _ hf_12) (fun f_14 hf_14 => ?_)
  refine pm_ltV (fun x_15 => ?_)
  exact h_k20 _ _ _ _ _ _ _ _ hf_14
theorem cm_feed_20 {P : gb_F → Prop} (hW : gb_sm P) (w1 : gb_w1c P) {n : Nat} : ∀ (mm : Nat) (f : gb_F) (w : Int64) (v1 : Int32) (v2 : Int32) (v3 : Int32) (v4 : Int32) (v5 : Int32) (v6 : Int32), P f → gb_pm P (ms_feed_20 n mm f w v1 v2 v3 v4 v5 v6) := by
  intro mm
  induction mm with
  | zero =>
    intros
    exact pm_none
  | succ mm ih =>
    intro f w v1 v2 v3 v4 v5 v6 h
    unfold ms_feed_20
    refine pm_if ?_ ?_
    · refine pm_ltV (fun x_4 => ?_)
      exact pm_some h
    · refine pm_if ?_ ?_
      · refine pm_if ?_ ?_
        · refine pm_if ?_ ?_
          · refine pm_if ?_ ?_
            · refine cm_feed_73 hW w1 ?_ h
              · intro f w v1 v2 v3 v4 v5 v6 hf
                exact ih _ _ _ _ _ _ _ _ hf
            · refine cm_feed_73 hW w1 ?_ h
              · intro f w v1 v2 v3 v4 v5 v6 hf
                exact ih _ _ _ _ _ _ _ _ hf
          · refine cm_feed_73 hW w1 ?_ h
            · intro f w v1 v2 v3 v4 v5 v6 hf
              exact ih _ _ _ _ _ _ _ _ hf
        · refine cm_feed_73 hW w1 ?_ h
          · intro f w v1 v2 v3 v4 v5 v6 hf
            exact ih _ _ _ _ _ _ _ _ hf
      · refine cm_feed_73 hW w1 ?_ h
        · intro f w v1 v2 v3 v4 v5 v6 hf
          exact ih _ _ _ _ _ _ _ _ hf
theorem cm_feed {P : gb_F → Prop} (hW : gb_sm P) (w1 : gb_w1c P) {n : Nat} {f : gb_F} {w : Int64} {p1 : Int32} {p2 : Int32} {p3 : Int32} {p4 : Int32} {p5 : Int32} (h : P f) : gb_pm P (ms_feed n f w p1 p2 p3 p4 p5) := by
  unfold ms_feed
  refine pm_ltV (fun x_1 => ?_)
  refine pm_if ?_ ?_
  · exact cm_feed_20 hW w1 _ _ _ _ _ _ _ _ _ h
  · exact pm_some h
theorem cm_end {P : gb_F → Prop} (hW : gb_sm P) (w1 : gb_w1c P) {n : Nat} {f : gb_F} {w : Int64} {p1 : Int32} (h : P f) : gb_pm P (ms_end n f w p1) := by
  unfold ms_end
  refine pm_if ?_ ?_
  · exact pm_some h
  · refine pm_ltV (fun x_2 => ?_)
    refine pm_if ?_ ?_
    · refine pm_ltS (w1 _ _ h) (fun f_4 hf_4 => ?_)
      exact pm_some hf_4
    · exact pm_some h
theorem cm_byteAt {P : gb_F → Prop} (hW : gb_sm P) {n : Nat} {f : gb_F} {w : Int64} {p1 : Int32} (h : P f) : gb_pm P (ms_byteAt n f w p1) := by
  unfold ms_byteAt
  refine pm_if ?_ ?_
  · exact pm_some h
  · refine pm_ck ?_
    refine pm_ltV (fun x_3 => ?_)
    exact pm_some h
theorem cm_isLetter {P : gb_F → Prop} (hW : gb_sm P) {n : Nat} {f : gb_F} {w : Int64} {p1 : Int32} (h : P f) : gb_pm P (ms_isLetter n f w p1) := by
  unfold ms_isLetter
  refine pm_if ?_ ?_
  · exact pm_some h
  · refine pm_if ?_ ?_
    · exact pm_some h
    · exact pm_some h
theorem cm_isDigit {P : gb_F → Prop} (hW : gb_sm P) {n : Nat} {f : gb_F} {w : Int64} {p1 : Int32} (h : P f) : gb_pm P (ms_isDigit n f w p1) := by
  unfold ms_isDigit
  refine pm_if ?_ ?_
  · exact pm_some h
  · refine pm_if ?_ ?_
    · exact pm_some h
    · exact pm_some h
theorem cm_four {P : gb_F → Prop} (hW : gb_sm P) {n : Nat} {f : gb_F} {w : Int64} {p1 : Int32} {p2 : Int32} {p3 : Int32} {p4 : Int32} (h : P f) : gb_pm P (ms_four n f w p1 p2 p3 p4) := by
  unfold ms_four
  exact pm_some h
theorem cm_eight {P : gb_F → Prop} (hW : gb_sm P) {n : Nat} {f : gb_F} {w : Int64} {p1 : Int32} {p2 : Int32} {p3 : Int32} {p4 : Int32} {p5 : Int32} {p6 : Int32} {p7 : Int32} {p8 : Int32} (h : P f) : gb_pm P (ms_eight n f w p1 p2 p3 p4 p5 p6 p7 p8) := by
  unfold ms_eight
  refine pm_bd (cm_four hW h) (fun f_1 wl_2 r_3 hf_1 => ?_)
  refine pm_bd (cm_four hW hf_1) (fun f_6 wl_7 r_8 hf_6 => ?_)
  exact pm_some hf_6
theorem cm_wordOf {P : gb_F → Prop} (hW : gb_sm P) {n : Nat} {f : gb_F} {w : Int64} {p1 : Int64} (h : P f) : gb_pm P (ms_wordOf n f w p1) := by
  unfold ms_wordOf
  refine pm_bd (cm_four hW h) (fun f_1 wl_2 r_3 hf_1 => ?_)
  refine pm_if ?_ ?_
  · exact pm_some hf_1
  · refine pm_bd (cm_eight hW hf_1) (fun f_7 wl_8 r_9 hf_7 => ?_)
    refine pm_if ?_ ?_
    · exact pm_some hf_7
    · refine pm_bd (cm_four hW hf_7) (fun f_13 wl_14 r_15 hf_13 => ?_)
      refine pm_if ?_ ?_
      · exact pm_some hf_13
      · refine pm_bd (cm_eight hW hf_13) (fun f_19 wl_20 r_21 hf_19 => ?_)
        refine pm_if ?_ ?_
        · exact pm_some hf_19
        · refine pm_bd (cm_four hW hf_19) (fun f_25 wl_26 r_27 hf_25 => ?_)
          refine pm_if ?_ ?_
          · exact pm_some hf_25
          · refine pm_bd (cm_four hW hf_25) (fun f_31 wl_32 r_33 hf_31 => ?_)
            refine pm_if ?_ ?_
            · exact pm_some hf_31
            · refine pm_bd (cm_eight hW hf_31) (fun f_37 wl_38 r_39 hf_37 => ?_)
              refine pm_if ?_ ?_
              · exact pm_some hf_37
              · refine pm_bd (cm_eight hW hf_37) (fun f_43 wl_44 r_45 hf_43 => ?_)
                refine pm_if ?_ ?_
                · exact pm_some hf_43
                · refine pm_bd (cm_four hW hf_43) (fun f_49 wl_50 r_51 hf_49 => ?_)
                  refine pm_if ?_ ?_
                  · exact pm_some hf_49
                  · refine pm_bd (cm_eight hW hf_49) (fun f_55 wl_56 r_57 hf_55 => ?_)
                    refine pm_if ?_ ?_
                    · exact pm_some hf_55
                    · refine pm_bd (cm_four hW hf_55) (fun f_61 wl_62 r_63 hf_61 => ?_)
                      refine pm_if ?_ ?_
                      · exact pm_some hf_61
                      · refine pm_bd (cm_four hW hf_61) (fun f_67 wl_68 r_69 hf_67 => ?_)
                        refine pm_if ?_ ?_
                        · exact pm_some hf_67
                        · refine pm_bd (cm_four hW hf_67) (fun f_73 wl_74 r_75 hf_73 => ?_)
                          refine pm_if ?_ ?_
                          · exact pm_some hf_73
                          · refine pm_bd (cm_eight hW hf_73) (fun f_79 wl_80 r_81 hf_79 => ?_)
                            refine pm_if ?_ ?_
                            · exact pm_some hf_79
                            · refine pm_bd (cm_eight hW hf_79) (fun f_85 wl_86 r_87 hf_85 => ?_)
                              refine pm_if ?_ ?_
                              · exact pm_some hf_85
                              · refine pm_bd (cm_four hW hf_85) (fun f_91 wl_92 r_93 hf_91 => ?_)
                                refine pm_if ?_ ?_
                                · exact pm_some hf_91
                                · refine pm_bd (cm_four hW hf_91) (fun f_97 wl_98 r_99 hf_97 => ?_)
                                  refine pm_if ?_ ?_
                                  · exact pm_some hf_97
                                  · refine pm_bd (cm_four hW hf_97) (fun f_103 wl_104 r_105 hf_103 => ?_)
                                    refine pm_if ?_ ?_
                                    · exact pm_some hf_103
                                    · exact pm_some hf_103
theorem cm_advance_198 {P : gb_F → Prop} (hW : gb_sm P) {n : Nat} : ∀ (mm : Nat) (f : gb_F) (w : Int64), P f → gb_pm P (ms_advance_198 n mm f w) := by
  intro mm
  induction mm with
  | zero =>
    intros
    exact pm_none
  | succ mm ih =>
    intro f w h
    unfold ms_advance_198
    refine pm_bd (cm_byteAt hW h) (fun f_45 wl_46 r_47 hf_45 => ?_)
    refine pm_bd (cm_isDigit hW hf_45) (fun f_50 wl_51 r_52 hf_50 => ?_)
    refine pm_if ?_ ?_
    · refine pm_if ?_ ?_
      · refine pm_ltS (hW.1 _ _ hf_50) (fun f_57 hf_57 => ?_)
        exact pm_some hf_57
      · refine pm_ltS (hW.1 _ _ hf_50) (fun f_58 hf_58 => ?_)
        exact pm_some hf_58
    · refine pm_if ?_ ?_
      · refine pm_ltS (hW.1 _ _ hf_50) (fun f_60 hf_60 => ?_)
        exact ih _ _ hf_60
      · refine pm_bd (cm_byteAt hW hf_50) (fun f_61 wl_62 r_63 hf_61 => ?_)
        refine pm_ltS (hW.1 _ _ hf_61) (fun f_66 hf_66 => ?_)
        refine pm_ltS (hW.1 _ _ hf_66) (fun f_67 hf_67 => ?_)
        exact ih _ _ hf_67
theorem cm_advance_77 {P : gb_F → Prop} (hW : gb_sm P) {n : Nat} : ∀ (mm : Nat) (f : gb_F) (w : Int64) (v2 : Int64), P f → gb_pm P (ms_advance_77 n mm f w v2) := by
  intro mm
  induction mm with
  | zero =>
    intros
    exact pm_none
  | succ mm ih =>
    intro f w v2 h
    unfold ms_advance_77
    refine pm_bd (cm_byteAt hW h) (fun f_68 wl_69 r_70 hf_68 => ?_)
    refine pm_bd (cm_isLetter hW hf_68) (fun f_73 wl_74 r_75 hf_73 => ?_)
    refine pm_if ?_ ?_
    · refine pm_if ?_ ?_
      · refine pm_bd (cm_wordOf hW hf_73) (fun f_80 wl_81 r_82 hf_80 => ?_)
        refine pm_ltS (hW.1 _ _ hf_80) (fun f_85 hf_85 => ?_)
        refine pm_if ?_ ?_
        · refine pm_ltS (hW.1 _ _ hf_85) (fun f_88 hf_88 => ?_)
          exact pm_some hf_88
        · refine pm_ltS (hW.1 _ _ hf_85) (fun f_87 hf_87 => ?_)
          exact pm_some hf_87
      · refine pm_ltS (hW.1 _ _ hf_73) (fun f_89 hf_89 => ?_)
        refine pm_if ?_ ?_
        · refine pm_ltS (hW.1 _ _ hf_89) (fun f_92 hf_92 => ?_)
          exact pm_some hf_92
        · refine pm_ltS (hW.1 _ _ hf_89) (fun f_91 hf_91 => ?_)
          exact pm_some hf_91
    · refine pm_if ?_ ?_
      · refine pm_ltS (hW.1 _ _ hf_73) (fun f_94 hf_94 => ?_)
        exact ih _ _ _ hf_94
      · refine pm_bd (cm_byteAt hW hf_73) (fun f_95 wl_96 r_97 hf_95 => ?_)
        refine pm_ltV (fun x_100 => ?_)
        refine pm_ltS (hW.1 _ _ hf_95) (fun f_101 hf_101 => ?_)
        exact ih _ _ _ hf_101
theorem cm_advance_0 {P : gb_F → Prop} (hW : gb_sm P) {n : Nat} : ∀ (mm : Nat) (f : gb_F) (w : Int64), P f → gb_pm P (ms_advance_0 n mm f w) := by
  intro mm
  induction mm with
  | zero =>
    intros
    exact pm_none
  | succ mm ih =>
    intro f w h
    unfold ms_advance_0
    refine pm_bd (cm_byteAt hW h) (fun f_8 wl_9 r_10 hf_8 => ?_)
    refine pm_if ?_ ?_
    · refine pm_ltS (hW.1 _ _ hf_8) (fun f_14 hf_14 => ?_)
      exact ih _ _ hf_14
    · refine pm_bd (cm_byteAt hW hf_8) (fun f_15 wl_16 r_17 hf_15 => ?_)
      refine pm_if ?_ ?_
      · refine pm_ltS (hW.1 _ _ hf_15) (fun f_103 hf_103 => ?_)
        exact ih _ _ hf_103
      · refine pm_ltS (hW.1 _ _ hf_15) (fun f_21 hf_21 => ?_)
        refine pm_bd (cm_byteAt hW hf_21) (fun f_22 wl_23 r_24 hf_22 => ?_)
        refine pm_if ?_ ?_
        · refine pm_bd (cm_isLetter hW hf_22) (fun f_28 wl_29 r_30 hf_28 => ?_)
          refine pm_if ?_ ?_
          · refine pm_bd (cm_isDigit hW hf_28) (fun f_34 wl_35 r_36 hf_34 => ?_)
            refine pm_if ?_ ?_
            · refine pm_ltS (hW.1 _ _ hf_34) (fun f_40 hf_40 => ?_)
              refine pm_if ?_ ?_
              · refine pm_ltS (hW.1 _ _ hf_40) (fun f_43 hf_43 => ?_)
                exact pm_some hf_43
              · refine pm_ltS (hW.1 _ _ hf_40) (fun f_42 hf_42 => ?_)
                exact pm_some hf_42
            · refine pm_ltS (hW.1 _ _ hf_34) (fun f_44 hf_44 => ?_)
              exact cm_advance_198 hW _ _ _ hf_44
          · exact cm_advance_77 hW _ _ _ _ hf_28
        · refine pm_ltS (hW.1 _ _ hf_22) (fun f_102 hf_102 => ?_)
          exact pm_some hf_102
theorem cm_advance {P : gb_F → Prop} (hW : gb_sm P) {n : Nat} {f : gb_F} {w : Int64} (h : P f) : gb_pm P (ms_advance n f w) := by
  unfold ms_advance
  refine pm_bd (cm_byteAt hW h) (fun f_1 wl_2 r_3 hf_1 => ?_)
  refine pm_if ?_ ?_
  · refine pm_ltS (hW.1 _ _ hf_1) (fun f_7 hf_7 => ?_)
    exact cm_advance_0 hW _ _ _ hf_7
  · refine pm_bd (cm_byteAt hW hf_1) (fun f_104 wl_105 r_106 hf_104 => ?_)
    refine pm_if ?_ ?_
    · refine pm_ltS (hW.1 _ _ hf_104) (fun f_135 hf_135 => ?_)
      exact cm_advance_0 hW _ _ _ hf_135
    · refine pm_ltS (hW.1 _ _ hf_104) (fun f_110 hf_110 => ?_)
      refine pm_bd (cm_byteAt hW hf_110) (fun f_111 wl_112 r_113 hf_111 => ?_)
      refine pm_if ?_ ?_
      · refine pm_bd (cm_isLetter hW hf_111) (fun f_117 wl_118 r_119 hf_117 => ?_)
        refine pm_if ?_ ?_
        · refine pm_bd (cm_isDigit hW hf_117) (fun f_123 wl_124 r_125 hf_123 => ?_)
          refine pm_if ?_ ?_
          · refine pm_ltS (hW.1 _ _ hf_123) (fun f_129 hf_129 => ?_)
            refine pm_if ?_ ?_
            · refine pm_ltS (hW.1 _ _ hf_129) (fun f_132 hf_132 => ?_)
              exact pm_some hf_132
            · refine pm_ltS (hW.1 _ _ hf_129) (fun f_131 hf_131 => ?_)
              exact pm_some hf_131
          · refine pm_ltS (hW.1 _ _ hf_123) (fun f_133 hf_133 => ?_)
            exact cm_advance_198 hW _ _ _ hf_133
        · exact cm_advance_77 hW _ _ _ _ hf_117
      · refine pm_ltS (hW.1 _ _ hf_111) (fun f_134 hf_134 => ?_)
        exact pm_some hf_134
theorem cm_ends {P : gb_F → Prop} (hW : gb_sm P) (w5 : gb_w5c P) {n : Nat} {f : gb_F} {w : Int64} (h : P f) : gb_pm P (ms_ends n f w) := by
  unfold ms_ends
  refine pm_if ?_ ?_
  · refine pm_ltS (hW.1 _ _ h) (fun f_2 hf_2 => ?_)
    refine pm_ltS (w5 _ _ hf_2).1 (fun f_3 hf_3 => ?_)
    refine pm_ltS (w5 _ _ hf_3).2 (fun f_4 hf_4 => ?_)
    exact pm_some hf_4
  · exact pm_some h
theorem cm_also {P : gb_F → Prop} (hW : gb_sm P) (w5 : gb_w5c P) {n : Nat} {f : gb_F} {w : Int64} {p1 : Int32} {p2 : Int32} (h : P f) : gb_pm P (ms_also n f w p1 p2) := by
  unfold ms_also
  refine pm_if ?_ ?_
  · refine pm_ltV (fun x_2 => ?_)
    refine pm_if ?_ ?_
    · refine pm_ltS (w5 _ _ h).1 (fun f_4 hf_4 => ?_)
      refine pm_ltS (w5 _ _ hf_4).2 (fun f_5 hf_5 => ?_)
      exact pm_some hf_5
    · refine pm_ltV (fun x_6 => ?_)
      refine pm_if ?_ ?_
      · exact pm_some h
      · refine pm_ltV (fun x_8 => ?_)
        refine pm_if ?_ ?_
        · refine pm_ltV (fun x_12 => ?_)
          refine pm_if ?_ ?_
          · refine pm_ltS (w5 _ _ h).1 (fun f_14 hf_14 => ?_)
            refine pm_ltS (w5 _ _ hf_14).2 (fun f_15 hf_15 => ?_)
            exact pm_some hf_15
          · exact pm_some h
        · refine pm_ltS (w5 _ _ h).1 (fun f_10 hf_10 => ?_)
          refine pm_ltS (w5 _ _ hf_10).2 (fun f_11 hf_11 => ?_)
          exact pm_some hf_11
  · exact pm_some h
theorem cm_numbered {P : gb_F → Prop} (hW : gb_sm P) (w5 : gb_w5c P) {n : Nat} {f : gb_F} {w : Int64} {p1 : Int32} {p2 : Int32} (h : P f) : gb_pm P (ms_numbered n f w p1 p2) := by
  unfold ms_numbered
  refine pm_if ?_ ?_
  · refine pm_if ?_ ?_
    · refine pm_ltV (fun x_8 => ?_)
      refine pm_bd (cm_isIn hW h) (fun f_9 wl_10 r_11 hf_9 => ?_)
      refine pm_if ?_ ?_
      · refine pm_bd (cm_also hW w5 hf_9) (fun f_26 wl_27 _ hf_26 => ?_)
        refine pm_bd (cm_advance hW hf_26) (fun f_31 wl_32 _ hf_31 => ?_)
        refine pm_bd (cm_isIn hW hf_31) (fun f_36 wl_37 r_38 hf_36 => ?_)
        refine pm_if ?_ ?_
        · exact pm_some hf_36
        · exact pm_some hf_36
      · refine pm_bd (cm_advance hW hf_9) (fun f_15 wl_16 _ hf_15 => ?_)
        refine pm_bd (cm_isIn hW hf_15) (fun f_20 wl_21 r_22 hf_20 => ?_)
        refine pm_if ?_ ?_
        · exact pm_some hf_20
        · exact pm_some hf_20
    · refine pm_bd (cm_ends hW w5 h) (fun f_42 wl_43 _ hf_42 => ?_)
      exact pm_some hf_42
  · refine pm_bd (cm_ends hW w5 h) (fun f_2 wl_3 _ hf_2 => ?_)
    exact pm_some hf_2
theorem cm_takes {P : gb_F → Prop} (hW : gb_sm P) (w5 : gb_w5c P) {n : Nat} {f : gb_F} {w : Int64} {p1 : Int32} {p2 : Int32} (h : P f) : gb_pm P (ms_takes n f w p1 p2) := by
  unfold ms_takes
  refine pm_if ?_ ?_
  · refine pm_if ?_ ?_
    · refine pm_bd (cm_isIn hW h) (fun f_13 wl_14 r_15 hf_13 => ?_)
      refine pm_if ?_ ?_
      · refine pm_bd (cm_ends hW w5 hf_13) (fun f_25 wl_26 _ hf_25 => ?_)
        exact pm_some hf_25
      · refine pm_ltV (fun x_19 => ?_)
        refine pm_bd (cm_advance hW hf_13) (fun f_20 wl_21 _ hf_20 => ?_)
        exact pm_some hf_20
    · refine pm_bd (cm_ends hW w5 h) (fun f_8 wl_9 _ hf_8 => ?_)
      exact pm_some hf_8
  · refine pm_bd (cm_ends hW w5 h) (fun f_2 wl_3 _ hf_2 => ?_)
    exact pm_some hf_2
theorem cm_endsLine {P : gb_F → Prop} (hW : gb_sm P) (w5 : gb_w5c P) {n : Nat} {f : gb_F} {w : Int64} (h : P f) : gb_pm P (ms_endsLine n f w) := by
  unfold ms_endsLine
  refine pm_if ?_ ?_
  · refine pm_if ?_ ?_
    · refine pm_bd (cm_advance hW h) (fun f_13 wl_14 _ hf_13 => ?_)
      exact pm_some hf_13
    · refine pm_bd (cm_ends hW w5 h) (fun f_8 wl_9 _ hf_8 => ?_)
      exact pm_some hf_8
  · refine pm_bd (cm_ends hW w5 h) (fun f_2 wl_3 _ hf_2 => ?_)
    exact pm_some hf_2
theorem cm_pathLine_26 {P : gb_F → Prop} (hW : gb_sm P) (w5 : gb_w5c P) {n : Nat} {f : gb_F} {w : Int64} {v2 : Int32} (h : P f) : gb_pm P (ms_pathLine_26 n f w v2) := by
  unfold ms_pathLine_26
  refine pm_bd (cm_numbered hW w5 h) (fun f_4 wl_5 r_6 hf_4 => ?_)
  refine pm_bd (cm_numbered hW w5 hf_4) (fun f_9 wl_10 r_11 hf_9 => ?_)
  refine pm_bd (cm_numbered hW w5 hf_9) (fun f_14 wl_15 r_16 hf_14 => ?_)
  refine pm_if ?_ ?_
  · exact pm_some hf_14
  · refine pm_ltV (fun x_20 => ?_)
    refine pm_ltV (fun x_21 => ?_)
    refine pm_ck ?_
    refine pm_ltS (hW.2 _ _ _ (by decide) hf_14) (fun f_23 hf_23 => ?_)
    refine pm_ck ?_
    refine pm_ltS (hW.2 _ _ _ (by decide) hf_23) (fun f_25 hf_25 => ?_)
    refine pm_ck ?_
    refine pm_ltS (hW.2 _ _ _ (by decide) hf_25) (fun f_27 hf_27 => ?_)
    refine pm_ltV (fun x_28 => ?_)
    refine pm_ltS (hW.2 _ _ _ (by decide) hf_27) (fun f_29 hf_29 => ?_)
    exact pm_some hf_29
theorem cm_pathLine_15 {P : gb_F → Prop} (hW : gb_sm P) (w5 : gb_w5c P) {n : Nat} {f : gb_F} {w : Int64} {v1 : Int32} {t0 : Int32} (h : P f) : gb_pm P (ms_pathLine_15 n f w v1 t0) := by
  unfold ms_pathLine_15
  refine pm_if ?_ ?_
  · refine pm_bd (cm_also hW w5 h) (fun f_30 wl_31 _ hf_30 => ?_)
    exact cm_pathLine_26 hW w5 hf_30
  · exact cm_pathLine_26 hW w5 h
theorem cm_pathLine {P : gb_F → Prop} (hW : gb_sm P) (w5 : gb_w5c P) {n : Nat} {f : gb_F} {w : Int64} {p1 : Int32} (h : P f) : gb_pm P (ms_pathLine n f w p1) := by
  unfold ms_pathLine
  refine pm_ltV (fun x_1 => ?_)
  refine pm_if ?_ ?_
  · exact cm_pathLine_15 hW w5 h
  · exact cm_pathLine_15 hW w5 h
theorem cm_gooseLine_27 {P : gb_F → Prop} (hW : gb_sm P) (w5 : gb_w5c P) {n : Nat} {f : gb_F} {w : Int64} {v2 : Int32} (h : P f) : gb_pm P (ms_gooseLine_27 n f w v2) := by
  unfold ms_gooseLine_27
  refine pm_bd (cm_numbered hW w5 h) (fun f_4 wl_5 r_6 hf_4 => ?_)
  refine pm_bd (cm_numbered hW w5 hf_4) (fun f_9 wl_10 r_11 hf_9 => ?_)
  refine pm_bd (cm_numbered hW w5 hf_9) (fun f_14 wl_15 r_16 hf_14 => ?_)
  refine pm_bd (cm_numbered hW w5 hf_14) (fun f_19 wl_20 r_21 hf_19 => ?_)
  refine pm_bd (cm_numbered hW w5 hf_19) (fun f_24 wl_25 r_26 hf_24 => ?_)
  refine pm_if ?_ ?_
  · exact pm_some hf_24
  · refine pm_ltV (fun x_30 => ?_)
    refine pm_ltV (fun x_31 => ?_)
    refine pm_ck ?_
    refine pm_ltS (hW.2 _ _ _ (by decide) hf_24) (fun f_33 hf_33 => ?_)
    refine pm_ck ?_
    refine pm_ltS (hW.2 _ _ _ (by decide) hf_33) (fun f_35 hf_35 => ?_)
    refine pm_ck ?_
    refine pm_ltS (hW.2 _ _ _ (by decide) hf_35) (fun f_37 hf_37 => ?_)
    refine pm_ck ?_
    refine pm_ltS (hW.2 _ _ _ (by decide) hf_37) (fun f_39 hf_39 => ?_)
    refine pm_ck ?_
    refine pm_ltS (hW.2 _ _ _ (by decide) hf_39) (fun f_41 hf_41 => ?_)
    refine pm_ltV (fun x_42 => ?_)
    refine pm_ltS (hW.2 _ _ _ (by decide) hf_41) (fun f_43 hf_43 => ?_)
    exact pm_some hf_43
theorem cm_gooseLine_16 {P : gb_F → Prop} (hW : gb_sm P) (w5 : gb_w5c P) {n : Nat} {f : gb_F} {w : Int64} {v1 : Int32} {t0 : Int32} (h : P f) : gb_pm P (ms_gooseLine_16 n f w v1 t0) := by
  unfold ms_gooseLine_16
  refine pm_if ?_ ?_
  · refine pm_bd (cm_also hW w5 h) (fun f_44 wl_45 _ hf_44 => ?_)
    exact cm_gooseLine_27 hW w5 hf_44
  · exact cm_gooseLine_27 hW w5 h
theorem cm_gooseLine {P : gb_F → Prop} (hW : gb_sm P) (w5 : gb_w5c P) {n : Nat} {f : gb_F} {w : Int64} {p1 : Int32} (h : P f) : gb_pm P (ms_gooseLine n f w p1) := by
  unfold ms_gooseLine
  refine pm_ltV (fun x_1 => ?_)
  refine pm_if ?_ ?_
  · exact cm_gooseLine_16 hW w5 h
  · exact cm_gooseLine_16 hW w5 h
theorem cm_borderLine_22 {P : gb_F → Prop} (hW : gb_sm P) (w5 : gb_w5c P) {n : Nat} {f : gb_F} {w : Int64} {v1 : Int32} {v2 : Int32} (h : P f) : gb_pm P (ms_borderLine_22 n f w v1 v2) := by
  unfold ms_borderLine_22
  refine pm_if ?_ ?_
  · refine pm_bd (cm_gooseLine hW w5 h) (fun f_26 wl_27 _ hf_26 => ?_)
    refine pm_if ?_ ?_
    · refine pm_bd (cm_numbered hW w5 hf_26) (fun f_37 wl_38 r_39 hf_37 => ?_)
      refine pm_ltS (hW.2 _ _ _ (by decide) hf_37) (fun f_42 hf_42 => ?_)
      refine pm_bd (cm_endsLine hW w5 hf_42) (fun f_43 wl_44 _ hf_43 => ?_)
      exact pm_some hf_43
    · refine pm_bd (cm_endsLine hW w5 hf_26) (fun f_32 wl_33 _ hf_32 => ?_)
      exact pm_some hf_32
  · refine pm_if ?_ ?_
    · refine pm_bd (cm_numbered hW w5 h) (fun f_15 wl_16 r_17 hf_15 => ?_)
      refine pm_ltS (hW.2 _ _ _ (by decide) hf_15) (fun f_20 hf_20 => ?_)
      refine pm_bd (cm_endsLine hW w5 hf_20) (fun f_21 wl_22 _ hf_21 => ?_)
      exact pm_some hf_21
    · refine pm_bd (cm_endsLine hW w5 h) (fun f_10 wl_11 _ hf_10 => ?_)
      exact pm_some hf_10
theorem cm_borderLine {P : gb_F → Prop} (hW : gb_sm P) (w5 : gb_w5c P) {n : Nat} {f : gb_F} {w : Int64} (h : P f) : gb_pm P (ms_borderLine n f w) := by
  unfold ms_borderLine
  refine pm_ltV (fun x_1 => ?_)
  refine pm_bd (cm_takes hW w5 h) (fun f_2 wl_3 r_4 hf_2 => ?_)
  refine pm_if ?_ ?_
  · refine pm_bd (cm_pathLine hW w5 hf_2) (fun f_48 wl_49 _ hf_48 => ?_)
    exact cm_borderLine_22 hW w5 hf_48
  · exact cm_borderLine_22 hW w5 hf_2
theorem cm_gooseTold {P : gb_F → Prop} (hW : gb_sm P) (w5 : gb_w5c P) {n : Nat} {f : gb_F} {w : Int64} (h : P f) : gb_pm P (ms_gooseTold n f w) := by
  unfold ms_gooseTold
  refine pm_bd (cm_numbered hW w5 h) (fun f_1 wl_2 r_3 hf_1 => ?_)
  exact pm_some hf_1
theorem cm_pathTold {P : gb_F → Prop} (hW : gb_sm P) (w5 : gb_w5c P) {n : Nat} {f : gb_F} {w : Int64} (h : P f) : gb_pm P (ms_pathTold n f w) := by
  unfold ms_pathTold
  refine pm_bd (cm_numbered hW w5 h) (fun f_1 wl_2 r_3 hf_1 => ?_)
  exact pm_some hf_1
theorem cm_adds_58 {P : gb_F → Prop} (hW : gb_sm P) {n : Nat} {f : gb_F} {w : Int64} {v2 : Int32} {v6 : Int32} {v7 : Int32} (h : P f) : gb_pm P (ms_adds_58 n f w v2 v6 v7) := by
  unfold ms_adds_58
  refine pm_if ?_ ?_
  · refine pm_ltV (fun x_11 => ?_)
    refine pm_ltS (hW.2 _ _ _ (by decide) h) (fun f_12 hf_12 => ?_)
    exact pm_some hf_12
  · refine pm_ck ?_
    refine pm_ltS (hW.2 _ _ _ (by decide) h) (fun f_14 hf_14 => ?_)
    refine pm_ltV (fun x_15 => ?_)
    refine pm_ltS (hW.2 _ _ _ (by decide) hf_14) (fun f_16 hf_16 => ?_)
    exact pm_some hf_16
theorem cm_adds {P : gb_F → Prop} (hW : gb_sm P) {n : Nat} {f : gb_F} {w : Int64} {p1 : Int32} {p2 : Int32} {p3 : Int32} {p4 : Int32} {p5 : Int32} {p6 : Int32} (h : P f) : gb_pm P (ms_adds n f w p1 p2 p3 p4 p5 p6) := by
  unfold ms_adds
  refine pm_ltV (fun x_1 => ?_)
  refine pm_if ?_ ?_
  · refine pm_ltV (fun x_3 => ?_)
    refine pm_ltV (fun x_4 => ?_)
    refine pm_ck ?_
    refine pm_ltS (hW.2 _ _ _ (by decide) h) (fun f_6 hf_6 => ?_)
    refine pm_ck ?_
    refine pm_ltS (hW.2 _ _ _ (by decide) hf_6) (fun f_8 hf_8 => ?_)
    refine pm_if ?_ ?_
    · exact cm_adds_58 hW hf_8
    · refine pm_ck ?_
      refine pm_ltS (hW.2 _ _ _ (by decide) hf_8) (fun f_18 hf_18 => ?_)
      exact cm_adds_58 hW hf_18
  · exact pm_some h
theorem cm_deedLine_152 {P : gb_F → Prop} (hW : gb_sm P) (w5 : gb_w5c P) {n : Nat} {f : gb_F} {w : Int64} {v2 : Int32} {v3 : Int32} {v4 : Int32} {v5 : Int32} (h : P f) : gb_pm P (ms_deedLine_152 n f w v2 v3 v4 v5) := by
  unfold ms_deedLine_152
  refine pm_if ?_ ?_
  · refine pm_bd (cm_pathTold hW w5 h) (fun f_35 wl_36 r_37 hf_35 => ?_)
    refine pm_bd (cm_adds hW hf_35) (fun f_40 wl_41 _ hf_40 => ?_)
    refine pm_bd (cm_endsLine hW w5 hf_40) (fun f_45 wl_46 _ hf_45 => ?_)
    exact pm_some hf_45
  · refine pm_bd (cm_adds hW h) (fun f_25 wl_26 _ hf_25 => ?_)
    refine pm_bd (cm_endsLine hW w5 hf_25) (fun f_30 wl_31 _ hf_30 => ?_)
    exact pm_some hf_30
theorem cm_deedLine_139 {P : gb_F → Prop} (hW : gb_sm P) (w5 : gb_w5c P) {n : Nat} {f : gb_F} {w : Int64} {v2 : Int32} {v3 : Int32} {v4 : Int32} {v5 : Int32} (h : P f) : gb_pm P (ms_deedLine_139 n f w v2 v3 v4 v5) := by
  unfold ms_deedLine_139
  refine pm_if ?_ ?_
  · refine pm_bd (cm_numbered hW w5 h) (fun f_50 wl_51 r_52 hf_50 => ?_)
    exact cm_deedLine_152 hW w5 hf_50
  · exact cm_deedLine_152 hW w5 h
theorem cm_deedLine_125 {P : gb_F → Prop} (hW : gb_sm P) (w5 : gb_w5c P) {n : Nat} {f : gb_F} {w : Int64} {v2 : Int32} {v3 : Int32} {v4 : Int32} {v5 : Int32} (h : P f) : gb_pm P (ms_deedLine_125 n f w v2 v3 v4 v5) := by
  unfold ms_deedLine_125
  refine pm_if ?_ ?_
  · refine pm_bd (cm_numbered hW w5 h) (fun f_55 wl_56 r_57 hf_55 => ?_)
    exact cm_deedLine_139 hW w5 hf_55
  · exact cm_deedLine_139 hW w5 h
theorem cm_deedLine_113 {P : gb_F → Prop} (hW : gb_sm P) (w5 : gb_w5c P) {n : Nat} {f : gb_F} {w : Int64} {v2 : Int32} {v3 : Int32} (h : P f) : gb_pm P (ms_deedLine_113 n f w v2 v3) := by
  unfold ms_deedLine_113
  refine pm_bd (cm_gooseTold hW w5 h) (fun f_61 wl_62 r_63 hf_61 => ?_)
  refine pm_bd (cm_pathTold hW w5 hf_61) (fun f_66 wl_67 r_68 hf_66 => ?_)
  exact cm_deedLine_125 hW w5 hf_66
theorem cm_deedLine_76 {P : gb_F → Prop} (hW : gb_sm P) (w5 : gb_w5c P) {n : Nat} {f : gb_F} {w : Int64} {v2 : Int32} {v3 : Int32} {v4 : Int32} {v5 : Int32} (h : P f) : gb_pm P (ms_deedLine_76 n f w v2 v3 v4 v5) := by
  unfold ms_deedLine_76
  refine pm_if ?_ ?_
  · refine pm_if ?_ ?_
    · refine pm_if ?_ ?_
      · refine pm_if ?_ ?_
        · refine pm_bd (cm_also hW w5 h) (fun f_73 wl_74 _ hf_73 => ?_)
          exact cm_deedLine_113 hW w5 hf_73
        · exact cm_deedLine_113 hW w5 h
      · exact cm_deedLine_113 hW w5 h
    · exact cm_deedLine_113 hW w5 h
  · exact cm_deedLine_125 hW w5 h
theorem cm_deedLine_61 {P : gb_F → Prop} (hW : gb_sm P) (w5 : gb_w5c P) {n : Nat} {f : gb_F} {w : Int64} {v2 : Int32} {v3 : Int32} {v4 : Int32} {v5 : Int32} (h : P f) : gb_pm P (ms_deedLine_61 n f w v2 v3 v4 v5) := by
  unfold ms_deedLine_61
  refine pm_bd (cm_isIn hW h) (fun f_15 wl_16 r_17 hf_15 => ?_)
  refine pm_if ?_ ?_
  · exact cm_deedLine_76 hW w5 hf_15
  · refine pm_bd (cm_pathTold hW w5 hf_15) (fun f_78 wl_79 r_80 hf_78 => ?_)
    exact cm_deedLine_76 hW w5 hf_78
theorem cm_deedLine_39 {P : gb_F → Prop} (hW : gb_sm P) (w5 : gb_w5c P) {n : Nat} {f : gb_F} {w : Int64} {v2 : Int32} (h : P f) : gb_pm P (ms_deedLine_39 n f w v2) := by
  unfold ms_deedLine_39
  refine pm_bd (cm_isIn hW h) (fun f_9 wl_10 r_11 hf_9 => ?_)
  refine pm_if ?_ ?_
  · exact cm_deedLine_61 hW w5 hf_9
  · refine pm_bd (cm_gooseTold hW w5 hf_9) (fun f_83 wl_84 r_85 hf_83 => ?_)
    exact cm_deedLine_61 hW w5 hf_83
theorem cm_deedLine {P : gb_F → Prop} (hW : gb_sm P) (w5 : gb_w5c P) {n : Nat} {f : gb_F} {w : Int64} (h : P f) : gb_pm P (ms_deedLine n f w) := by
  unfold ms_deedLine
  refine pm_ltV (fun x_1 => ?_)
  refine pm_bd (cm_takes hW w5 h) (fun f_2 wl_3 r_4 hf_2 => ?_)
  refine pm_ltV (fun x_7 => ?_)
  refine pm_if ?_ ?_
  · refine pm_ltV (fun x_88 => ?_)
    refine pm_if ?_ ?_
    · exact cm_deedLine_39 hW w5 hf_2
    · refine pm_bd (cm_also hW w5 hf_2) (fun f_90 wl_91 _ hf_90 => ?_)
      exact cm_deedLine_39 hW w5 hf_90
  · exact cm_deedLine_39 hW w5 hf_2
theorem cm_termLine_99 {P : gb_F → Prop} (hW : gb_sm P) (w5 : gb_w5c P) {n : Nat} {f : gb_F} {w : Int64} {v2 : Int32} {v3 : Int32} {v4 : Int32} (h : P f) : gb_pm P (ms_termLine_99 n f w v2 v3 v4) := by
  unfold ms_termLine_99
  refine pm_if ?_ ?_
  · refine pm_bd (cm_numbered hW w5 h) (fun f_33 wl_34 r_35 hf_33 => ?_)
    refine pm_bd (cm_adds hW hf_33) (fun f_38 wl_39 _ hf_38 => ?_)
    refine pm_bd (cm_endsLine hW w5 hf_38) (fun f_43 wl_44 _ hf_43 => ?_)
    exact pm_some hf_43
  · refine pm_bd (cm_adds hW h) (fun f_23 wl_24 _ hf_23 => ?_)
    refine pm_bd (cm_endsLine hW w5 hf_23) (fun f_28 wl_29 _ hf_28 => ?_)
    exact pm_some hf_28
theorem cm_termLine_86 {P : gb_F → Prop} (hW : gb_sm P) (w5 : gb_w5c P) {n : Nat} {f : gb_F} {w : Int64} {v2 : Int32} {v3 : Int32} {v4 : Int32} (h : P f) : gb_pm P (ms_termLine_86 n f w v2 v3 v4) := by
  unfold ms_termLine_86
  refine pm_if ?_ ?_
  · refine pm_bd (cm_numbered hW w5 h) (fun f_48 wl_49 r_50 hf_48 => ?_)
    exact cm_termLine_99 hW w5 hf_48
  · exact cm_termLine_99 hW w5 h
theorem cm_termLine_68 {P : gb_F → Prop} (hW : gb_sm P) (w5 : gb_w5c P) {n : Nat} {f : gb_F} {w : Int64} {v2 : Int32} (h : P f) : gb_pm P (ms_termLine_68 n f w v2) := by
  unfold ms_termLine_68
  refine pm_bd (cm_numbered hW w5 h) (fun f_11 wl_12 r_13 hf_11 => ?_)
  refine pm_bd (cm_numbered hW w5 hf_11) (fun f_16 wl_17 r_18 hf_16 => ?_)
  exact cm_termLine_86 hW w5 hf_16
theorem cm_termLine_58 {P : gb_F → Prop} (hW : gb_sm P) (w5 : gb_w5c P) {n : Nat} {f : gb_F} {w : Int64} {v2 : Int32} {v3 : Int32} {v4 : Int32} (h : P f) : gb_pm P (ms_termLine_58 n f w v2 v3 v4) := by
  unfold ms_termLine_58
  refine pm_if ?_ ?_
  · exact cm_termLine_68 hW w5 h
  · refine pm_if ?_ ?_
    · exact cm_termLine_68 hW w5 h
    · exact cm_termLine_86 hW w5 h
theorem cm_termLine_41 {P : gb_F → Prop} (hW : gb_sm P) (w5 : gb_w5c P) {n : Nat} {f : gb_F} {w : Int64} {v2 : Int32} (h : P f) : gb_pm P (ms_termLine_41 n f w v2) := by
  unfold ms_termLine_41
  refine pm_if ?_ ?_
  · refine pm_bd (cm_numbered hW w5 h) (fun f_54 wl_55 r_56 hf_54 => ?_)
    exact cm_termLine_58 hW w5 hf_54
  · exact cm_termLine_58 hW w5 h
theorem cm_termLine {P : gb_F → Prop} (hW : gb_sm P) (w5 : gb_w5c P) {n : Nat} {f : gb_F} {w : Int64} (h : P f) : gb_pm P (ms_termLine n f w) := by
  unfold ms_termLine
  refine pm_ltV (fun x_1 => ?_)
  refine pm_bd (cm_takes hW w5 h) (fun f_2 wl_3 r_4 hf_2 => ?_)
  refine pm_ltV (fun x_7 => ?_)
  refine pm_if ?_ ?_
  · refine pm_ltV (fun x_59 => ?_)
    refine pm_if ?_ ?_
    · exact cm_termLine_41 hW w5 hf_2
    · refine pm_bd (cm_also hW w5 hf_2) (fun f_61 wl_62 _ hf_61 => ?_)
      exact cm_termLine_41 hW w5 hf_61
  · exact cm_termLine_41 hW w5 hf_2
theorem cm_seenLine_54 {P : gb_F → Prop} (hW : gb_sm P) (w5 : gb_w5c P) {n : Nat} : ∀ (mm : Nat) (f : gb_F) (w : Int64) (v2 : Int32) (v3 : Int32) (v4 : Int32), P f → gb_pm P (ms_seenLine_54 n mm f w v2 v3 v4) := by
  intro mm
  induction mm with
  | zero =>
    intros
    exact pm_none
  | succ mm ih =>
    intro f w v2 v3 v4 h
    unfold ms_seenLine_54
    refine pm_ltV (fun x_18 => ?_)
    refine pm_if ?_ ?_
    · refine pm_bd (cm_adds hW h) (fun f_20 wl_21 _ hf_20 => ?_)
      refine pm_bd (cm_endsLine hW w5 hf_20) (fun f_25 wl_26 _ hf_25 => ?_)
      exact pm_some hf_25
    · refine pm_if ?_ ?_
      · refine pm_ck ?_
        refine pm_ltV (fun x_34 => ?_)
        refine pm_if ?_ ?_
        · refine pm_ltS (hW.1 _ _ h) (fun f_38 hf_38 => ?_)
          refine pm_ltV (fun x_39 => ?_)
          exact ih _ _ _ _ _ hf_38
        · refine pm_ltS (hW.1 _ _ h) (fun f_36 hf_36 => ?_)
          refine pm_ltV (fun x_37 => ?_)
          exact ih _ _ _ _ _ hf_36
      · refine pm_ltS (hW.1 _ _ h) (fun f_31 hf_31 => ?_)
        refine pm_ltV (fun x_32 => ?_)
        exact ih _ _ _ _ _ hf_31
theorem cm_seenLine {P : gb_F → Prop} (hW : gb_sm P) (w5 : gb_w5c P) {n : Nat} {f : gb_F} {w : Int64} (h : P f) : gb_pm P (ms_seenLine n f w) := by
  unfold ms_seenLine
  refine pm_ltV (fun x_1 => ?_)
  refine pm_bd (cm_takes hW w5 h) (fun f_2 wl_3 r_4 hf_2 => ?_)
  refine pm_if ?_ ?_
  · refine pm_ltV (fun x_40 => ?_)
    refine pm_if ?_ ?_
    · refine pm_bd (cm_pathTold hW w5 hf_2) (fun f_42 wl_43 r_44 hf_42 => ?_)
      refine pm_bd (cm_numbered hW w5 hf_42) (fun f_47 wl_48 r_49 hf_47 => ?_)
      exact cm_seenLine_54 hW w5 _ _ _ _ _ _ hf_47
    · refine pm_bd (cm_also hW w5 hf_2) (fun f_52 wl_53 _ hf_52 => ?_)
      refine pm_bd (cm_pathTold hW w5 hf_52) (fun f_57 wl_58 r_59 hf_57 => ?_)
      refine pm_bd (cm_numbered hW w5 hf_57) (fun f_62 wl_63 r_64 hf_62 => ?_)
      exact cm_seenLine_54 hW w5 _ _ _ _ _ _ hf_62
  · refine pm_bd (cm_pathTold hW w5 hf_2) (fun f_8 wl_9 r_10 hf_8 => ?_)
    refine pm_bd (cm_numbered hW w5 hf_8) (fun f_13 wl_14 r_15 hf_13 => ?_)
    exact cm_seenLine_54 hW w5 _ _ _ _ _ _ hf_13
theorem cm_placeOf {P : gb_F → Prop} (hW : gb_sm P) {n : Nat} {f : gb_F} {w : Int64} {p1 : Int32} {p2 : Int32} (h : P f) : gb_pm P (ms_placeOf n f w p1 p2) := by
  unfold ms_placeOf
  refine pm_if ?_ ?_
  · exact pm_some h
  · refine pm_if ?_ ?_
    · exact pm_some h
    · refine pm_if ?_ ?_
      · exact pm_some h
      · exact pm_some h
theorem cm_sizeOf {P : gb_F → Prop} (hW : gb_sm P) {n : Nat} {f : gb_F} {w : Int64} {p1 : Int32} (h : P f) : gb_pm P (ms_sizeOf n f w p1) := by
  unfold ms_sizeOf
  refine pm_if ?_ ?_
  · exact pm_some h
  · refine pm_if ?_ ?_
    · exact pm_some h
    · refine pm_if ?_ ?_
      · exact pm_some h
      · exact pm_some h
theorem cm_isOf {P : gb_F → Prop} (hW : gb_sm P) {n : Nat} {f : gb_F} {w : Int64} {p1 : Int32} {p2 : Int32} (h : P f) : gb_pm P (ms_isOf n f w p1 p2) := by
  unfold ms_isOf
  refine pm_ck ?_
  refine pm_ltV (fun x_2 => ?_)
  refine pm_bd (cm_isIn hW h) (fun f_3 wl_4 r_5 hf_3 => ?_)
  refine pm_cb ?_
  exact pm_some hf_3
theorem cm_text_248 {P : gb_F → Prop} (hW : gb_sm P) (w1 : gb_w1c P) {n : Nat} : ∀ (mm : Nat) (f : gb_F) (w : Int64) (v1 : Int32) (v3 : Int32) (v4 : Int32), P f → gb_pm P (ms_text_248 n mm f w v1 v3 v4) := by
  intro mm
  induction mm with
  | zero =>
    intros
    exact pm_none
  | succ mm ih =>
    intro f w v1 v3 v4 h
    unfold ms_text_248
    refine pm_bd (cm_sizeOf hW h) (fun f_36 wl_37 r_38 hf_36 => ?_)
    refine pm_if ?_ ?_
    · exact pm_some hf_36
    · refine pm_bd (cm_placeOf hW hf_36) (fun f_42 wl_43 r_44 hf_42 => ?_)
      refine pm_ck ?_
      refine pm_ltV (fun x_48 => ?_)
      refine pm_ck ?_
      refine pm_ltS (w1 _ _ hf_42) (fun f_50 hf_50 => ?_)
      refine pm_ltV (fun x_51 => ?_)
      exact ih _ _ _ _ _ hf_50
theorem cm_text_229 {P : gb_F → Prop} (hW : gb_sm P) (w1 : gb_w1c P) {n : Nat} {f : gb_F} {w : Int64} {v1 : Int32} {v2 : Int32} {t0 : Int32} (h : P f) : gb_pm P (ms_text_229 n f w v1 v2 t0) := by
  unfold ms_text_229
  refine pm_if ?_ ?_
  · refine pm_ck ?_
    refine pm_ltV (fun x_53 => ?_)
    refine pm_ck ?_
    refine pm_ltS (w1 _ _ h) (fun f_55 hf_55 => ?_)
    exact cm_text_248 hW w1 _ _ _ _ _ _ hf_55
  · exact cm_text_248 hW w1 _ _ _ _ _ _ h
theorem cm_text_203 {P : gb_F → Prop} (hW : gb_sm P) (w1 : gb_w1c P) {n : Nat} {f : gb_F} {w : Int64} {v1 : Int32} {v2 : Int32} (h : P f) : gb_pm P (ms_text_203 n f w v1 v2) := by
  unfold ms_text_203
  refine pm_ltV (fun x_32 => ?_)
  refine pm_if ?_ ?_
  · refine pm_if ?_ ?_
    · refine pm_ck ?_
      refine pm_ltV (fun x_57 => ?_)
      exact cm_text_229 hW w1 h
    · exact cm_text_229 hW w1 h
  · exact pm_some h
theorem cm_text_178 {P : gb_F → Prop} (hW : gb_sm P) (w1 : gb_w1c P) (w5 : gb_w5c P) {n : Nat} {f : gb_F} {w : Int64} {v1 : Int32} {v2 : Int32} (h : P f) : gb_pm P (ms_text_178 n f w v1 v2) := by
  unfold ms_text_178
  refine pm_ltV (fun x_30 => ?_)
  refine pm_if ?_ ?_
  · refine pm_if ?_ ?_
    · exact cm_text_203 hW w1 h
    · refine pm_bd (cm_also hW w5 h) (fun f_59 wl_60 _ hf_59 => ?_)
      exact cm_text_203 hW w1 hf_59
  · exact cm_text_203 hW w1 h
theorem cm_text_122 {P : gb_F → Prop} (hW : gb_sm P) (w1 : gb_w1c P) (w5 : gb_w5c P) {n : Nat} : ∀ (mm : Nat) (f : gb_F) (w : Int64) (v1 : Int32) (v2 : Int32), P f → gb_pm P (ms_text_122 n mm f w v1 v2) := by
  intro mm
  induction mm with
  | zero =>
    intros
    exact pm_none
  | succ mm ih =>
    intro f w v1 v2 h
    unfold ms_text_122
    refine pm_if ?_ ?_
    · refine pm_if ?_ ?_
      · exact cm_text_178 hW w1 w5 h
      · refine pm_if ?_ ?_
        · refine pm_bd (cm_borderLine hW w5 h) (fun f_83 wl_84 _ hf_83 => ?_)
          exact ih _ _ _ _ hf_83
        · refine pm_if ?_ ?_
          · refine pm_bd (cm_deedLine hW w5 h) (fun f_78 wl_79 _ hf_78 => ?_)
            exact ih _ _ _ _ hf_78
          · refine pm_if ?_ ?_
            · refine pm_bd (cm_termLine hW w5 h) (fun f_73 wl_74 _ hf_73 => ?_)
              exact ih _ _ _ _ hf_73
            · refine pm_bd (cm_seenLine hW w5 h) (fun f_68 wl_69 _ hf_68 => ?_)
              exact ih _ _ _ _ hf_68
    · exact cm_text_178 hW w1 w5 h
theorem cm_text_88 {P : gb_F → Prop} (hW : gb_sm P) (w1 : gb_w1c P) (w5 : gb_w5c P) {n : Nat} : ∀ (mm : Nat) (f : gb_F) (w : Int64) (v1 : Int32) (v2 : Int32) (v3 : Int32), P f → gb_pm P (ms_text_88 n mm f w v1 v2 v3) := by
  intro mm
  induction mm with
  | zero =>
    intros
    exact pm_none
  | succ mm ih =>
    intro f w v1 v2 v3 h
    unfold ms_text_88
    refine pm_if ?_ ?_
    · refine pm_if ?_ ?_
      · refine pm_ltS (hW.2 _ _ _ (by decide) h) (fun f_88 hf_88 => ?_)
        refine pm_bd (cm_advance hW hf_88) (fun f_89 wl_90 _ hf_89 => ?_)
        exact cm_text_122 hW w1 w5 _ _ _ _ _ hf_89
      · refine pm_bd (cm_advance hW h) (fun f_24 wl_25 _ hf_24 => ?_)
        exact cm_text_122 hW w1 w5 _ _ _ _ _ hf_24
    · refine pm_ck ?_
      refine pm_ltS (hW.2 _ _ _ (by decide) h) (fun f_95 hf_95 => ?_)
      refine pm_ltV (fun x_96 => ?_)
      exact ih _ _ _ _ _ hf_95
theorem cm_text {P : gb_F → Prop} (hW : gb_sm P) (w1 : gb_w1c P) (w5 : gb_w5c P) {n : Nat} {f : gb_F} {w : Int64} {p1 : Int32} {p2 : Int32} (h : P f) : gb_pm P (ms_text n f w p1 p2) := by
  unfold ms_text
  refine pm_ltV (fun x_1 => ?_)
  refine pm_ltS (hW.1 _ _ h) (fun f_2 hf_2 => ?_)
  refine pm_ltS (w1 _ _ hf_2) (fun f_3 hf_3 => ?_)
  refine pm_ltS (w5 _ _ hf_3).1 (fun f_4 hf_4 => ?_)
  refine pm_ltS (w5 _ _ hf_4).2 (fun f_5 hf_5 => ?_)
  refine pm_bd (cm_isIn hW hf_5) (fun f_6 wl_7 r_8 hf_6 => ?_)
  refine pm_if ?_ ?_
  · exact pm_some hf_6
  · refine pm_if ?_ ?_
    · refine pm_ck ?_
      refine pm_ltV (fun x_98 => ?_)
      refine pm_if ?_ ?_
      · refine pm_ltS (hW.1 _ _ hf_6) (fun f_100 hf_100 => ?_)
        refine pm_ltS (hW.1 _ _ hf_100) (fun f_101 hf_101 => ?_)
        refine pm_ltS (hW.1 _ _ hf_101) (fun f_102 hf_102 => ?_)
        exact cm_text_88 hW w1 w5 _ _ _ _ _ _ hf_102
      · exact pm_some hf_6
    · refine pm_bd (cm_isOf hW hf_6) (fun f_13 wl_14 r_15 hf_13 => ?_)
      refine pm_if ?_ ?_
      · exact pm_some hf_13
      · refine pm_ltS (hW.1 _ _ hf_13) (fun f_19 hf_19 => ?_)
        refine pm_ltS (hW.1 _ _ hf_19) (fun f_20 hf_20 => ?_)
        refine pm_ltS (hW.1 _ _ hf_20) (fun f_21 hf_21 => ?_)
        exact cm_text_88 hW w1 w5 _ _ _ _ _ _ hf_21
theorem cm_fault {P : gb_F → Prop} (hW : gb_sm P) {n : Nat} {f : gb_F} {w : Int64} {p1 : Int32} (h : P f) : gb_pm P (ms_fault n f w p1) := by
  unfold ms_fault
  refine pm_if ?_ ?_
  · refine pm_ltV (fun x_4 => ?_)
    exact pm_some h
  · refine pm_if ?_ ?_
    · refine pm_ltV (fun x_3 => ?_)
      exact pm_some h
    · exact pm_some h
theorem cm_isBorder {P : gb_F → Prop} (hW : gb_sm P) {n : Nat} {f : gb_F} {w : Int64} {p1 : Int32} (h : P f) : gb_pm P (ms_isBorder n f w p1) := by
  unfold ms_isBorder
  refine pm_bd (cm_isOf hW h) (fun f_1 wl_2 r_3 hf_1 => ?_)
  refine pm_if ?_ ?_
  · exact pm_some hf_1
  · refine pm_bd (cm_placeOf hW hf_1) (fun f_7 wl_8 r_9 hf_7 => ?_)
    refine pm_ltS (hW.1 _ _ hf_7) (fun f_12 hf_12 => ?_)
    exact pm_some hf_12
theorem cm_of {P : gb_F → Prop} (hW : gb_sm P) {n : Nat} {f : gb_F} {w : Int64} {p1 : Int32} (h : P f) : gb_pm P (ms_of n f w p1) := by
  unfold ms_of
  refine pm_ck ?_
  refine pm_ltV (fun x_2 => ?_)
  exact pm_some h
theorem cm_paths {P : gb_F → Prop} (hW : gb_sm P) {n : Nat} {f : gb_F} {w : Int64} (h : P f) : gb_pm P (ms_paths n f w) := by
  unfold ms_paths
  refine pm_bd (cm_of hW h) (fun f_1 wl_2 r_3 hf_1 => ?_)
  exact pm_some hf_1
theorem cm_geese {P : gb_F → Prop} (hW : gb_sm P) {n : Nat} {f : gb_F} {w : Int64} (h : P f) : gb_pm P (ms_geese n f w) := by
  unfold ms_geese
  refine pm_bd (cm_of hW h) (fun f_1 wl_2 r_3 hf_1 => ?_)
  exact pm_some hf_1
theorem cm_isPath {P : gb_F → Prop} (hW : gb_sm P) {n : Nat} {f : gb_F} {w : Int64} {p1 : Int32} (h : P f) : gb_pm P (ms_isPath n f w p1) := by
  unfold ms_isPath
  refine pm_bd (cm_paths hW h) (fun f_1 wl_2 r_3 hf_1 => ?_)
  refine pm_bd (cm_isIn hW hf_1) (fun f_6 wl_7 r_8 hf_6 => ?_)
  refine pm_cb ?_
  exact pm_some hf_6
theorem cm_isGoose {P : gb_F → Prop} (hW : gb_sm P) {n : Nat} {f : gb_F} {w : Int64} {p1 : Int32} (h : P f) : gb_pm P (ms_isGoose n f w p1) := by
  unfold ms_isGoose
  refine pm_bd (cm_geese hW h) (fun f_1 wl_2 r_3 hf_1 => ?_)
  refine pm_bd (cm_isIn hW hf_1) (fun f_6 wl_7 r_8 hf_6 => ?_)
  refine pm_cb ?_
  exact pm_some hf_6
theorem cm_ofPath {P : gb_F → Prop} (hW : gb_sm P) {n : Nat} {f : gb_F} {w : Int64} {p1 : Int32} {p2 : Int32} (h : P f) : gb_pm P (ms_ofPath n f w p1 p2) := by
  unfold ms_ofPath
  refine pm_bd (cm_of hW h) (fun f_1 wl_2 r_3 hf_1 => ?_)
  exact pm_some hf_1
theorem cm_ofGoose {P : gb_F → Prop} (hW : gb_sm P) {n : Nat} {f : gb_F} {w : Int64} {p1 : Int32} {p2 : Int32} (h : P f) : gb_pm P (ms_ofGoose n f w p1 p2) := by
  unfold ms_ofGoose
  refine pm_bd (cm_of hW h) (fun f_1 wl_2 r_3 hf_1 => ?_)
  exact pm_some hf_1
theorem cm_border {P : gb_F → Prop} (hW : gb_sm P) {n : Nat} {f : gb_F} {w : Int64} {p1 : Int32} {p2 : Int32} (h : P f) : gb_pm P (ms_border n f w p1 p2) := by
  unfold ms_border
  refine pm_bd (cm_isBorder hW h) (fun f_1 wl_2 r_3 hf_1 => ?_)
  refine pm_if ?_ ?_
  · exact pm_some hf_1
  · refine pm_bd (cm_isIn hW hf_1) (fun f_7 wl_8 r_9 hf_7 => ?_)
    refine pm_if ?_ ?_
    · refine pm_ltV (fun x_13 => ?_)
      refine pm_bd (cm_isIn hW hf_7) (fun f_14 wl_15 r_16 hf_14 => ?_)
      refine pm_if ?_ ?_
      · refine pm_bd (cm_isIn hW hf_14) (fun f_20 wl_21 r_22 hf_20 => ?_)
        refine pm_if ?_ ?_
        · exact pm_some hf_20
        · refine pm_bd (cm_isGoose hW hf_20) (fun f_26 wl_27 r_28 hf_26 => ?_)
          refine pm_if ?_ ?_
          · exact pm_some hf_26
          · refine pm_ltV (fun x_32 => ?_)
            refine pm_bd (cm_ofGoose hW hf_26) (fun f_33 wl_34 r_35 hf_33 => ?_)
            exact pm_some hf_33
      · refine pm_bd (cm_isPath hW hf_14) (fun f_38 wl_39 r_40 hf_38 => ?_)
        refine pm_if ?_ ?_
        · exact pm_some hf_38
        · refine pm_ltV (fun x_44 => ?_)
          refine pm_bd (cm_ofPath hW hf_38) (fun f_45 wl_46 r_47 hf_45 => ?_)
          exact pm_some hf_45
    · refine pm_bd (cm_of hW hf_7) (fun f_50 wl_51 r_52 hf_50 => ?_)
      exact pm_some hf_50
theorem cm_left_10 {P : gb_F → Prop} (hW : gb_sm P) {n : Nat} {f : gb_F} {w : Int64} {v1 : Int32} {v2 : Int32} {v4 : Int32} {v5 : Int32} {t0 : Int32} (h : P f) : gb_pm P (ms_left_10 n f w v1 v2 v4 v5 t0) := by
  unfold ms_left_10
  refine pm_bd (cm_ofGoose hW h) (fun f_2 wl_3 r_4 hf_2 => ?_)
  refine pm_bd (cm_ofGoose hW hf_2) (fun f_7 wl_8 r_9 hf_7 => ?_)
  refine pm_ltV (fun x_12 => ?_)
  refine pm_if ?_ ?_
  · exact pm_some hf_7
  · exact pm_some hf_7
theorem cm_left {P : gb_F → Prop} (hW : gb_sm P) {n : Nat} {f : gb_F} {w : Int64} {p1 : Int32} {p2 : Int32} {p3 : Int32} {p4 : Int32} {p5 : Int32} (h : P f) : gb_pm P (ms_left n f w p1 p2 p3 p4 p5) := by
  unfold ms_left
  refine pm_if ?_ ?_
  · exact cm_left_10 hW h
  · exact cm_left_10 hW h
theorem cm_firstMarks {P : gb_F → Prop} (hW : gb_sm P) {n : Nat} {f : gb_F} {w : Int64} {p1 : Int32} {p2 : Int32} (h : P f) : gb_pm P (ms_firstMarks n f w p1 p2) := by
  unfold ms_firstMarks
  refine pm_bd (cm_ofPath hW h) (fun f_1 wl_2 r_3 hf_1 => ?_)
  refine pm_bd (cm_ofGoose hW hf_1) (fun f_6 wl_7 r_8 hf_6 => ?_)
  refine pm_bd (cm_ofGoose hW hf_6) (fun f_11 wl_12 r_13 hf_11 => ?_)
  refine pm_bd (cm_left hW hf_11) (fun f_16 wl_17 r_18 hf_16 => ?_)
  exact pm_some hf_16
theorem cm_marks {P : gb_F → Prop} (hW : gb_sm P) {n : Nat} {f : gb_F} {w : Int64} {p1 : Int32} {p2 : Int32} {p3 : Int32} {p4 : Int32} (h : P f) : gb_pm P (ms_marks n f w p1 p2 p3 p4) := by
  unfold ms_marks
  refine pm_bd (cm_isBorder hW h) (fun f_1 wl_2 r_3 hf_1 => ?_)
  refine pm_if ?_ ?_
  · exact pm_some hf_1
  · refine pm_bd (cm_isGoose hW hf_1) (fun f_7 wl_8 r_9 hf_7 => ?_)
    refine pm_if ?_ ?_
    · exact pm_some hf_7
    · refine pm_bd (cm_isPath hW hf_7) (fun f_13 wl_14 r_15 hf_13 => ?_)
      refine pm_if ?_ ?_
      · exact pm_some hf_13
      · refine pm_bd (cm_ofPath hW hf_13) (fun f_19 wl_20 r_21 hf_19 => ?_)
        refine pm_bd (cm_ofGoose hW hf_19) (fun f_24 wl_25 r_26 hf_24 => ?_)
        refine pm_bd (cm_ofGoose hW hf_24) (fun f_29 wl_30 r_31 hf_29 => ?_)
        refine pm_bd (cm_left hW hf_29) (fun f_34 wl_35 r_36 hf_34 => ?_)
        exact pm_some hf_34
theorem cm_deeds {P : gb_F → Prop} (hW : gb_sm P) {n : Nat} {f : gb_F} {w : Int64} (h : P f) : gb_pm P (ms_deeds n f w) := by
  unfold ms_deeds
  refine pm_ck ?_
  refine pm_ltV (fun x_2 => ?_)
  exact pm_some h
theorem cm_deedOf {P : gb_F → Prop} (hW : gb_sm P) {n : Nat} {f : gb_F} {w : Int64} {p1 : Int32} {p2 : Int32} (h : P f) : gb_pm P (ms_deedOf n f w p1 p2) := by
  unfold ms_deedOf
  refine pm_ck ?_
  refine pm_ltV (fun x_2 => ?_)
  exact pm_some h
theorem cm_deed {P : gb_F → Prop} (hW : gb_sm P) {n : Nat} {f : gb_F} {w : Int64} {p1 : Int32} {p2 : Int32} {p3 : Int32} (h : P f) : gb_pm P (ms_deed n f w p1 p2 p3) := by
  unfold ms_deed
  refine pm_bd (cm_isOf hW h) (fun f_1 wl_2 r_3 hf_1 => ?_)
  refine pm_if ?_ ?_
  · exact pm_some hf_1
  · refine pm_bd (cm_placeOf hW hf_1) (fun f_7 wl_8 r_9 hf_7 => ?_)
    refine pm_ltS (hW.1 _ _ hf_7) (fun f_12 hf_12 => ?_)
    refine pm_if ?_ ?_
    · refine pm_if ?_ ?_
      · refine pm_bd (cm_deeds hW hf_12) (fun f_37 wl_38 r_39 hf_37 => ?_)
        exact pm_some hf_37
      · exact pm_some hf_12
    · refine pm_bd (cm_deeds hW hf_12) (fun f_14 wl_15 r_16 hf_14 => ?_)
      refine pm_bd (cm_isIn hW hf_14) (fun f_19 wl_20 r_21 hf_19 => ?_)
      refine pm_if ?_ ?_
      · exact pm_some hf_19
      · refine pm_bd (cm_isIn hW hf_19) (fun f_25 wl_26 r_27 hf_25 => ?_)
        refine pm_if ?_ ?_
        · exact pm_some hf_25
        · refine pm_bd (cm_deedOf hW hf_25) (fun f_31 wl_32 r_33 hf_31 => ?_)
          exact pm_some hf_31
theorem cm_begins_105 {P : gb_F → Prop} (hW : gb_sm P) {n : Nat} : ∀ (mm : Nat) (f : gb_F) (w : Int64) (v1 : Int32), P f → gb_pm P (ms_begins_105 n mm f w v1) := by
  intro mm
  induction mm with
  | zero =>
    intros
    exact pm_none
  | succ mm ih =>
    intro f w v1 h
    unfold ms_begins_105
    refine pm_if ?_ ?_
    · refine pm_ltS (hW.1 _ _ h) (fun f_3 hf_3 => ?_)
      refine pm_ltS (hW.1 _ _ hf_3) (fun f_4 hf_4 => ?_)
      exact pm_some hf_4
    · refine pm_ck ?_
      refine pm_ltS (hW.2 _ _ _ (by decide) h) (fun f_6 hf_6 => ?_)
      refine pm_ck ?_
      refine pm_ltS (hW.2 _ _ _ (by decide) hf_6) (fun f_8 hf_8 => ?_)
      refine pm_ck ?_
      refine pm_ltS (hW.2 _ _ _ (by decide) hf_8) (fun f_10 hf_10 => ?_)
      refine pm_ltV (fun x_11 => ?_)
      exact ih _ _ _ hf_10
theorem cm_begins_75 {P : gb_F → Prop} (hW : gb_sm P) {n : Nat} {k2 : gb_F → Int64 → Int32 → gb_MR Unit} (h_k2 : ∀ (s : gb_F) (x1 : Int64) (x2 : Int32), P s → gb_pm P (k2 s x1 x2)) : ∀ (mm : Nat) (f : gb_F) (w : Int64) (v1 : Int32) (v2 : Int32), P f → gb_pm P (ms_begins_75 n k2 mm f w v1 v2) := by
  intro mm
  induction mm with
  | zero =>
    intros
    exact pm_none
  | succ mm ih =>
    intro f w v1 v2 h
    unfold ms_begins_75
    refine pm_if ?_ ?_
    · refine pm_ltV (fun x_32 => ?_)
      exact h_k2 _ _ _ h
    · refine pm_ck ?_
      refine pm_ltS (hW.2 _ _ _ (by decide) h) (fun f_34 hf_34 => ?_)
      refine pm_ltV (fun x_35 => ?_)
      exact ih _ _ _ _ hf_34
theorem cm_begins_38 {P : gb_F → Prop} (hW : gb_sm P) {n : Nat} {k2 : gb_F → Int64 → Int32 → gb_MR Unit} (h_k2 : ∀ (s : gb_F) (x1 : Int64) (x2 : Int32), P s → gb_pm P (k2 s x1 x2)) {f : gb_F} {w : Int64} {v1 : Int32} {t0 : Int32} {t1 : Int32} (h : P f) : gb_pm P (ms_begins_38 n k2 f w v1 t0 t1) := by
  unfold ms_begins_38
  refine pm_ck ?_
  refine pm_ltS (hW.2 _ _ _ (by decide) h) (fun f_21 hf_21 => ?_)
  refine pm_ck ?_
  refine pm_ltV (fun x_23 => ?_)
  refine pm_if ?_ ?_
  · refine pm_ck ?_
    refine pm_ltS (hW.2 _ _ _ (by decide) hf_21) (fun f_26 hf_26 => ?_)
    refine pm_ck ?_
    refine pm_ltS (hW.2 _ _ _ (by decide) hf_26) (fun f_28 hf_28 => ?_)
    refine pm_ck ?_
    refine pm_ltS (hW.2 _ _ _ (by decide) hf_28) (fun f_30 hf_30 => ?_)
    exact cm_begins_75 hW h_k2 _ _ _ _ _ hf_30
  · refine pm_ck ?_
    refine pm_ltS (hW.2 _ _ _ (by decide) hf_21) (fun f_37 hf_37 => ?_)
    refine pm_ck ?_
    refine pm_ltS (hW.2 _ _ _ (by decide) hf_37) (fun f_39 hf_39 => ?_)
    refine pm_ck ?_
    refine pm_ltS (hW.2 _ _ _ (by decide) hf_39) (fun f_41 hf_41 => ?_)
    exact cm_begins_75 hW h_k2 _ _ _ _ _ hf_41
theorem cm_begins_2 {P : gb_F → Prop} (hW : gb_sm P) {n : Nat} : ∀ (mm : Nat) (f : gb_F) (w : Int64) (v1 : Int32), P f → gb_pm P (ms_begins_2 n mm f w v1) := by
  intro mm
  induction mm with
  | zero =>
    intros
    exact pm_none
  | succ mm ih =>
    intro f w v1 h
    unfold ms_begins_2
    refine pm_if ?_ ?_
    · exact cm_begins_105 hW _ _ _ _ h
    · refine pm_ck ?_
      refine pm_ltS (hW.2 _ _ _ (by decide) h) (fun f_13 hf_13 => ?_)
      refine pm_bd (cm_isGoose hW hf_13) (fun f_14 wl_15 r_16 hf_14 => ?_)
      refine pm_if ?_ ?_
      · refine cm_begins_38 hW ?_ hf_14
        · intro f w v1 hf
          exact ih _ _ _ hf
      · refine pm_bd (cm_ofGoose hW hf_14) (fun f_42 wl_43 r_44 hf_42 => ?_)
        refine cm_begins_38 hW ?_ hf_42
        · intro f w v1 hf
          exact ih _ _ _ hf
theorem cm_begins {P : gb_F → Prop} (hW : gb_sm P) {n : Nat} {f : gb_F} {w : Int64} (h : P f) : gb_pm P (ms_begins n f w) := by
  unfold ms_begins
  exact cm_begins_2 hW _ _ _ _ h
theorem cm_foxed_4 {P : gb_F → Prop} (hW : gb_sm P) {n : Nat} : ∀ (mm : Nat) (f : gb_F) (w : Int64) (v1 : Int32) (v2 : Int32) (v3 : Int32), P f → gb_pm P (ms_foxed_4 n mm f w v1 v2 v3) := by
  intro mm
  induction mm with
  | zero =>
    intros
    exact pm_none
  | succ mm ih =>
    intro f w v1 v2 v3 h
    unfold ms_foxed_4
    refine pm_bd (cm_geese hW h) (fun f_1 wl_2 r_3 hf_1 => ?_)
    refine pm_if ?_ ?_
    · exact pm_some hf_1
    · refine pm_ck ?_
      refine pm_ltV (fun x_8 => ?_)
      refine pm_if ?_ ?_
      · refine pm_ltV (fun x_10 => ?_)
        exact ih _ _ _ _ _ hf_1
      · refine pm_ck ?_
        refine pm_ltV (fun x_12 => ?_)
        refine pm_if ?_ ?_
        · refine pm_ltV (fun x_23 => ?_)
          exact ih _ _ _ _ _ hf_1
        · refine pm_if ?_ ?_
          · refine pm_ltV (fun x_15 => ?_)
            exact ih _ _ _ _ _ hf_1
          · refine pm_ck ?_
            refine pm_ltV (fun x_17 => ?_)
            refine pm_ck ?_
            refine pm_ltV (fun x_19 => ?_)
            refine pm_if ?_ ?_
            · refine pm_ltV (fun x_21 => ?_)
              exact ih _ _ _ _ _ hf_1
            · refine pm_ltV (fun x_22 => ?_)
              exact ih _ _ _ _ _ hf_1
theorem cm_foxed {P : gb_F → Prop} (hW : gb_sm P) {n : Nat} {f : gb_F} {w : Int64} {p1 : Int32} (h : P f) : gb_pm P (ms_foxed n f w p1) := by
  unfold ms_foxed
  exact cm_foxed_4 hW _ _ _ _ _ _ h
theorem cm_isAt {P : gb_F → Prop} (hW : gb_sm P) {n : Nat} {f : gb_F} {w : Int64} {p1 : Int32} {p2 : Int32} (h : P f) : gb_pm P (ms_isAt n f w p1 p2) := by
  unfold ms_isAt
  refine pm_bd (cm_isGoose hW h) (fun f_1 wl_2 r_3 hf_1 => ?_)
  refine pm_if ?_ ?_
  · exact pm_some hf_1
  · refine pm_ck ?_
    refine pm_ltV (fun x_8 => ?_)
    refine pm_if ?_ ?_
    · exact pm_some hf_1
    · exact pm_some hf_1
theorem cm_can {P : gb_F → Prop} (hW : gb_sm P) {n : Nat} {f : gb_F} {w : Int64} {p1 : Int32} (h : P f) : gb_pm P (ms_can n f w p1) := by
  unfold ms_can
  refine pm_bd (cm_deedOf hW h) (fun f_1 wl_2 r_3 hf_1 => ?_)
  refine pm_bd (cm_deedOf hW hf_1) (fun f_6 wl_7 r_8 hf_6 => ?_)
  refine pm_bd (cm_deedOf hW hf_6) (fun f_11 wl_12 r_13 hf_11 => ?_)
  refine pm_if ?_ ?_
  · refine pm_bd (cm_isAt hW hf_11) (fun f_17 wl_18 r_19 hf_17 => ?_)
    refine pm_if ?_ ?_
    · exact pm_some hf_17
    · refine pm_bd (cm_isPath hW hf_17) (fun f_23 wl_24 r_25 hf_23 => ?_)
      refine pm_if ?_ ?_
      · exact pm_some hf_23
      · exact pm_some hf_23
  · refine pm_if ?_ ?_
    · refine pm_bd (cm_isAt hW hf_11) (fun f_30 wl_31 r_32 hf_30 => ?_)
      refine pm_if ?_ ?_
      · exact pm_some hf_30
      · refine pm_bd (cm_isPath hW hf_30) (fun f_36 wl_37 r_38 hf_36 => ?_)
        refine pm_if ?_ ?_
        · exact pm_some hf_36
        · exact pm_some hf_36
    · refine pm_if ?_ ?_
      · refine pm_bd (cm_isAt hW hf_11) (fun f_43 wl_44 r_45 hf_43 => ?_)
        refine pm_if ?_ ?_
        · exact pm_some hf_43
        · refine pm_bd (cm_isPath hW hf_43) (fun f_49 wl_50 r_51 hf_49 => ?_)
          refine pm_if ?_ ?_
          · exact pm_some hf_49
          · exact pm_some hf_49
      · refine pm_if ?_ ?_
        · refine pm_bd (cm_isAt hW hf_11) (fun f_56 wl_57 r_58 hf_56 => ?_)
          refine pm_if ?_ ?_
          · exact pm_some hf_56
          · refine pm_bd (cm_isAt hW hf_56) (fun f_62 wl_63 r_64 hf_62 => ?_)
            refine pm_if ?_ ?_
            · exact pm_some hf_62
            · refine pm_bd (cm_deedOf hW hf_62) (fun f_68 wl_69 r_70 hf_68 => ?_)
              refine pm_bd (cm_isPath hW hf_68) (fun f_73 wl_74 r_75 hf_73 => ?_)
              refine pm_if ?_ ?_
              · exact pm_some hf_73
              · exact pm_some hf_73
        · refine pm_if ?_ ?_
          · refine pm_bd (cm_isGoose hW hf_11) (fun f_80 wl_81 r_82 hf_80 => ?_)
            refine pm_if ?_ ?_
            · exact pm_some hf_80
            · refine pm_ck ?_
              refine pm_ltV (fun x_87 => ?_)
              refine pm_if ?_ ?_
              · exact pm_some hf_80
              · exact pm_some hf_80
          · refine pm_if ?_ ?_
            · exact pm_some hf_11
            · refine pm_if ?_ ?_
              · exact pm_some hf_11
              · refine pm_if ?_ ?_
                · exact pm_some hf_11
                · refine pm_if ?_ ?_
                  · refine pm_bd (cm_isPath hW hf_11) (fun f_93 wl_94 r_95 hf_93 => ?_)
                    refine pm_if ?_ ?_
                    · exact pm_some hf_93
                    · refine pm_bd (cm_foxed hW hf_93) (fun f_99 wl_100 r_101 hf_99 => ?_)
                      refine pm_if ?_ ?_
                      · exact pm_some hf_99
                      · exact pm_some hf_99
                  · exact pm_some hf_11
theorem cm_walks_122 {P : gb_F → Prop} (hW : gb_sm P) {n : Nat} {f : gb_F} {w : Int64} {v1 : Int32} {v2 : Int32} {v3 : Int32} {v5 : Int32} (h : P f) : gb_pm P (ms_walks_122 n f w v1 v2 v3 v5) := by
  unfold ms_walks_122
  refine pm_ck ?_
  refine pm_ltS (hW.2 _ _ _ (by decide) h) (fun f_25 hf_25 => ?_)
  refine pm_ck ?_
  refine pm_ltS (hW.2 _ _ _ (by decide) hf_25) (fun f_27 hf_27 => ?_)
  refine pm_ck ?_
  refine pm_ltS (hW.2 _ _ _ (by decide) hf_27) (fun f_29 hf_29 => ?_)
  exact pm_some hf_29
theorem cm_walks_120 {P : gb_F → Prop} (hW : gb_sm P) {n : Nat} {f : gb_F} {w : Int64} {v1 : Int32} {v2 : Int32} {v3 : Int32} {v5 : Int32} {t0 : Int32} {t1 : Int32} {t2 : Int32} (h : P f) : gb_pm P (ms_walks_120 n f w v1 v2 v3 v5 t0 t1 t2) := by
  unfold ms_walks_120
  refine pm_ck ?_
  refine pm_ltS (hW.2 _ _ _ (by decide) h) (fun f_43 hf_43 => ?_)
  exact cm_walks_122 hW hf_43
theorem cm_walks_100 {P : gb_F → Prop} (hW : gb_sm P) {n : Nat} {f : gb_F} {w : Int64} {v1 : Int32} {v2 : Int32} {v3 : Int32} {v4 : Int32} {v5 : Int32} {v7 : Int32} {t0 : Int32} {t1 : Int32} {t2 : Int32} (h : P f) : gb_pm P (ms_walks_100 n f w v1 v2 v3 v4 v5 v7 t0 t1 t2) := by
  unfold ms_walks_100
  refine pm_ck ?_
  refine pm_ltS (hW.2 _ _ _ (by decide) h) (fun f_38 hf_38 => ?_)
  refine pm_ck ?_
  refine pm_ltV (fun x_40 => ?_)
  refine pm_if ?_ ?_
  · exact cm_walks_120 hW hf_38
  · exact cm_walks_120 hW hf_38
theorem cm_walks_62 {P : gb_F → Prop} (hW : gb_sm P) {n : Nat} {f : gb_F} {w : Int64} {v1 : Int32} {v2 : Int32} {v3 : Int32} {v4 : Int32} {v5 : Int32} {v7 : Int32} {t0 : Int32} {t1 : Int32} (h : P f) : gb_pm P (ms_walks_62 n f w v1 v2 v3 v4 v5 v7 t0 t1) := by
  unfold ms_walks_62
  refine pm_ck ?_
  refine pm_ltS (hW.2 _ _ _ (by decide) h) (fun f_22 hf_22 => ?_)
  refine pm_if ?_ ?_
  · exact cm_walks_122 hW hf_22
  · refine pm_ck ?_
    refine pm_ltV (fun x_31 => ?_)
    refine pm_ck ?_
    refine pm_ltS (hW.2 _ _ _ (by decide) hf_22) (fun f_33 hf_33 => ?_)
    refine pm_ck ?_
    refine pm_ltV (fun x_35 => ?_)
    refine pm_if ?_ ?_
    · exact cm_walks_100 hW hf_33
    · exact cm_walks_100 hW hf_33
theorem cm_walks {P : gb_F → Prop} (hW : gb_sm P) {n : Nat} {f : gb_F} {w : Int64} {p1 : Int32} {p2 : Int32} {p3 : Int32} {p4 : Int32} {p5 : Int32} (h : P f) : gb_pm P (ms_walks n f w p1 p2 p3 p4 p5) := by
  unfold ms_walks
  refine pm_bd (cm_ofPath hW h) (fun f_1 wl_2 r_3 hf_1 => ?_)
  refine pm_ck ?_
  refine pm_ltV (fun x_7 => ?_)
  refine pm_bd (cm_ofGoose hW hf_1) (fun f_8 wl_9 r_10 hf_8 => ?_)
  refine pm_bd (cm_left hW hf_8) (fun f_13 wl_14 r_15 hf_13 => ?_)
  refine pm_ck ?_
  refine pm_ltV (fun x_19 => ?_)
  refine pm_if ?_ ?_
  · exact cm_walks_62 hW hf_13
  · refine pm_ck ?_
    refine pm_ltV (fun x_45 => ?_)
    exact cm_walks_62 hW hf_13
theorem cm_rains_2 {P : gb_F → Prop} (hW : gb_sm P) {n : Nat} : ∀ (mm : Nat) (f : gb_F) (w : Int64) (v1 : Int32) (v2 : Int32), P f → gb_pm P (ms_rains_2 n mm f w v1 v2) := by
  intro mm
  induction mm with
  | zero =>
    intros
    exact pm_none
  | succ mm ih =>
    intro f w v1 v2 h
    unfold ms_rains_2
    refine pm_bd (cm_paths hW h) (fun f_1 wl_2 r_3 hf_1 => ?_)
    refine pm_if ?_ ?_
    · exact pm_some hf_1
    · refine pm_ck ?_
      refine pm_ltV (fun x_8 => ?_)
      refine pm_ltV (fun x_9 => ?_)
      refine pm_ck ?_
      refine pm_ltV (fun x_11 => ?_)
      refine pm_ltV (fun x_12 => ?_)
      refine pm_ck ?_
      refine pm_ltV (fun x_14 => ?_)
      refine pm_ck ?_
      refine pm_ltS (hW.2 _ _ _ (by decide) hf_1) (fun f_16 hf_16 => ?_)
      refine pm_ck ?_
      refine pm_ltV (fun x_18 => ?_)
      refine pm_ck ?_
      refine pm_ltS (hW.2 _ _ _ (by decide) hf_16) (fun f_20 hf_20 => ?_)
      refine pm_ck ?_
      refine pm_ltV (fun x_22 => ?_)
      refine pm_ck ?_
      refine pm_ltS (hW.2 _ _ _ (by decide) hf_20) (fun f_24 hf_24 => ?_)
      refine pm_ltV (fun x_25 => ?_)
      exact ih _ _ _ _ hf_24
theorem cm_rains {P : gb_F → Prop} (hW : gb_sm P) {n : Nat} {f : gb_F} {w : Int64} {p1 : Int32} (h : P f) : gb_pm P (ms_rains n f w p1) := by
  unfold ms_rains
  exact cm_rains_2 hW _ _ _ _ _ h
theorem cm_does {P : gb_F → Prop} (hW : gb_sm P) {n : Nat} {f : gb_F} {w : Int64} {p1 : Int32} (h : P f) : gb_pm P (ms_does n f w p1) := by
  unfold ms_does
  refine pm_bd (cm_deedOf hW h) (fun f_1 wl_2 r_3 hf_1 => ?_)
  refine pm_bd (cm_deedOf hW hf_1) (fun f_6 wl_7 r_8 hf_6 => ?_)
  refine pm_bd (cm_deedOf hW hf_6) (fun f_11 wl_12 r_13 hf_11 => ?_)
  refine pm_if ?_ ?_
  · refine pm_bd (cm_walks hW hf_11) (fun f_17 wl_18 _ hf_17 => ?_)
    exact pm_some hf_17
  · refine pm_if ?_ ?_
    · refine pm_bd (cm_walks hW hf_11) (fun f_23 wl_24 _ hf_23 => ?_)
      exact pm_some hf_23
    · refine pm_if ?_ ?_
      · refine pm_bd (cm_walks hW hf_11) (fun f_29 wl_30 _ hf_29 => ?_)
        exact pm_some hf_29
      · refine pm_if ?_ ?_
        · refine pm_bd (cm_deedOf hW hf_11) (fun f_35 wl_36 r_37 hf_35 => ?_)
          refine pm_bd (cm_walks hW hf_35) (fun f_40 wl_41 _ hf_40 => ?_)
          refine pm_ck ?_
          refine pm_ltS (hW.2 _ _ _ (by decide) hf_40) (fun f_46 hf_46 => ?_)
          refine pm_bd (cm_deedOf hW hf_46) (fun f_47 wl_48 r_49 hf_47 => ?_)
          refine pm_ck ?_
          refine pm_ltS (hW.2 _ _ _ (by decide) hf_47) (fun f_53 hf_53 => ?_)
          exact pm_some hf_53
        · refine pm_if ?_ ?_
          · refine pm_ck ?_
            refine pm_ltS (hW.2 _ _ _ (by decide) hf_11) (fun f_56 hf_56 => ?_)
            refine pm_ck ?_
            refine pm_ltS (hW.2 _ _ _ (by decide) hf_56) (fun f_58 hf_58 => ?_)
            exact pm_some hf_58
          · refine pm_if ?_ ?_
            · refine pm_bd (cm_rains hW hf_11) (fun f_60 wl_61 _ hf_60 => ?_)
              exact pm_some hf_60
            · refine pm_if ?_ ?_
              · refine pm_ltS (hW.1 _ _ hf_11) (fun f_66 hf_66 => ?_)
                exact pm_some hf_66
              · refine pm_if ?_ ?_
                · refine pm_ltS (hW.1 _ _ hf_11) (fun f_68 hf_68 => ?_)
                  exact pm_some hf_68
                · refine pm_bd (cm_foxed hW hf_11) (fun f_69 wl_70 r_71 hf_69 => ?_)
                  refine pm_ck ?_
                  refine pm_ltS (hW.2 _ _ _ (by decide) hf_69) (fun f_75 hf_75 => ?_)
                  exact pm_some hf_75
theorem cm_areTold {P : gb_F → Prop} (hW : gb_sm P) {n : Nat} {f : gb_F} {w : Int64} {p1 : Int32} {p2 : Int32} (h : P f) : gb_pm P (ms_areTold n f w p1 p2) := by
  unfold ms_areTold
  refine pm_bd (cm_isBorder hW h) (fun f_1 wl_2 r_3 hf_1 => ?_)
  refine pm_if ?_ ?_
  · exact pm_some hf_1
  · refine pm_bd (cm_isOf hW hf_1) (fun f_7 wl_8 r_9 hf_7 => ?_)
    refine pm_if ?_ ?_
    · exact pm_some hf_7
    · refine pm_bd (cm_placeOf hW hf_7) (fun f_13 wl_14 r_15 hf_13 => ?_)
      refine pm_ltS (hW.1 _ _ hf_13) (fun f_18 hf_18 => ?_)
      refine pm_ltS (hW.1 _ _ hf_18) (fun f_19 hf_19 => ?_)
      exact pm_some hf_19
theorem cm_runs_4 {P : gb_F → Prop} (hW : gb_sm P) {n : Nat} : ∀ (mm : Nat) (f : gb_F) (w : Int64) (v1 : Int32), P f → gb_pm P (ms_runs_4 n mm f w v1) := by
  intro mm
  induction mm with
  | zero =>
    intros
    exact pm_none
  | succ mm ih =>
    intro f w v1 h
    unfold ms_runs_4
    refine pm_if ?_ ?_
    · exact pm_some h
    · refine pm_bd (cm_deeds hW h) (fun f_7 wl_8 r_9 hf_7 => ?_)
      refine pm_if ?_ ?_
      · exact pm_some hf_7
      · refine pm_bd (cm_can hW hf_7) (fun f_13 wl_14 r_15 hf_13 => ?_)
        refine pm_if ?_ ?_
        · exact pm_some hf_13
        · refine pm_bd (cm_does hW hf_13) (fun f_19 wl_20 _ hf_19 => ?_)
          refine pm_ltS (hW.1 _ _ hf_19) (fun f_24 hf_24 => ?_)
          exact ih _ _ _ hf_24
theorem cm_runs {P : gb_F → Prop} (hW : gb_sm P) {n : Nat} {f : gb_F} {w : Int64} {p1 : Int32} (h : P f) : gb_pm P (ms_runs n f w p1) := by
  unfold ms_runs
  refine pm_bd (cm_begins hW h) (fun f_1 wl_2 _ hf_1 => ?_)
  exact cm_runs_4 hW _ _ _ _ hf_1
theorem cm_stop {P : gb_F → Prop} (hW : gb_sm P) {n : Nat} {f : gb_F} {w : Int64} {p1 : Int32} {p2 : Int32} (h : P f) : gb_pm P (ms_stop n f w p1 p2) := by
  unfold ms_stop
  refine pm_bd (cm_areTold hW h) (fun f_1 wl_2 r_3 hf_1 => ?_)
  refine pm_if ?_ ?_
  · exact pm_some hf_1
  · refine pm_bd (cm_runs hW hf_1) (fun f_7 wl_8 _ hf_7 => ?_)
    exact pm_some hf_7
theorem cm_isState {P : gb_F → Prop} (hW : gb_sm P) {n : Nat} {f : gb_F} {w : Int64} {p1 : Int32} {p2 : Int32} {p3 : Int32} (h : P f) : gb_pm P (ms_isState n f w p1 p2 p3) := by
  unfold ms_isState
  refine pm_bd (cm_areTold hW h) (fun f_1 wl_2 r_3 hf_1 => ?_)
  refine pm_if ?_ ?_
  · exact pm_some hf_1
  · refine pm_if ?_ ?_
    · refine pm_bd (cm_runs hW hf_1) (fun f_8 wl_9 _ hf_8 => ?_)
      refine pm_if ?_ ?_
      · exact pm_some hf_8
      · exact pm_some hf_8
    · exact pm_some hf_1
theorem cm_goose {P : gb_F → Prop} (hW : gb_sm P) {n : Nat} {f : gb_F} {w : Int64} {p1 : Int32} {p2 : Int32} {p3 : Int32} {p4 : Int32} {p5 : Int32} (h : P f) : gb_pm P (ms_goose n f w p1 p2 p3 p4 p5) := by
  unfold ms_goose
  refine pm_bd (cm_isState hW h) (fun f_1 wl_2 r_3 hf_1 => ?_)
  refine pm_if ?_ ?_
  · exact pm_some hf_1
  · refine pm_bd (cm_isGoose hW hf_1) (fun f_7 wl_8 r_9 hf_7 => ?_)
    refine pm_if ?_ ?_
    · exact pm_some hf_7
    · refine pm_if ?_ ?_
      · refine pm_ck ?_
        refine pm_ltV (fun x_24 => ?_)
        exact pm_some hf_7
      · refine pm_if ?_ ?_
        · refine pm_ck ?_
          refine pm_ltV (fun x_22 => ?_)
          exact pm_some hf_7
        · refine pm_if ?_ ?_
          · refine pm_ck ?_
            refine pm_ltV (fun x_20 => ?_)
            exact pm_some hf_7
          · refine pm_if ?_ ?_
            · refine pm_ck ?_
              refine pm_ltV (fun x_18 => ?_)
              exact pm_some hf_7
            · exact pm_some hf_7
theorem cm_tally {P : gb_F → Prop} (hW : gb_sm P) {n : Nat} {f : gb_F} {w : Int64} {p1 : Int32} (h : P f) : gb_pm P (ms_tally n f w p1) := by
  unfold ms_tally
  refine pm_ck ?_
  refine pm_ltV (fun x_2 => ?_)
  refine pm_ck ?_
  refine pm_ltV (fun x_4 => ?_)
  refine pm_if ?_ ?_
  · exact pm_some h
  · refine pm_ck ?_
    refine pm_ltV (fun x_7 => ?_)
    refine pm_ck ?_
    refine pm_ltV (fun x_9 => ?_)
    exact pm_some h
theorem cm_padded {P : gb_F → Prop} (hW : gb_sm P) {n : Nat} {f : gb_F} {w : Int64} {p1 : Int32} {p2 : Int32} (h : P f) : gb_pm P (ms_padded n f w p1 p2) := by
  unfold ms_padded
  refine pm_bd (cm_ofPath hW h) (fun f_1 wl_2 r_3 hf_1 => ?_)
  refine pm_ltV (fun x_6 => ?_)
  exact pm_some hf_1
theorem cm_pay {P : gb_F → Prop} (hW : gb_sm P) {n : Nat} {f : gb_F} {w : Int64} {p1 : Int32} (h : P f) : gb_pm P (ms_pay n f w p1) := by
  unfold ms_pay
  refine pm_bd (cm_ofPath hW h) (fun f_1 wl_2 r_3 hf_1 => ?_)
  refine pm_bd (cm_tally hW hf_1) (fun f_6 wl_7 r_8 hf_6 => ?_)
  refine pm_bd (cm_padded hW hf_6) (fun f_11 wl_12 r_13 hf_11 => ?_)
  exact pm_some hf_11
theorem cm_allPay_4 {P : gb_F → Prop} (hW : gb_sm P) {n : Nat} : ∀ (mm : Nat) (f : gb_F) (w : Int64) (v1 : Int32) (v2 : Int32), P f → gb_pm P (ms_allPay_4 n mm f w v1 v2) := by
  intro mm
  induction mm with
  | zero =>
    intros
    exact pm_none
  | succ mm ih =>
    intro f w v1 v2 h
    unfold ms_allPay_4
    refine pm_bd (cm_paths hW h) (fun f_1 wl_2 r_3 hf_1 => ?_)
    refine pm_if ?_ ?_
    · exact pm_some hf_1
    · refine pm_bd (cm_pay hW hf_1) (fun f_7 wl_8 r_9 hf_7 => ?_)
      refine pm_ltV (fun x_12 => ?_)
      refine pm_ltV (fun x_13 => ?_)
      exact ih _ _ _ _ hf_7
theorem cm_allPay {P : gb_F → Prop} (hW : gb_sm P) {n : Nat} {f : gb_F} {w : Int64} (h : P f) : gb_pm P (ms_allPay n f w) := by
  unfold ms_allPay
  exact cm_allPay_4 hW _ _ _ _ _ h
theorem cm_path {P : gb_F → Prop} (hW : gb_sm P) {n : Nat} {f : gb_F} {w : Int64} {p1 : Int32} {p2 : Int32} {p3 : Int32} {p4 : Int32} {p5 : Int32} (h : P f) : gb_pm P (ms_path n f w p1 p2 p3 p4 p5) := by
  unfold ms_path
  refine pm_bd (cm_isState hW h) (fun f_1 wl_2 r_3 hf_1 => ?_)
  refine pm_if ?_ ?_
  · exact pm_some hf_1
  · refine pm_bd (cm_isPath hW hf_1) (fun f_7 wl_8 r_9 hf_7 => ?_)
    refine pm_if ?_ ?_
    · exact pm_some hf_7
    · refine pm_if ?_ ?_
      · refine pm_ck ?_
        refine pm_ltV (fun x_15 => ?_)
        exact pm_some hf_7
      · refine pm_if ?_ ?_
        · refine pm_ck ?_
          refine pm_ltV (fun x_18 => ?_)
          exact pm_some hf_7
        · refine pm_if ?_ ?_
          · refine pm_bd (cm_tally hW hf_7) (fun f_20 wl_21 r_22 hf_20 => ?_)
            exact pm_some hf_20
          · refine pm_if ?_ ?_
            · refine pm_bd (cm_tally hW hf_7) (fun f_26 wl_27 r_28 hf_26 => ?_)
              refine pm_bd (cm_padded hW hf_26) (fun f_31 wl_32 r_33 hf_31 => ?_)
              exact pm_some hf_31
            · refine pm_if ?_ ?_
              · refine pm_bd (cm_pay hW hf_7) (fun f_37 wl_38 r_39 hf_37 => ?_)
                exact pm_some hf_37
              · refine pm_if ?_ ?_
                · refine pm_ck ?_
                  refine pm_ltV (fun x_44 => ?_)
                  exact pm_some hf_7
                · exact pm_some hf_7
theorem cm_worn_4 {P : gb_F → Prop} (hW : gb_sm P) {n : Nat} : ∀ (mm : Nat) (f : gb_F) (w : Int64) (v1 : Int32) (v2 : Int32), P f → gb_pm P (ms_worn_4 n mm f w v1 v2) := by
  intro mm
  induction mm with
  | zero =>
    intros
    exact pm_none
  | succ mm ih =>
    intro f w v1 v2 h
    unfold ms_worn_4
    refine pm_bd (cm_geese hW h) (fun f_1 wl_2 r_3 hf_1 => ?_)
    refine pm_if ?_ ?_
    · exact pm_some hf_1
    · refine pm_ck ?_
      refine pm_ltV (fun x_8 => ?_)
      refine pm_if ?_ ?_
      · refine pm_ltV (fun x_10 => ?_)
        refine pm_ltV (fun x_11 => ?_)
        exact ih _ _ _ _ hf_1
      · refine pm_ck ?_
        refine pm_ltV (fun x_13 => ?_)
        refine pm_if ?_ ?_
        · refine pm_ltV (fun x_17 => ?_)
          refine pm_ltV (fun x_18 => ?_)
          exact ih _ _ _ _ hf_1
        · refine pm_ltV (fun x_15 => ?_)
          refine pm_ltV (fun x_16 => ?_)
          exact ih _ _ _ _ hf_1
theorem cm_worn {P : gb_F → Prop} (hW : gb_sm P) {n : Nat} {f : gb_F} {w : Int64} (h : P f) : gb_pm P (ms_worn n f w) := by
  unfold ms_worn
  exact cm_worn_4 hW _ _ _ _ _ h
theorem cm_state_112 {P : gb_F → Prop} (hW : gb_sm P) {n : Nat} {k79 : gb_F → Int64 → Int32 → Int32 → Int32 → Int32 → gb_MR Int32} (h_k79 : ∀ (s : gb_F) (x1 : Int64) (x2 : Int32) (x3 : Int32) (x4 : Int32) (x5 : Int32), P s → gb_pm P (k79 s x1 x2 x3 x4 x5)) {f : gb_F} {w : Int64} {v4 : Int32} {v6 : Int32} {v7 : Int32} {t0 : Int32} {t1 : Int32} (h : P f) : gb_pm P (ms_state_112 n k79 f w v4 v6 v7 t0 t1) := by
  unfold ms_state_112
  refine pm_ltV (fun x_27 => ?_)
  refine pm_ck ?_
  refine pm_ltV (fun x_29 => ?_)
  refine pm_ltV (fun x_30 => ?_)
  refine pm_if ?_ ?_
  · refine pm_bd (cm_ofGoose hW h) (fun f_34 wl_35 r_36 hf_34 => ?_)
    refine pm_ltV (fun x_39 => ?_)
    refine pm_ltV (fun x_40 => ?_)
    exact h_k79 _ _ _ _ _ _ hf_34
  · refine pm_ltV (fun x_32 => ?_)
    refine pm_ltV (fun x_33 => ?_)
    exact h_k79 _ _ _ _ _ _ h
theorem cm_state_79 {P : gb_F → Prop} (hW : gb_sm P) {n : Nat} : ∀ (mm : Nat) (f : gb_F) (w : Int64) (v4 : Int32) (v5 : Int32) (v6 : Int32) (v7 : Int32), P f → gb_pm P (ms_state_79 n mm f w v4 v5 v6 v7) := by
  intro mm
  induction mm with
  | zero =>
    intros
    exact pm_none
  | succ mm ih =>
    intro f w v4 v5 v6 v7 h
    unfold ms_state_79
    refine pm_bd (cm_geese hW h) (fun f_16 wl_17 r_18 hf_16 => ?_)
    refine pm_if ?_ ?_
    · refine pm_if ?_ ?_
      · exact pm_some hf_16
      · exact pm_some hf_16
    · refine pm_ck ?_
      refine pm_ltV (fun x_24 => ?_)
      refine pm_ltV (fun x_25 => ?_)
      refine pm_if ?_ ?_
      · refine cm_state_112 hW ?_ hf_16
        · intro f w v4 v5 v6 v7 hf
          exact ih _ _ _ _ _ _ hf
      · refine cm_state_112 hW ?_ hf_16
        · intro f w v4 v5 v6 v7 hf
          exact ih _ _ _ _ _ _ hf
theorem cm_state {P : gb_F → Prop} (hW : gb_sm P) {n : Nat} {f : gb_F} {w : Int64} {p1 : Int32} {p2 : Int32} {p3 : Int32} {p4 : Int32} (h : P f) : gb_pm P (ms_state n f w p1 p2 p3 p4) := by
  unfold ms_state
  refine pm_bd (cm_isState hW h) (fun f_1 wl_2 r_3 hf_1 => ?_)
  refine pm_if ?_ ?_
  · exact pm_some hf_1
  · refine pm_if ?_ ?_
    · refine pm_bd (cm_worn hW hf_1) (fun f_47 wl_48 r_49 hf_47 => ?_)
      exact pm_some hf_47
    · refine pm_if ?_ ?_
      · refine pm_bd (cm_allPay hW hf_1) (fun f_42 wl_43 r_44 hf_42 => ?_)
        exact pm_some hf_42
      · refine pm_if ?_ ?_
        · refine pm_if ?_ ?_
          · exact pm_some hf_1
          · exact pm_some hf_1
        · refine pm_bd (cm_isIn hW hf_1) (fun f_10 wl_11 r_12 hf_10 => ?_)
          refine pm_if ?_ ?_
          · exact pm_some hf_10
          · exact cm_state_79 hW _ _ _ _ _ _ _ hf_10
theorem cm_termOf {P : gb_F → Prop} (hW : gb_sm P) {n : Nat} {f : gb_F} {w : Int64} {p1 : Int32} {p2 : Int32} (h : P f) : gb_pm P (ms_termOf n f w p1 p2) := by
  unfold ms_termOf
  refine pm_ck ?_
  refine pm_ltV (fun x_2 => ?_)
  exact pm_some h
theorem cm_term {P : gb_F → Prop} (hW : gb_sm P) {n : Nat} {f : gb_F} {w : Int64} {p1 : Int32} {p2 : Int32} {p3 : Int32} (h : P f) : gb_pm P (ms_term n f w p1 p2 p3) := by
  unfold ms_term
  refine pm_bd (cm_isOf hW h) (fun f_1 wl_2 r_3 hf_1 => ?_)
  refine pm_if ?_ ?_
  · exact pm_some hf_1
  · refine pm_bd (cm_placeOf hW hf_1) (fun f_7 wl_8 r_9 hf_7 => ?_)
    refine pm_ltS (hW.1 _ _ hf_7) (fun f_12 hf_12 => ?_)
    refine pm_if ?_ ?_
    · refine pm_if ?_ ?_
      · refine pm_ck ?_
        refine pm_ltV (fun x_35 => ?_)
        exact pm_some hf_12
      · exact pm_some hf_12
    · refine pm_ck ?_
      refine pm_ltV (fun x_15 => ?_)
      refine pm_bd (cm_isIn hW hf_12) (fun f_16 wl_17 r_18 hf_16 => ?_)
      refine pm_if ?_ ?_
      · exact pm_some hf_16
      · refine pm_bd (cm_isIn hW hf_16) (fun f_22 wl_23 r_24 hf_22 => ?_)
        refine pm_if ?_ ?_
        · exact pm_some hf_22
        · refine pm_bd (cm_termOf hW hf_22) (fun f_28 wl_29 r_30 hf_28 => ?_)
          exact pm_some hf_28
theorem cm_paysBy_4 {P : gb_F → Prop} (hW : gb_sm P) {n : Nat} : ∀ (mm : Nat) (f : gb_F) (w : Int64) (v1 : Int32) (v2 : Int32) (v3 : Int32), P f → gb_pm P (ms_paysBy_4 n mm f w v1 v2 v3) := by
  intro mm
  induction mm with
  | zero =>
    intros
    exact pm_none
  | succ mm ih =>
    intro f w v1 v2 v3 h
    unfold ms_paysBy_4
    refine pm_ck ?_
    refine pm_ltV (fun x_2 => ?_)
    refine pm_if ?_ ?_
    · exact pm_some h
    · refine pm_bd (cm_termOf hW h) (fun f_4 wl_5 r_6 hf_4 => ?_)
      refine pm_bd (cm_termOf hW hf_4) (fun f_9 wl_10 r_11 hf_9 => ?_)
      refine pm_bd (cm_termOf hW hf_9) (fun f_14 wl_15 r_16 hf_14 => ?_)
      refine pm_if ?_ ?_
      · refine pm_ltV (fun x_20 => ?_)
        refine pm_ltV (fun x_21 => ?_)
        exact ih _ _ _ _ _ hf_14
      · refine pm_if ?_ ?_
        · refine pm_if ?_ ?_
          · refine pm_ltV (fun x_24 => ?_)
            refine pm_ltV (fun x_25 => ?_)
            exact ih _ _ _ _ _ hf_14
          · refine pm_ltV (fun x_26 => ?_)
            refine pm_ltV (fun x_27 => ?_)
            exact ih _ _ _ _ _ hf_14
        · refine pm_if ?_ ?_
          · refine pm_if ?_ ?_
            · refine pm_ltV (fun x_30 => ?_)
              refine pm_ltV (fun x_31 => ?_)
              exact ih _ _ _ _ _ hf_14
            · refine pm_ltV (fun x_32 => ?_)
              refine pm_ltV (fun x_33 => ?_)
              exact ih _ _ _ _ _ hf_14
          · refine pm_if ?_ ?_
            · refine pm_ltV (fun x_35 => ?_)
              refine pm_if ?_ ?_
              · refine pm_ltV (fun x_39 => ?_)
                refine pm_ltV (fun x_40 => ?_)
                exact ih _ _ _ _ _ hf_14
              · refine pm_ltV (fun x_37 => ?_)
                refine pm_ltV (fun x_38 => ?_)
                exact ih _ _ _ _ _ hf_14
            · refine pm_if ?_ ?_
              · refine pm_ltV (fun x_42 => ?_)
                exact ih _ _ _ _ _ hf_14
              · refine pm_ltV (fun x_43 => ?_)
                exact ih _ _ _ _ _ hf_14
theorem cm_paysBy {P : gb_F → Prop} (hW : gb_sm P) {n : Nat} {f : gb_F} {w : Int64} {p1 : Int32} (h : P f) : gb_pm P (ms_paysBy n f w p1) := by
  unfold ms_paysBy
  exact cm_paysBy_4 hW _ _ _ _ _ _ h
theorem cm_pays {P : gb_F → Prop} (hW : gb_sm P) {n : Nat} {f : gb_F} {w : Int64} {p1 : Int32} {p2 : Int32} (h : P f) : gb_pm P (ms_pays n f w p1 p2) := by
  unfold ms_pays
  refine pm_bd (cm_isOf hW h) (fun f_1 wl_2 r_3 hf_1 => ?_)
  refine pm_if ?_ ?_
  · exact pm_some hf_1
  · refine pm_bd (cm_isIn hW hf_1) (fun f_7 wl_8 r_9 hf_7 => ?_)
    refine pm_if ?_ ?_
    · exact pm_some hf_7
    · refine pm_bd (cm_placeOf hW hf_7) (fun f_13 wl_14 r_15 hf_13 => ?_)
      refine pm_ltS (hW.1 _ _ hf_13) (fun f_18 hf_18 => ?_)
      refine pm_bd (cm_paysBy hW hf_18) (fun f_19 wl_20 r_21 hf_19 => ?_)
      exact pm_some hf_19
theorem cm_measures_12 {P : gb_F → Prop} (hW : gb_sm P) {n : Nat} {k2 : gb_F → Int64 → Int32 → gb_MR Unit} (h_k2 : ∀ (s : gb_F) (x1 : Int64) (x2 : Int32), P s → gb_pm P (k2 s x1 x2)) : ∀ (mm : Nat) (f : gb_F) (w : Int64) (v1 : Int32) (v2 : Int32), P f → gb_pm P (ms_measures_12 n k2 mm f w v1 v2) := by
  intro mm
  induction mm with
  | zero =>
    intros
    exact pm_none
  | succ mm ih =>
    intro f w v1 v2 h
    unfold ms_measures_12
    refine pm_bd (cm_paths hW h) (fun f_7 wl_8 r_9 hf_7 => ?_)
    refine pm_if ?_ ?_
    · refine pm_ltV (fun x_13 => ?_)
      exact h_k2 _ _ _ hf_7
    · refine pm_bd (cm_firstMarks hW hf_7) (fun f_14 wl_15 r_16 hf_14 => ?_)
      refine pm_ck ?_
      refine pm_ltS (hW.2 _ _ _ (by decide) hf_14) (fun f_20 hf_20 => ?_)
      refine pm_ltV (fun x_21 => ?_)
      exact ih _ _ _ _ hf_20
theorem cm_measures_2 {P : gb_F → Prop} (hW : gb_sm P) {n : Nat} : ∀ (mm : Nat) (f : gb_F) (w : Int64) (v1 : Int32), P f → gb_pm P (ms_measures_2 n mm f w v1) := by
  intro mm
  induction mm with
  | zero =>
    intros
    exact pm_none
  | succ mm ih =>
    intro f w v1 h
    unfold ms_measures_2
    refine pm_bd (cm_geese hW h) (fun f_1 wl_2 r_3 hf_1 => ?_)
    refine pm_if ?_ ?_
    · exact pm_some hf_1
    · refine cm_measures_12 hW ?_ _ _ _ _ _ hf_1
      · intro f w v1 hf
        exact ih _ _ _ hf
theorem cm_measures {P : gb_F → Prop} (hW : gb_sm P) {n : Nat} {f : gb_F} {w : Int64} (h : P f) : gb_pm P (ms_measures n f w) := by
  unfold ms_measures
  exact cm_measures_2 hW _ _ _ _ h
theorem cm_codes_4 {P : gb_F → Prop} (hW : gb_sm P) {n : Nat} : ∀ (mm : Nat) (f : gb_F) (w : Int64) (v1 : Int32) (v2 : Int32), P f → gb_pm P (ms_codes_4 n mm f w v1 v2) := by
  intro mm
  induction mm with
  | zero =>
    intros
    exact pm_none
  | succ mm ih =>
    intro f w v1 v2 h
    unfold ms_codes_4
    refine pm_bd (cm_geese hW h) (fun f_1 wl_2 r_3 hf_1 => ?_)
    refine pm_if ?_ ?_
    · exact pm_some hf_1
    · refine pm_bd (cm_paths hW hf_1) (fun f_7 wl_8 r_9 hf_7 => ?_)
      refine pm_ltV (fun x_12 => ?_)
      refine pm_ltV (fun x_13 => ?_)
      exact ih _ _ _ _ hf_7
theorem cm_codes {P : gb_F → Prop} (hW : gb_sm P) {n : Nat} {f : gb_F} {w : Int64} (h : P f) : gb_pm P (ms_codes n f w) := by
  unfold ms_codes
  exact cm_codes_4 hW _ _ _ _ _ h
theorem cm_sums_29 {P : gb_F → Prop} (hW : gb_sm P) {n : Nat} : ∀ (mm : Nat) (f : gb_F) (w : Int64) (v2 : Int32) (v3 : Int32), P f → gb_pm P (ms_sums_29 n mm f w v2 v3) := by
  intro mm
  induction mm with
  | zero =>
    intros
    exact pm_none
  | succ mm ih =>
    intro f w v2 v3 h
    unfold ms_sums_29
    refine pm_if ?_ ?_
    · exact pm_some h
    · refine pm_bd (cm_paths hW h) (fun f_9 wl_10 r_11 hf_9 => ?_)
      refine pm_nz ?_
      refine pm_ltV (fun x_15 => ?_)
      refine pm_ck ?_
      refine pm_ltV (fun x_17 => ?_)
      refine pm_bd (cm_paths hW hf_9) (fun f_18 wl_19 r_20 hf_18 => ?_)
      refine pm_nz ?_
      refine pm_ltV (fun x_24 => ?_)
      refine pm_ck ?_
      refine pm_ltV (fun x_26 => ?_)
      refine pm_ck ?_
      refine pm_ltS (hW.2 _ _ _ (by decide) hf_18) (fun f_28 hf_28 => ?_)
      refine pm_bd (cm_paths hW hf_28) (fun f_29 wl_30 r_31 hf_29 => ?_)
      refine pm_nz ?_
      refine pm_ltV (fun x_35 => ?_)
      refine pm_ltV (fun x_36 => ?_)
      exact ih _ _ _ _ hf_29
theorem cm_sums_2 {P : gb_F → Prop} (hW : gb_sm P) {n : Nat} : ∀ (mm : Nat) (f : gb_F) (w : Int64) (v1 : Int32) (v2 : Int32), P f → gb_pm P (ms_sums_2 n mm f w v1 v2) := by
  intro mm
  induction mm with
  | zero =>
    intros
    exact pm_none
  | succ mm ih =>
    intro f w v1 v2 h
    unfold ms_sums_2
    refine pm_if ?_ ?_
    · refine pm_bd (cm_geese hW h) (fun f_2 wl_3 r_4 hf_2 => ?_)
      refine pm_ltV (fun x_7 => ?_)
      exact cm_sums_29 hW _ _ _ _ _ hf_2
    · refine pm_ck ?_
      refine pm_ltS (hW.2 _ _ _ (by decide) h) (fun f_38 hf_38 => ?_)
      refine pm_ltV (fun x_39 => ?_)
      exact ih _ _ _ _ hf_38
theorem cm_sums {P : gb_F → Prop} (hW : gb_sm P) {n : Nat} {f : gb_F} {w : Int64} {p1 : Int32} (h : P f) : gb_pm P (ms_sums n f w p1) := by
  unfold ms_sums
  exact cm_sums_2 hW _ _ _ _ _ h
theorem cm_payOf {P : gb_F → Prop} (hW : gb_sm P) {n : Nat} {f : gb_F} {w : Int64} {p1 : Int32} (h : P f) : gb_pm P (ms_payOf n f w p1) := by
  unfold ms_payOf
  refine pm_bd (cm_ofPath hW h) (fun f_1 wl_2 r_3 hf_1 => ?_)
  refine pm_ck ?_
  refine pm_ltV (fun x_7 => ?_)
  refine pm_bd (cm_padded hW hf_1) (fun f_8 wl_9 r_10 hf_8 => ?_)
  exact pm_some hf_8
theorem cm_worthOf_76 {P : gb_F → Prop} (hW : gb_sm P) {n : Nat} {k24 : gb_F → Int64 → Int32 → Int32 → Int32 → Int32 → Int32 → gb_MR Int32} (h_k24 : ∀ (s : gb_F) (x1 : Int64) (x2 : Int32) (x3 : Int32) (x4 : Int32) (x5 : Int32) (x6 : Int32), P s → gb_pm P (k24 s x1 x2 x3 x4 x5 x6)) {f : gb_F} {w : Int64} {v2 : Int32} {v3 : Int32} {v5 : Int32} {v6 : Int32} {t0 : Int32} (h : P f) : gb_pm P (ms_worthOf_76 n k24 f w v2 v3 v5 v6 t0) := by
  unfold ms_worthOf_76
  refine pm_if ?_ ?_
  · refine pm_ltV (fun x_36 => ?_)
    exact h_k24 _ _ _ _ _ _ _ h
  · refine pm_ck ?_
    refine pm_ltV (fun x_38 => ?_)
    refine pm_bd (cm_padded hW h) (fun f_39 wl_40 r_41 hf_39 => ?_)
    refine pm_bd (cm_paysBy hW hf_39) (fun f_44 wl_45 r_46 hf_44 => ?_)
    refine pm_ltV (fun x_49 => ?_)
    refine pm_ltV (fun x_50 => ?_)
    exact h_k24 _ _ _ _ _ _ _ hf_44
theorem cm_worthOf_53 {P : gb_F → Prop} (hW : gb_sm P) {n : Nat} {k24 : gb_F → Int64 → Int32 → Int32 → Int32 → Int32 → Int32 → gb_MR Int32} (h_k24 : ∀ (s : gb_F) (x1 : Int64) (x2 : Int32) (x3 : Int32) (x4 : Int32) (x5 : Int32) (x6 : Int32), P s → gb_pm P (k24 s x1 x2 x3 x4 x5 x6)) {f : gb_F} {w : Int64} {v2 : Int32} {v4 : Int32} {v5 : Int32} {v6 : Int32} {t0 : Int32} (h : P f) : gb_pm P (ms_worthOf_53 n k24 f w v2 v4 v5 v6 t0) := by
  unfold ms_worthOf_53
  refine pm_bd (cm_payOf hW h) (fun f_29 wl_30 r_31 hf_29 => ?_)
  refine pm_if ?_ ?_
  · exact cm_worthOf_76 hW h_k24 hf_29
  · refine pm_bd (cm_payOf hW hf_29) (fun f_51 wl_52 r_53 hf_51 => ?_)
    exact cm_worthOf_76 hW h_k24 hf_51
theorem cm_worthOf_24 {P : gb_F → Prop} (hW : gb_sm P) {n : Nat} : ∀ (mm : Nat) (f : gb_F) (w : Int64) (v2 : Int32) (v3 : Int32) (v4 : Int32) (v5 : Int32) (v6 : Int32), P f → gb_pm P (ms_worthOf_24 n mm f w v2 v3 v4 v5 v6) := by
  intro mm
  induction mm with
  | zero =>
    intros
    exact pm_none
  | succ mm ih =>
    intro f w v2 v3 v4 v5 v6 h
    unfold ms_worthOf_24
    refine pm_bd (cm_paths hW h) (fun f_16 wl_17 r_18 hf_16 => ?_)
    refine pm_if ?_ ?_
    · refine pm_if ?_ ?_
      · exact pm_some hf_16
      · exact pm_some hf_16
    · refine pm_bd (cm_payOf hW hf_16) (fun f_23 wl_24 r_25 hf_23 => ?_)
      refine pm_if ?_ ?_
      · refine cm_worthOf_53 hW ?_ hf_23
        · intro f w v2 v3 v4 v5 v6 hf
          exact ih _ _ _ _ _ _ _ hf
      · refine pm_bd (cm_payOf hW hf_23) (fun f_56 wl_57 r_58 hf_56 => ?_)
        refine cm_worthOf_53 hW ?_ hf_56
        · intro f w v2 v3 v4 v5 v6 hf
          exact ih _ _ _ _ _ _ _ hf
theorem cm_worthOf {P : gb_F → Prop} (hW : gb_sm P) {n : Nat} {f : gb_F} {w : Int64} {p1 : Int32} {p2 : Int32} (h : P f) : gb_pm P (ms_worthOf n f w p1 p2) := by
  unfold ms_worthOf
  refine pm_bd (cm_sums hW h) (fun f_1 wl_2 _ hf_1 => ?_)
  refine pm_bd (cm_payOf hW hf_1) (fun f_6 wl_7 r_8 hf_6 => ?_)
  refine pm_bd (cm_payOf hW hf_6) (fun f_11 wl_12 r_13 hf_11 => ?_)
  exact cm_worthOf_24 hW _ _ _ _ _ _ _ _ hf_11
theorem cm_bestWorth_13 {P : gb_F → Prop} (hW : gb_sm P) {n : Nat} : ∀ (mm : Nat) (f : gb_F) (w : Int64) (v1 : Int32) (v2 : Int32) (v3 : Int32), P f → gb_pm P (ms_bestWorth_13 n mm f w v1 v2 v3) := by
  intro mm
  induction mm with
  | zero =>
    intros
    exact pm_none
  | succ mm ih =>
    intro f w v1 v2 v3 h
    unfold ms_bestWorth_13
    refine pm_bd (cm_codes hW h) (fun f_7 wl_8 r_9 hf_7 => ?_)
    refine pm_if ?_ ?_
    · exact pm_some hf_7
    · refine pm_bd (cm_worthOf hW hf_7) (fun f_13 wl_14 r_15 hf_13 => ?_)
      refine pm_if ?_ ?_
      · refine pm_ltS (hW.1 _ _ hf_13) (fun f_19 hf_19 => ?_)
        refine pm_ltV (fun x_20 => ?_)
        exact ih _ _ _ _ _ hf_19
      · refine pm_if ?_ ?_
        · refine pm_if ?_ ?_
          · refine pm_ltS (hW.1 _ _ hf_13) (fun f_23 hf_23 => ?_)
            refine pm_ltV (fun x_24 => ?_)
            exact ih _ _ _ _ _ hf_23
          · refine pm_ltV (fun x_25 => ?_)
            exact ih _ _ _ _ _ hf_13
        · refine pm_if ?_ ?_
          · refine pm_ltS (hW.1 _ _ hf_13) (fun f_27 hf_27 => ?_)
            refine pm_ltV (fun x_28 => ?_)
            exact ih _ _ _ _ _ hf_27
          · refine pm_ltV (fun x_29 => ?_)
            exact ih _ _ _ _ _ hf_13
theorem cm_bestWorth {P : gb_F → Prop} (hW : gb_sm P) {n : Nat} {f : gb_F} {w : Int64} {p1 : Int32} (h : P f) : gb_pm P (ms_bestWorth n f w p1) := by
  unfold ms_bestWorth
  refine pm_bd (cm_measures hW h) (fun f_1 wl_2 _ hf_1 => ?_)
  refine pm_ltS (hW.1 _ _ hf_1) (fun f_6 hf_6 => ?_)
  exact cm_bestWorth_13 hW _ _ _ _ _ _ hf_6
theorem cm_canMarch {P : gb_F → Prop} (hW : gb_sm P) {n : Nat} {f : gb_F} {w : Int64} {p1 : Int32} (h : P f) : gb_pm P (ms_canMarch n f w p1) := by
  unfold ms_canMarch
  refine pm_bd (cm_isBorder hW h) (fun f_1 wl_2 r_3 hf_1 => ?_)
  refine pm_if ?_ ?_
  · exact pm_some hf_1
  · refine pm_bd (cm_geese hW hf_1) (fun f_7 wl_8 r_9 hf_7 => ?_)
    refine pm_if ?_ ?_
    · exact pm_some hf_7
    · refine pm_bd (cm_paths hW hf_7) (fun f_13 wl_14 r_15 hf_13 => ?_)
      refine pm_if ?_ ?_
      · exact pm_some hf_13
      · exact pm_some hf_13
theorem cm_figure_12 {P : gb_F → Prop} (hW : gb_sm P) {n : Nat} : ∀ (mm : Nat) (f : gb_F) (w : Int64) (v1 : Int32) (v2 : Int32) (v3 : Int32), P f → gb_pm P (ms_figure_12 n mm f w v1 v2 v3) := by
  intro mm
  induction mm with
  | zero =>
    intros
    exact pm_none
  | succ mm ih =>
    intro f w v1 v2 v3 h
    unfold ms_figure_12
    refine pm_if ?_ ?_
    · refine pm_bd (cm_paths hW h) (fun f_9 wl_10 r_11 hf_9 => ?_)
      refine pm_nz ?_
      refine pm_ltV (fun x_15 => ?_)
      exact pm_some hf_9
    · refine pm_bd (cm_paths hW h) (fun f_16 wl_17 r_18 hf_16 => ?_)
      refine pm_nz ?_
      refine pm_ltV (fun x_22 => ?_)
      refine pm_ltV (fun x_23 => ?_)
      exact ih _ _ _ _ _ hf_16
theorem cm_figure {P : gb_F → Prop} (hW : gb_sm P) {n : Nat} {f : gb_F} {w : Int64} {p1 : Int32} (h : P f) : gb_pm P (ms_figure n f w p1) := by
  unfold ms_figure
  refine pm_ltV (fun x_1 => ?_)
  refine pm_bd (cm_geese hW h) (fun f_2 wl_3 r_4 hf_2 => ?_)
  refine pm_ltV (fun x_7 => ?_)
  exact cm_figure_12 hW _ _ _ _ _ _ hf_2
theorem cm_even_36 {P : gb_F → Prop} (hW : gb_sm P) {n : Nat} {f : gb_F} {w : Int64} {v2 : Int32} (h : P f) : gb_pm P (ms_even_36 n f w v2) := by
  unfold ms_even_36
  refine pm_bd (cm_bestWorth hW h) (fun f_8 wl_9 r_10 hf_8 => ?_)
  refine pm_if ?_ ?_
  · exact pm_some hf_8
  · refine pm_if ?_ ?_
    · refine pm_bd (cm_sums hW hf_8) (fun f_15 wl_16 _ hf_15 => ?_)
      refine pm_bd (cm_payOf hW hf_15) (fun f_20 wl_21 r_22 hf_20 => ?_)
      exact pm_some hf_20
    · refine pm_bd (cm_figure hW hf_8) (fun f_25 wl_26 r_27 hf_25 => ?_)
      exact pm_some hf_25
theorem cm_even {P : gb_F → Prop} (hW : gb_sm P) {n : Nat} {f : gb_F} {w : Int64} {p1 : Int32} {p2 : Int32} (h : P f) : gb_pm P (ms_even n f w p1 p2) := by
  unfold ms_even
  refine pm_bd (cm_canMarch hW h) (fun f_1 wl_2 r_3 hf_1 => ?_)
  refine pm_if ?_ ?_
  · exact pm_some hf_1
  · refine pm_if ?_ ?_
    · exact cm_even_36 hW hf_1
    · refine pm_bd (cm_isGoose hW hf_1) (fun f_30 wl_31 r_32 hf_30 => ?_)
      refine pm_if ?_ ?_
      · refine pm_bd (cm_isPath hW hf_30) (fun f_36 wl_37 r_38 hf_36 => ?_)
        refine pm_if ?_ ?_
        · exact pm_some hf_36
        · exact cm_even_36 hW hf_36
      · exact cm_even_36 hW hf_30
theorem cm_richest_34 {P : gb_F → Prop} (hW : gb_sm P) {n : Nat} {f : gb_F} {w : Int64} {v2 : Int32} {v3 : Int32} (h : P f) : gb_pm P (ms_richest_34 n f w v2 v3) := by
  unfold ms_richest_34
  refine pm_bd (cm_placeOf hW h) (fun f_14 wl_15 r_16 hf_14 => ?_)
  refine pm_ltS (hW.1 _ _ hf_14) (fun f_19 hf_19 => ?_)
  refine pm_bd (cm_bestWorth hW hf_19) (fun f_20 wl_21 r_22 hf_20 => ?_)
  refine pm_if ?_ ?_
  · exact pm_some hf_20
  · refine pm_bd (cm_figure hW hf_20) (fun f_26 wl_27 r_28 hf_26 => ?_)
    exact pm_some hf_26
theorem cm_richest {P : gb_F → Prop} (hW : gb_sm P) {n : Nat} {f : gb_F} {w : Int64} {p1 : Int32} {p2 : Int32} {p3 : Int32} (h : P f) : gb_pm P (ms_richest n f w p1 p2 p3) := by
  unfold ms_richest
  refine pm_bd (cm_canMarch hW h) (fun f_1 wl_2 r_3 hf_1 => ?_)
  refine pm_if ?_ ?_
  · exact pm_some hf_1
  · refine pm_bd (cm_isOf hW hf_1) (fun f_7 wl_8 r_9 hf_7 => ?_)
    refine pm_if ?_ ?_
    · exact pm_some hf_7
    · refine pm_if ?_ ?_
      · exact cm_richest_34 hW hf_7
      · refine pm_bd (cm_isGoose hW hf_7) (fun f_31 wl_32 r_33 hf_31 => ?_)
        refine pm_if ?_ ?_
        · exact pm_some hf_31
        · exact cm_richest_34 hW hf_31
theorem cm_tar_136 {P : gb_F → Prop} (hW : gb_sm P) {n : Nat} {k87 : gb_F → Int64 → Int32 → Int32 → Int32 → Int32 → Int32 → gb_MR Int32} {k95 : gb_F → Int64 → Int32 → Int32 → Int32 → Int32 → Int32 → Int32 → gb_MR Int32} (h_k87 : ∀ (s : gb_F) (x1 : Int64) (x2 : Int32) (x3 : Int32) (x4 : Int32) (x5 : Int32) (x6 : Int32), P s → gb_pm P (k87 s x1 x2 x3 x4 x5 x6)) (h_k95 : ∀ (s : gb_F) (x1 : Int64) (x2 : Int32) (x3 : Int32) (x4 : Int32) (x5 : Int32) (x6 : Int32) (x7 : Int32), P s → gb_pm P (k95 s x1 x2 x3 x4 x5 x6 x7)) : ∀ (mm : Nat) (f : gb_F) (w : Int64) (v3 : Int32) (v4 : Int32) (v5 : Int32) (v6 : Int32) (v7 : Int32) (v8 : Int32) (v9 : Int32) (v10 : Int32), P f → gb_pm P (ms_tar_136 n k87 k95 mm f w v3 v4 v5 v6 v7 v8 v9 v10) := by
  intro mm
  induction mm with
  | zero =>
    intros
    exact pm_none
  | succ mm ih =>
    intro f w v3 v4 v5 v6 v7 v8 v9 v10 h
    unfold ms_tar_136
    refine pm_if ?_ ?_
    · refine pm_ltV (fun x_56 => ?_)
      exact h_k95 _ _ _ _ _ _ _ _ h
    · refine pm_if ?_ ?_
      · refine pm_if ?_ ?_
        · refine pm_ltV (fun x_60 => ?_)
          exact h_k95 _ _ _ _ _ _ _ _ h
        · refine pm_ltV (fun x_61 => ?_)
          refine pm_ltV (fun x_62 => ?_)
          refine pm_ltV (fun x_63 => ?_)
          exact ih _ _ _ _ _ _ _ _ _ _ h
      · refine pm_ltV (fun x_58 => ?_)
        exact h_k95 _ _ _ _ _ _ _ _ h
theorem cm_tar_95 {P : gb_F → Prop} (hW : gb_sm P) {n : Nat} {k87 : gb_F → Int64 → Int32 → Int32 → Int32 → Int32 → Int32 → gb_MR Int32} (h_k87 : ∀ (s : gb_F) (x1 : Int64) (x2 : Int32) (x3 : Int32) (x4 : Int32) (x5 : Int32) (x6 : Int32), P s → gb_pm P (k87 s x1 x2 x3 x4 x5 x6)) : ∀ (mm : Nat) (f : gb_F) (w : Int64) (v3 : Int32) (v4 : Int32) (v5 : Int32) (v6 : Int32) (v7 : Int32) (v8 : Int32), P f → gb_pm P (ms_tar_95 n k87 mm f w v3 v4 v5 v6 v7 v8) := by
  intro mm
  induction mm with
  | zero =>
    intros
    exact pm_none
  | succ mm ih =>
    intro f w v3 v4 v5 v6 v7 v8 h
    unfold ms_tar_95
    refine pm_bd (cm_geese hW h) (fun f_32 wl_33 r_34 hf_32 => ?_)
    refine pm_if ?_ ?_
    · refine pm_ltV (fun x_38 => ?_)
      exact h_k87 _ _ _ _ _ _ _ hf_32
    · refine pm_bd (cm_ofGoose hW hf_32) (fun f_39 wl_40 r_41 hf_39 => ?_)
      refine pm_bd (cm_ofGoose hW hf_39) (fun f_44 wl_45 r_46 hf_44 => ?_)
      refine pm_bd (cm_ofGoose hW hf_44) (fun f_49 wl_50 r_51 hf_49 => ?_)
      refine pm_ltV (fun x_54 => ?_)
      refine cm_tar_136 hW h_k87 ?_ _ _ _ _ _ _ _ _ _ _ _ hf_49
      · intro f w v3 v4 v5 v6 v7 v8 hf
        exact ih _ _ _ _ _ _ _ _ hf
theorem cm_tar_87 {P : gb_F → Prop} (hW : gb_sm P) {n : Nat} : ∀ (mm : Nat) (f : gb_F) (w : Int64) (v3 : Int32) (v4 : Int32) (v5 : Int32) (v6 : Int32) (v7 : Int32), P f → gb_pm P (ms_tar_87 n mm f w v3 v4 v5 v6 v7) := by
  intro mm
  induction mm with
  | zero =>
    intros
    exact pm_none
  | succ mm ih =>
    intro f w v3 v4 v5 v6 v7 h
    unfold ms_tar_87
    refine pm_if ?_ ?_
    · refine pm_if ?_ ?_
      · exact pm_some h
      · exact pm_some h
    · refine cm_tar_95 hW ?_ _ _ _ _ _ _ _ _ _ h
      · intro f w v3 v4 v5 v6 v7 hf
        exact ih _ _ _ _ _ _ _ hf
theorem cm_tar_43 {P : gb_F → Prop} (hW : gb_sm P) {n : Nat} : ∀ (mm : Nat) (f : gb_F) (w : Int64) (v3 : Int32) (v4 : Int32) (v5 : Int32) (v6 : Int32), P f → gb_pm P (ms_tar_43 n mm f w v3 v4 v5 v6) := by
  intro mm
  induction mm with
  | zero =>
    intros
    exact pm_none
  | succ mm ih =>
    intro f w v3 v4 v5 v6 h
    unfold ms_tar_43
    refine pm_bd (cm_geese hW h) (fun f_24 wl_25 r_26 hf_24 => ?_)
    refine pm_if ?_ ?_
    · exact cm_tar_87 hW _ _ _ _ _ _ _ _ hf_24
    · refine pm_bd (cm_ofGoose hW hf_24) (fun f_64 wl_65 r_66 hf_64 => ?_)
      refine pm_bd (cm_left hW hf_64) (fun f_69 wl_70 r_71 hf_69 => ?_)
      refine pm_ltV (fun x_74 => ?_)
      refine pm_ltV (fun x_75 => ?_)
      exact ih _ _ _ _ _ _ hf_69
theorem cm_tar {P : gb_F → Prop} (hW : gb_sm P) {n : Nat} {f : gb_F} {w : Int64} {p1 : Int32} {p2 : Int32} {p3 : Int32} (h : P f) : gb_pm P (ms_tar n f w p1 p2 p3) := by
  unfold ms_tar
  refine pm_bd (cm_isBorder hW h) (fun f_1 wl_2 r_3 hf_1 => ?_)
  refine pm_if ?_ ?_
  · exact pm_some hf_1
  · refine pm_bd (cm_isPath hW hf_1) (fun f_7 wl_8 r_9 hf_7 => ?_)
    refine pm_if ?_ ?_
    · exact pm_some hf_7
    · refine pm_bd (cm_isIn hW hf_7) (fun f_13 wl_14 r_15 hf_13 => ?_)
      refine pm_if ?_ ?_
      · exact pm_some hf_13
      · refine pm_bd (cm_ofPath hW hf_13) (fun f_19 wl_20 r_21 hf_19 => ?_)
        exact cm_tar_43 hW _ _ _ _ _ _ _ hf_19
theorem cm_lamePay_5 {P : gb_F → Prop} (hW : gb_sm P) {n : Nat} : ∀ (mm : Nat) (f : gb_F) (w : Int64) (v1 : Int32) (v2 : Int32) (v3 : Int32) (v4 : Int32), P f → gb_pm P (ms_lamePay_5 n mm f w v1 v2 v3 v4) := by
  intro mm
  induction mm with
  | zero =>
    intros
    exact pm_none
  | succ mm ih =>
    intro f w v1 v2 v3 v4 h
    unfold ms_lamePay_5
    refine pm_bd (cm_geese hW h) (fun f_1 wl_2 r_3 hf_1 => ?_)
    refine pm_if ?_ ?_
    · refine pm_bd (cm_ofPath hW hf_1) (fun f_7 wl_8 r_9 hf_7 => ?_)
      refine pm_bd (cm_padded hW hf_7) (fun f_12 wl_13 r_14 hf_12 => ?_)
      exact pm_some hf_12
    · refine pm_bd (cm_ofPath hW hf_1) (fun f_17 wl_18 r_19 hf_17 => ?_)
      refine pm_bd (cm_ofGoose hW hf_17) (fun f_22 wl_23 r_24 hf_22 => ?_)
      refine pm_if ?_ ?_
      · refine pm_bd (cm_left hW hf_22) (fun f_28 wl_29 r_30 hf_28 => ?_)
        refine pm_ltV (fun x_33 => ?_)
        refine pm_ltV (fun x_34 => ?_)
        exact ih _ _ _ _ _ _ hf_28
      · refine pm_bd (cm_ofGoose hW hf_22) (fun f_35 wl_36 r_37 hf_35 => ?_)
        refine pm_bd (cm_left hW hf_35) (fun f_40 wl_41 r_42 hf_40 => ?_)
        refine pm_ltV (fun x_45 => ?_)
        refine pm_ltV (fun x_46 => ?_)
        exact ih _ _ _ _ _ _ hf_40
theorem cm_lamePay {P : gb_F → Prop} (hW : gb_sm P) {n : Nat} {f : gb_F} {w : Int64} {p1 : Int32} {p2 : Int32} (h : P f) : gb_pm P (ms_lamePay n f w p1 p2) := by
  unfold ms_lamePay
  exact cm_lamePay_5 hW _ _ _ _ _ _ _ h
theorem cm_bestPath_7 {P : gb_F → Prop} (hW : gb_sm P) {n : Nat} : ∀ (mm : Nat) (f : gb_F) (w : Int64) (v1 : Int32) (v2 : Int32) (v3 : Int32) (v4 : Int32), P f → gb_pm P (ms_bestPath_7 n mm f w v1 v2 v3 v4) := by
  intro mm
  induction mm with
  | zero =>
    intros
    exact pm_none
  | succ mm ih =>
    intro f w v1 v2 v3 v4 h
    unfold ms_bestPath_7
    refine pm_bd (cm_paths hW h) (fun f_1 wl_2 r_3 hf_1 => ?_)
    refine pm_if ?_ ?_
    · exact pm_some hf_1
    · refine pm_bd (cm_ofPath hW hf_1) (fun f_7 wl_8 r_9 hf_7 => ?_)
      refine pm_bd (cm_firstMarks hW hf_7) (fun f_12 wl_13 r_14 hf_12 => ?_)
      refine pm_bd (cm_padded hW hf_12) (fun f_17 wl_18 r_19 hf_17 => ?_)
      refine pm_ltV (fun x_22 => ?_)
      refine pm_if ?_ ?_
      · refine pm_ltV (fun x_24 => ?_)
        exact ih _ _ _ _ _ _ hf_17
      · refine pm_if ?_ ?_
        · refine pm_ltV (fun x_26 => ?_)
          exact ih _ _ _ _ _ _ hf_17
        · refine pm_ltV (fun x_27 => ?_)
          exact ih _ _ _ _ _ _ hf_17
theorem cm_bestPath {P : gb_F → Prop} (hW : gb_sm P) {n : Nat} {f : gb_F} {w : Int64} {p1 : Int32} (h : P f) : gb_pm P (ms_bestPath n f w p1) := by
  unfold ms_bestPath
  exact cm_bestPath_7 hW _ _ _ _ _ _ _ h
theorem cm_lame {P : gb_F → Prop} (hW : gb_sm P) {n : Nat} {f : gb_F} {w : Int64} {p1 : Int32} {p2 : Int32} {p3 : Int32} (h : P f) : gb_pm P (ms_lame n f w p1 p2 p3) := by
  unfold ms_lame
  refine pm_bd (cm_isBorder hW h) (fun f_1 wl_2 r_3 hf_1 => ?_)
  refine pm_if ?_ ?_
  · exact pm_some hf_1
  · refine pm_bd (cm_isIn hW hf_1) (fun f_7 wl_8 r_9 hf_7 => ?_)
    refine pm_if ?_ ?_
    · refine pm_bd (cm_isPath hW hf_7) (fun f_13 wl_14 r_15 hf_13 => ?_)
      refine pm_if ?_ ?_
      · exact pm_some hf_13
      · refine pm_bd (cm_lamePay hW hf_13) (fun f_19 wl_20 r_21 hf_19 => ?_)
        refine pm_bd (cm_lamePay hW hf_19) (fun f_24 wl_25 r_26 hf_24 => ?_)
        exact pm_some hf_24
    · refine pm_bd (cm_isGoose hW hf_7) (fun f_29 wl_30 r_31 hf_29 => ?_)
      refine pm_if ?_ ?_
      · exact pm_some hf_29
      · refine pm_bd (cm_bestPath hW hf_29) (fun f_35 wl_36 r_37 hf_35 => ?_)
        exact pm_some hf_35
theorem cm_takeOf_97 {P : gb_F → Prop} (hW : gb_sm P) {n : Nat} {f : gb_F} {w : Int64} {v2 : Int32} {v4 : Int32} (h : P f) : gb_pm P (ms_takeOf_97 n f w v2 v4) := by
  unfold ms_takeOf_97
  refine pm_if ?_ ?_
  · refine pm_bd (cm_ofPath hW h) (fun f_15 wl_16 r_17 hf_15 => ?_)
    refine pm_bd (cm_tally hW hf_15) (fun f_20 wl_21 r_22 hf_20 => ?_)
    exact pm_some hf_20
  · refine pm_bd (cm_pay hW h) (fun f_25 wl_26 r_27 hf_25 => ?_)
    exact pm_some hf_25
theorem cm_takeOf_70 {P : gb_F → Prop} (hW : gb_sm P) {n : Nat} {f : gb_F} {w : Int64} {v2 : Int32} {v3 : Int32} {t0 : Int32} (h : P f) : gb_pm P (ms_takeOf_70 n f w v2 v3 t0) := by
  unfold ms_takeOf_70
  refine pm_bd (cm_of hW h) (fun f_8 wl_9 r_10 hf_8 => ?_)
  refine pm_if ?_ ?_
  · exact cm_takeOf_97 hW hf_8
  · refine pm_bd (cm_of hW hf_8) (fun f_30 wl_31 r_32 hf_30 => ?_)
    refine pm_if ?_ ?_
    · exact cm_takeOf_97 hW hf_30
    · refine pm_if ?_ ?_
      · exact cm_takeOf_97 hW hf_30
      · exact pm_some hf_30
theorem cm_takeOf_5 {P : gb_F → Prop} (hW : gb_sm P) {n : Nat} : ∀ (mm : Nat) (f : gb_F) (w : Int64) (v1 : Int32) (v2 : Int32) (v3 : Int32) (v4 : Int32), P f → gb_pm P (ms_takeOf_5 n mm f w v1 v2 v3 v4) := by
  intro mm
  induction mm with
  | zero =>
    intros
    exact pm_none
  | succ mm ih =>
    intro f w v1 v2 v3 v4 h
    unfold ms_takeOf_5
    refine pm_bd (cm_paths hW h) (fun f_1 wl_2 r_3 hf_1 => ?_)
    refine pm_if ?_ ?_
    · refine pm_if ?_ ?_
      · exact cm_takeOf_70 hW hf_1
      · exact cm_takeOf_70 hW hf_1
    · refine pm_if ?_ ?_
      · refine pm_bd (cm_pay hW hf_1) (fun f_50 wl_51 r_52 hf_50 => ?_)
        refine pm_ltV (fun x_55 => ?_)
        refine pm_ltV (fun x_56 => ?_)
        exact ih _ _ _ _ _ _ hf_50
      · refine pm_bd (cm_ofPath hW hf_1) (fun f_38 wl_39 r_40 hf_38 => ?_)
        refine pm_bd (cm_tally hW hf_38) (fun f_43 wl_44 r_45 hf_43 => ?_)
        refine pm_ltV (fun x_48 => ?_)
        refine pm_ltV (fun x_49 => ?_)
        exact ih _ _ _ _ _ _ hf_43
theorem cm_takeOf {P : gb_F → Prop} (hW : gb_sm P) {n : Nat} {f : gb_F} {w : Int64} {p1 : Int32} {p2 : Int32} (h : P f) : gb_pm P (ms_takeOf n f w p1 p2) := by
  unfold ms_takeOf
  exact cm_takeOf_5 hW _ _ _ _ _ _ _ h
theorem cm_isRest_4 {P : gb_F → Prop} (hW : gb_sm P) {n : Nat} : ∀ (mm : Nat) (f : gb_F) (w : Int64) (v1 : Int32) (v2 : Int32) (v3 : Int32), P f → gb_pm P (ms_isRest_4 n mm f w v1 v2 v3) := by
  intro mm
  induction mm with
  | zero =>
    intros
    exact pm_none
  | succ mm ih =>
    intro f w v1 v2 v3 h
    unfold ms_isRest_4
    refine pm_bd (cm_paths hW h) (fun f_1 wl_2 r_3 hf_1 => ?_)
    refine pm_if ?_ ?_
    · refine pm_cb ?_
      exact pm_some hf_1
    · refine pm_if ?_ ?_
      · refine pm_ltV (fun x_9 => ?_)
        exact ih _ _ _ _ _ hf_1
      · refine pm_bd (cm_takeOf hW hf_1) (fun f_10 wl_11 r_12 hf_10 => ?_)
        refine pm_bd (cm_takeOf hW hf_10) (fun f_15 wl_16 r_17 hf_15 => ?_)
        refine pm_if ?_ ?_
        · refine pm_ltV (fun x_21 => ?_)
          exact ih _ _ _ _ _ hf_15
        · refine pm_ltV (fun x_22 => ?_)
          exact ih _ _ _ _ _ hf_15
theorem cm_isRest {P : gb_F → Prop} (hW : gb_sm P) {n : Nat} {f : gb_F} {w : Int64} {p1 : Int32} (h : P f) : gb_pm P (ms_isRest n f w p1) := by
  unfold ms_isRest
  exact cm_isRest_4 hW _ _ _ _ _ _ h
theorem cm_rest_29 {P : gb_F → Prop} (hW : gb_sm P) {n : Nat} : ∀ (mm : Nat) (f : gb_F) (w : Int64) (v3 : Int32) (v4 : Int32) (v5 : Int32), P f → gb_pm P (ms_rest_29 n mm f w v3 v4 v5) := by
  intro mm
  induction mm with
  | zero =>
    intros
    exact pm_none
  | succ mm ih =>
    intro f w v3 v4 v5 h
    unfold ms_rest_29
    refine pm_bd (cm_paths hW h) (fun f_13 wl_14 r_15 hf_13 => ?_)
    refine pm_if ?_ ?_
    · refine pm_if ?_ ?_
      · exact pm_some hf_13
      · exact pm_some hf_13
    · refine pm_bd (cm_isRest hW hf_13) (fun f_20 wl_21 r_22 hf_20 => ?_)
      refine pm_if ?_ ?_
      · refine pm_ltV (fun x_29 => ?_)
        exact ih _ _ _ _ _ hf_20
      · refine pm_if ?_ ?_
        · exact pm_some hf_20
        · refine pm_ltV (fun x_27 => ?_)
          refine pm_ltV (fun x_28 => ?_)
          exact ih _ _ _ _ _ hf_20
theorem cm_rest {P : gb_F → Prop} (hW : gb_sm P) {n : Nat} {f : gb_F} {w : Int64} {p1 : Int32} {p2 : Int32} {p3 : Int32} (h : P f) : gb_pm P (ms_rest n f w p1 p2 p3) := by
  unfold ms_rest
  refine pm_bd (cm_areTold hW h) (fun f_1 wl_2 r_3 hf_1 => ?_)
  refine pm_if ?_ ?_
  · exact pm_some hf_1
  · refine pm_if ?_ ?_
    · refine pm_bd (cm_runs hW hf_1) (fun f_8 wl_9 _ hf_8 => ?_)
      exact cm_rest_29 hW _ _ _ _ _ _ hf_8
    · exact pm_some hf_1
theorem cm_take {P : gb_F → Prop} (hW : gb_sm P) {n : Nat} {f : gb_F} {w : Int64} {p1 : Int32} {p2 : Int32} {p3 : Int32} {p4 : Int32} (h : P f) : gb_pm P (ms_take n f w p1 p2 p3 p4) := by
  unfold ms_take
  refine pm_bd (cm_areTold hW h) (fun f_1 wl_2 r_3 hf_1 => ?_)
  refine pm_if ?_ ?_
  · exact pm_some hf_1
  · refine pm_bd (cm_isPath hW hf_1) (fun f_7 wl_8 r_9 hf_7 => ?_)
    refine pm_if ?_ ?_
    · exact pm_some hf_7
    · refine pm_bd (cm_paths hW hf_7) (fun f_13 wl_14 r_15 hf_13 => ?_)
      refine pm_bd (cm_isIn hW hf_13) (fun f_18 wl_19 r_20 hf_18 => ?_)
      refine pm_if ?_ ?_
      · exact pm_some hf_18
      · refine pm_bd (cm_runs hW hf_18) (fun f_24 wl_25 _ hf_24 => ?_)
        refine pm_bd (cm_takeOf hW hf_24) (fun f_29 wl_30 r_31 hf_29 => ?_)
        exact pm_some hf_29
theorem cm_honest {P : gb_F → Prop} (hW : gb_sm P) {n : Nat} {f : gb_F} {w : Int64} {p1 : Int32} {p2 : Int32} {p3 : Int32} (h : P f) : gb_pm P (ms_honest n f w p1 p2 p3) := by
  unfold ms_honest
  refine pm_bd (cm_areTold hW h) (fun f_1 wl_2 r_3 hf_1 => ?_)
  refine pm_if ?_ ?_
  · exact pm_some hf_1
  · refine pm_bd (cm_isPath hW hf_1) (fun f_7 wl_8 r_9 hf_7 => ?_)
    refine pm_if ?_ ?_
    · exact pm_some hf_7
    · refine pm_bd (cm_runs hW hf_7) (fun f_13 wl_14 _ hf_13 => ?_)
      refine pm_bd (cm_pay hW hf_13) (fun f_18 wl_19 r_20 hf_18 => ?_)
      refine pm_bd (cm_ofPath hW hf_18) (fun f_23 wl_24 r_25 hf_23 => ?_)
      refine pm_bd (cm_tally hW hf_23) (fun f_28 wl_29 r_30 hf_28 => ?_)
      exact pm_some hf_28
theorem cm_seenOf {P : gb_F → Prop} (hW : gb_sm P) {n : Nat} {f : gb_F} {w : Int64} {p1 : Int32} {p2 : Int32} (h : P f) : gb_pm P (ms_seenOf n f w p1 p2) := by
  unfold ms_seenOf
  refine pm_ck ?_
  refine pm_ltV (fun x_2 => ?_)
  exact pm_some h
theorem cm_seen {P : gb_F → Prop} (hW : gb_sm P) {n : Nat} {f : gb_F} {w : Int64} {p1 : Int32} {p2 : Int32} {p3 : Int32} (h : P f) : gb_pm P (ms_seen n f w p1 p2 p3) := by
  unfold ms_seen
  refine pm_bd (cm_isOf hW h) (fun f_1 wl_2 r_3 hf_1 => ?_)
  refine pm_if ?_ ?_
  · exact pm_some hf_1
  · refine pm_bd (cm_placeOf hW hf_1) (fun f_7 wl_8 r_9 hf_7 => ?_)
    refine pm_ltS (hW.1 _ _ hf_7) (fun f_12 hf_12 => ?_)
    refine pm_if ?_ ?_
    · refine pm_if ?_ ?_
      · refine pm_ck ?_
        refine pm_ltV (fun x_35 => ?_)
        exact pm_some hf_12
      · exact pm_some hf_12
    · refine pm_ck ?_
      refine pm_ltV (fun x_15 => ?_)
      refine pm_bd (cm_isIn hW hf_12) (fun f_16 wl_17 r_18 hf_16 => ?_)
      refine pm_if ?_ ?_
      · exact pm_some hf_16
      · refine pm_bd (cm_isIn hW hf_16) (fun f_22 wl_23 r_24 hf_22 => ?_)
        refine pm_if ?_ ?_
        · exact pm_some hf_22
        · refine pm_bd (cm_seenOf hW hf_22) (fun f_28 wl_29 r_30 hf_28 => ?_)
          exact pm_some hf_28
theorem cm_isWhole_4 {P : gb_F → Prop} (hW : gb_sm P) {n : Nat} : ∀ (mm : Nat) (f : gb_F) (w : Int64) (v1 : Int32) (v2 : Int32), P f → gb_pm P (ms_isWhole_4 n mm f w v1 v2) := by
  intro mm
  induction mm with
  | zero =>
    intros
    exact pm_none
  | succ mm ih =>
    intro f w v1 v2 h
    unfold ms_isWhole_4
    refine pm_if ?_ ?_
    · refine pm_cb ?_
      exact pm_some h
    · refine pm_if ?_ ?_
      · refine pm_ltV (fun x_4 => ?_)
        exact ih _ _ _ _ h
      · refine pm_ck ?_
        refine pm_ltV (fun x_6 => ?_)
        refine pm_if ?_ ?_
        · refine pm_ltV (fun x_8 => ?_)
          exact ih _ _ _ _ h
        · refine pm_ck ?_
          refine pm_ltV (fun x_10 => ?_)
          refine pm_ck ?_
          refine pm_ltV (fun x_12 => ?_)
          refine pm_if ?_ ?_
          · refine pm_ltV (fun x_15 => ?_)
            exact ih _ _ _ _ h
          · refine pm_ltV (fun x_14 => ?_)
            exact ih _ _ _ _ h
theorem cm_isWhole {P : gb_F → Prop} (hW : gb_sm P) {n : Nat} {f : gb_F} {w : Int64} (h : P f) : gb_pm P (ms_isWhole n f w) := by
  unfold ms_isWhole
  exact cm_isWhole_4 hW _ _ _ _ _ h
theorem cm_counts_93 {P : gb_F → Prop} (hW : gb_sm P) {n : Nat} {f : gb_F} {w : Int64} {v1 : Int32} {v2 : Int32} {t0 : Int32} (h : P f) : gb_pm P (ms_counts_93 n f w v1 v2 t0) := by
  unfold ms_counts_93
  refine pm_ltS (hW.1 _ _ h) (fun f_15 hf_15 => ?_)
  refine pm_if ?_ ?_
  · refine pm_ltS (hW.1 _ _ hf_15) (fun f_17 hf_17 => ?_)
    refine pm_ltS (hW.1 _ _ hf_17) (fun f_18 hf_18 => ?_)
    exact pm_some hf_18
  · refine pm_ltS (hW.1 _ _ hf_15) (fun f_19 hf_19 => ?_)
    refine pm_ltS (hW.1 _ _ hf_19) (fun f_20 hf_20 => ?_)
    exact pm_some hf_20
theorem cm_counts_14 {P : gb_F → Prop} (hW : gb_sm P) {n : Nat} : ∀ (mm : Nat) (f : gb_F) (w : Int64) (v1 : Int32) (v2 : Int32) (v3 : Int32), P f → gb_pm P (ms_counts_14 n mm f w v1 v2 v3) := by
  intro mm
  induction mm with
  | zero =>
    intros
    exact pm_none
  | succ mm ih =>
    intro f w v1 v2 v3 h
    unfold ms_counts_14
    refine pm_bd (cm_geese hW h) (fun f_7 wl_8 r_9 hf_7 => ?_)
    refine pm_if ?_ ?_
    · refine pm_ltV (fun wl_13 => ?_)
      refine pm_if ?_ ?_
      · exact cm_counts_93 hW hf_7
      · exact cm_counts_93 hW hf_7
    · refine pm_ck ?_
      refine pm_ltV (fun x_22 => ?_)
      refine pm_if ?_ ?_
      · refine pm_ltV (fun x_24 => ?_)
        refine pm_ltV (fun x_25 => ?_)
        refine pm_ck ?_
        refine pm_ltV (fun x_27 => ?_)
        refine pm_ck ?_
        refine pm_ltV (fun x_29 => ?_)
        refine pm_ck ?_
        refine pm_ltS (hW.2 _ _ _ (by decide) hf_7) (fun f_31 hf_31 => ?_)
        refine pm_ltV (fun x_32 => ?_)
        exact ih _ _ _ _ _ hf_31
      · refine pm_ltV (fun x_33 => ?_)
        exact ih _ _ _ _ _ hf_7
theorem cm_counts {P : gb_F → Prop} (hW : gb_sm P) {n : Nat} {f : gb_F} {w : Int64} (h : P f) : gb_pm P (ms_counts n f w) := by
  unfold ms_counts
  refine pm_bd (cm_isWhole hW h) (fun f_1 wl_2 r_3 hf_1 => ?_)
  refine pm_if ?_ ?_
  · exact pm_some hf_1
  · exact cm_counts_14 hW _ _ _ _ _ _ hf_1
theorem cm_opens_95 {P : gb_F → Prop} (hW : gb_sm P) {n : Nat} : ∀ (mm : Nat) (f : gb_F) (w : Int64) (v1 : Int32), P f → gb_pm P (ms_opens_95 n mm f w v1) := by
  intro mm
  induction mm with
  | zero =>
    intros
    exact pm_none
  | succ mm ih =>
    intro f w v1 h
    unfold ms_opens_95
    refine pm_if ?_ ?_
    · exact pm_some h
    · refine pm_ck ?_
      refine pm_ltS (hW.2 _ _ _ (by decide) h) (fun f_16 hf_16 => ?_)
      refine pm_ltV (fun x_17 => ?_)
      exact ih _ _ _ hf_16
theorem cm_opens_29 {P : gb_F → Prop} (hW : gb_sm P) {n : Nat} : ∀ (mm : Nat) (f : gb_F) (w : Int64) (v1 : Int32), P f → gb_pm P (ms_opens_29 n mm f w v1) := by
  intro mm
  induction mm with
  | zero =>
    intros
    exact pm_none
  | succ mm ih =>
    intro f w v1 h
    unfold ms_opens_29
    refine pm_ck ?_
    refine pm_ltV (fun x_3 => ?_)
    refine pm_if ?_ ?_
    · refine pm_ltV (fun wl_5 => ?_)
      refine pm_ltS (hW.1 _ _ h) (fun f_6 hf_6 => ?_)
      refine pm_ltS (hW.1 _ _ hf_6) (fun f_7 hf_7 => ?_)
      refine pm_bd (cm_geese hW hf_7) (fun f_8 wl_9 r_10 hf_8 => ?_)
      refine pm_ltS (hW.1 _ _ hf_8) (fun f_13 hf_13 => ?_)
      exact cm_opens_95 hW _ _ _ _ hf_13
    · refine pm_bd (cm_seenOf hW h) (fun f_18 wl_19 r_20 hf_18 => ?_)
      refine pm_bd (cm_seenOf hW hf_18) (fun f_23 wl_24 r_25 hf_23 => ?_)
      refine pm_ck ?_
      refine pm_ltS (hW.2 _ _ _ (by decide) hf_23) (fun f_29 hf_29 => ?_)
      refine pm_ltV (fun x_30 => ?_)
      exact ih _ _ _ hf_29
theorem cm_opens_2 {P : gb_F → Prop} (hW : gb_sm P) {n : Nat} : ∀ (mm : Nat) (f : gb_F) (w : Int64) (v1 : Int32), P f → gb_pm P (ms_opens_2 n mm f w v1) := by
  intro mm
  induction mm with
  | zero =>
    intros
    exact pm_none
  | succ mm ih =>
    intro f w v1 h
    unfold ms_opens_2
    refine pm_if ?_ ?_
    · exact cm_opens_29 hW _ _ _ _ h
    · refine pm_ck ?_
      refine pm_ltS (hW.2 _ _ _ (by decide) h) (fun f_32 hf_32 => ?_)
      refine pm_ck ?_
      refine pm_ltS (hW.2 _ _ _ (by decide) hf_32) (fun f_34 hf_34 => ?_)
      refine pm_ltV (fun x_35 => ?_)
      exact ih _ _ _ hf_34
theorem cm_opens {P : gb_F → Prop} (hW : gb_sm P) {n : Nat} {f : gb_F} {w : Int64} (h : P f) : gb_pm P (ms_opens n f w) := by
  unfold ms_opens
  exact cm_opens_2 hW _ _ _ _ h
theorem cm_isNext_38 {P : gb_F → Prop} (hW : gb_sm P) {n : Nat} {f : gb_F} {w : Int64} {v1 : Int32} (h : P f) : gb_pm P (ms_isNext_38 n f w v1) := by
  unfold ms_isNext_38
  refine pm_ck ?_
  refine pm_ltS (hW.2 _ _ _ (by decide) h) (fun f_5 hf_5 => ?_)
  refine pm_ck ?_
  refine pm_ltV (fun x_7 => ?_)
  refine pm_ck ?_
  refine pm_ltS (hW.2 _ _ _ (by decide) hf_5) (fun f_9 hf_9 => ?_)
  refine pm_ck ?_
  refine pm_ltV (fun x_11 => ?_)
  refine pm_if ?_ ?_
  · refine pm_if ?_ ?_
    · exact pm_some hf_9
    · exact pm_some hf_9
  · refine pm_bd (cm_paths hW hf_9) (fun f_14 wl_15 r_16 hf_14 => ?_)
    refine pm_if ?_ ?_
    · refine pm_ck ?_
      refine pm_ltV (fun x_21 => ?_)
      refine pm_if ?_ ?_
      · exact pm_some hf_14
      · refine pm_ck ?_
        refine pm_ltV (fun x_24 => ?_)
        refine pm_ck ?_
        refine pm_ltV (fun x_26 => ?_)
        refine pm_ck ?_
        refine pm_ltV (fun x_28 => ?_)
        refine pm_if ?_ ?_
        · refine pm_ck ?_
          refine pm_ltV (fun x_31 => ?_)
          refine pm_ck ?_
          refine pm_ltV (fun x_33 => ?_)
          refine pm_ck ?_
          refine pm_ltS (hW.2 _ _ _ (by decide) hf_14) (fun f_35 hf_35 => ?_)
          refine pm_ck ?_
          refine pm_ltS (hW.2 _ _ _ (by decide) hf_35) (fun f_37 hf_37 => ?_)
          exact pm_some hf_37
        · exact pm_some hf_14
    · refine pm_if ?_ ?_
      · exact pm_some hf_14
      · exact pm_some hf_14
theorem cm_isNext {P : gb_F → Prop} (hW : gb_sm P) {n : Nat} {f : gb_F} {w : Int64} {p1 : Int32} (h : P f) : gb_pm P (ms_isNext n f w p1) := by
  unfold ms_isNext
  refine pm_ck ?_
  refine pm_ltV (fun x_2 => ?_)
  refine pm_if ?_ ?_
  · exact cm_isNext_38 hW h
  · refine pm_ck ?_
    refine pm_ltV (fun x_40 => ?_)
    refine pm_ck ?_
    refine pm_ltV (fun x_42 => ?_)
    refine pm_ck ?_
    refine pm_ltV (fun x_44 => ?_)
    refine pm_ck ?_
    refine pm_ltV (fun x_46 => ?_)
    refine pm_ck ?_
    refine pm_ltS (hW.2 _ _ _ (by decide) h) (fun f_48 hf_48 => ?_)
    exact cm_isNext_38 hW hf_48
theorem cm_tries_87 {P : gb_F → Prop} (hW : gb_sm P) {n : Nat} {k37 : gb_F → Int64 → Int32 → gb_MR Unit} (h_k37 : ∀ (s : gb_F) (x1 : Int64) (x2 : Int32), P s → gb_pm P (k37 s x1 x2)) {f : gb_F} {w : Int64} {v1 : Int32} {v2 : Int32} (h : P f) : gb_pm P (ms_tries_87 n k37 f w v1 v2) := by
  unfold ms_tries_87
  refine pm_if ?_ ?_
  · exact h_k37 _ _ _ h
  · refine pm_ltV (fun x_35 => ?_)
    refine pm_ck ?_
    refine pm_ltS (hW.2 _ _ _ (by decide) h) (fun f_37 hf_37 => ?_)
    refine pm_ck ?_
    refine pm_ltS (hW.2 _ _ _ (by decide) hf_37) (fun f_39 hf_39 => ?_)
    exact h_k37 _ _ _ hf_39
theorem cm_tries_37 {P : gb_F → Prop} (hW : gb_sm P) {n : Nat} : ∀ (mm : Nat) (f : gb_F) (w : Int64) (v1 : Int32), P f → gb_pm P (ms_tries_37 n mm f w v1) := by
  intro mm
  induction mm with
  | zero =>
    intros
    exact pm_none
  | succ mm ih =>
    intro f w v1 h
    unfold ms_tries_37
    refine pm_if ?_ ?_
    · exact pm_some h
    · refine pm_bd (cm_isNext hW h) (fun f_20 wl_21 r_22 hf_20 => ?_)
      refine pm_ck ?_
      refine pm_ltV (fun x_26 => ?_)
      refine pm_bd (cm_paths hW hf_20) (fun f_27 wl_28 r_29 hf_27 => ?_)
      refine pm_if ?_ ?_
      · refine pm_if ?_ ?_
        · refine cm_tries_87 hW ?_ hf_27
          · intro f w v1 hf
            exact ih _ _ _ hf
        · refine pm_bd (cm_geese hW hf_27) (fun f_40 wl_41 r_42 hf_40 => ?_)
          refine pm_if ?_ ?_
          · refine pm_bd (cm_counts hW hf_40) (fun f_46 wl_47 _ hf_46 => ?_)
            exact ih _ _ _ hf_46
          · refine cm_tries_87 hW ?_ hf_40
            · intro f w v1 hf
              exact ih _ _ _ hf
      · refine pm_ltV (fun x_51 => ?_)
        exact ih _ _ _ hf_27
theorem cm_tries {P : gb_F → Prop} (hW : gb_sm P) {n : Nat} {f : gb_F} {w : Int64} (h : P f) : gb_pm P (ms_tries n f w) := by
  unfold ms_tries
  refine pm_bd (cm_measures hW h) (fun f_1 wl_2 _ hf_1 => ?_)
  refine pm_bd (cm_opens hW hf_1) (fun f_6 wl_7 _ hf_6 => ?_)
  refine pm_bd (cm_geese hW hf_6) (fun f_11 wl_12 r_13 hf_11 => ?_)
  refine pm_if ?_ ?_
  · refine pm_bd (cm_counts hW hf_11) (fun f_52 wl_53 _ hf_52 => ?_)
    exact pm_some hf_52
  · refine pm_ltS (hW.2 _ _ _ (by decide) hf_11) (fun f_17 hf_17 => ?_)
    refine pm_ltS (hW.2 _ _ _ (by decide) hf_17) (fun f_18 hf_18 => ?_)
    exact cm_tries_37 hW _ _ _ _ hf_18
theorem cm_areSeen {P : gb_F → Prop} (hW : gb_sm P) {n : Nat} {f : gb_F} {w : Int64} {p1 : Int32} {p2 : Int32} (h : P f) : gb_pm P (ms_areSeen n f w p1 p2) := by
  unfold ms_areSeen
  refine pm_bd (cm_isBorder hW h) (fun f_1 wl_2 r_3 hf_1 => ?_)
  refine pm_if ?_ ?_
  · exact pm_some hf_1
  · refine pm_bd (cm_isOf hW hf_1) (fun f_7 wl_8 r_9 hf_7 => ?_)
    refine pm_if ?_ ?_
    · exact pm_some hf_7
    · refine pm_bd (cm_placeOf hW hf_7) (fun f_13 wl_14 r_15 hf_13 => ?_)
      refine pm_ltS (hW.1 _ _ hf_13) (fun f_18 hf_18 => ?_)
      exact pm_some hf_18
theorem cm_fits {P : gb_F → Prop} (hW : gb_sm P) {n : Nat} {f : gb_F} {w : Int64} {p1 : Int32} {p2 : Int32} (h : P f) : gb_pm P (ms_fits n f w p1 p2) := by
  unfold ms_fits
  refine pm_bd (cm_areSeen hW h) (fun f_1 wl_2 r_3 hf_1 => ?_)
  refine pm_if ?_ ?_
  · exact pm_some hf_1
  · refine pm_bd (cm_tries hW hf_1) (fun f_7 wl_8 _ hf_7 => ?_)
    exact pm_some hf_7
theorem cm_toe_16 {P : gb_F → Prop} (hW : gb_sm P) {n : Nat} {k6 : gb_F → Int64 → Int32 → gb_MR Int32} (h_k6 : ∀ (s : gb_F) (x1 : Int64) (x2 : Int32), P s → gb_pm P (k6 s x1 x2)) : ∀ (mm : Nat) (f : gb_F) (w : Int64) (v1 : Int32) (v2 : Int32), P f → gb_pm P (ms_toe_16 n k6 mm f w v1 v2) := by
  intro mm
  induction mm with
  | zero =>
    intros
    exact pm_none
  | succ mm ih =>
    intro f w v1 v2 h
    unfold ms_toe_16
    refine pm_ck ?_
    refine pm_ltV (fun x_13 => ?_)
    refine pm_if ?_ ?_
    · refine pm_ltV (fun x_15 => ?_)
      exact h_k6 _ _ _ h
    · refine pm_bd (cm_seenOf hW h) (fun f_16 wl_17 r_18 hf_16 => ?_)
      refine pm_bd (cm_isPath hW hf_16) (fun f_21 wl_22 r_23 hf_21 => ?_)
      refine pm_if ?_ ?_
      · refine pm_ltV (fun x_27 => ?_)
        exact ih _ _ _ _ hf_21
      · refine pm_bd (cm_seenOf hW hf_21) (fun f_28 wl_29 r_30 hf_28 => ?_)
        refine pm_ck ?_
        refine pm_ltV (fun x_34 => ?_)
        refine pm_bd (cm_seenOf hW hf_28) (fun f_35 wl_36 r_37 hf_35 => ?_)
        refine pm_if ?_ ?_
        · exact pm_some hf_35
        · refine pm_ltV (fun x_41 => ?_)
          exact ih _ _ _ _ hf_35
theorem cm_toe_6 {P : gb_F → Prop} (hW : gb_sm P) {n : Nat} : ∀ (mm : Nat) (f : gb_F) (w : Int64) (v1 : Int32), P f → gb_pm P (ms_toe_6 n mm f w v1) := by
  intro mm
  induction mm with
  | zero =>
    intros
    exact pm_none
  | succ mm ih =>
    intro f w v1 h
    unfold ms_toe_6
    refine pm_bd (cm_geese hW h) (fun f_6 wl_7 r_8 hf_6 => ?_)
    refine pm_if ?_ ?_
    · exact pm_some hf_6
    · refine cm_toe_16 hW ?_ _ _ _ _ _ hf_6
      · intro f w v1 hf
        exact ih _ _ _ hf
theorem cm_toe {P : gb_F → Prop} (hW : gb_sm P) {n : Nat} {f : gb_F} {w : Int64} (h : P f) : gb_pm P (ms_toe n f w) := by
  unfold ms_toe
  refine pm_bd (cm_measures hW h) (fun f_1 wl_2 _ hf_1 => ?_)
  exact cm_toe_6 hW _ _ _ _ hf_1
theorem cm_told_45 {P : gb_F → Prop} (hW : gb_sm P) {n : Nat} {f : gb_F} {w : Int64} {v3 : Int32} (h : P f) : gb_pm P (ms_told_45 n f w v3) := by
  unfold ms_told_45
  refine pm_bd (cm_tries hW h) (fun f_14 wl_15 _ hf_14 => ?_)
  refine pm_if ?_ ?_
  · exact pm_some hf_14
  · refine pm_if ?_ ?_
    · exact pm_some hf_14
    · refine pm_if ?_ ?_
      · exact pm_some hf_14
      · refine pm_if ?_ ?_
        · exact pm_some hf_14
        · refine pm_ck ?_
          refine pm_ltV (fun x_24 => ?_)
          exact pm_some hf_14
theorem cm_told {P : gb_F → Prop} (hW : gb_sm P) {n : Nat} {f : gb_F} {w : Int64} {p1 : Int32} {p2 : Int32} {p3 : Int32} (h : P f) : gb_pm P (ms_told n f w p1 p2 p3) := by
  unfold ms_told
  refine pm_bd (cm_areSeen hW h) (fun f_1 wl_2 r_3 hf_1 => ?_)
  refine pm_if ?_ ?_
  · exact pm_some hf_1
  · refine pm_if ?_ ?_
    · refine pm_bd (cm_toe hW hf_1) (fun f_31 wl_32 r_33 hf_31 => ?_)
      exact pm_some hf_31
    · refine pm_bd (cm_isIn hW hf_1) (fun f_8 wl_9 r_10 hf_8 => ?_)
      refine pm_if ?_ ?_
      · refine pm_bd (cm_isGoose hW hf_8) (fun f_25 wl_26 r_27 hf_25 => ?_)
        refine pm_if ?_ ?_
        · exact pm_some hf_25
        · exact cm_told_45 hW hf_25
      · exact cm_told_45 hW hf_8
theorem cm_lacks_32 {P : gb_F → Prop} (hW : gb_sm P) {n : Nat} : ∀ (mm : Nat) (f : gb_F) (w : Int64) (v4 : Int32) (v5 : Int32), P f → gb_pm P (ms_lacks_32 n mm f w v4 v5) := by
  intro mm
  induction mm with
  | zero =>
    intros
    exact pm_none
  | succ mm ih =>
    intro f w v4 v5 h
    unfold ms_lacks_32
    refine pm_ck ?_
    refine pm_ltV (fun x_19 => ?_)
    refine pm_if ?_ ?_
    · exact pm_some h
    · refine pm_bd (cm_seenOf hW h) (fun f_21 wl_22 r_23 hf_21 => ?_)
      refine pm_bd (cm_isPath hW hf_21) (fun f_26 wl_27 r_28 hf_26 => ?_)
      refine pm_if ?_ ?_
      · refine pm_ltV (fun x_32 => ?_)
        refine pm_ltV (fun x_33 => ?_)
        exact ih _ _ _ _ hf_26
      · refine pm_bd (cm_seenOf hW hf_26) (fun f_34 wl_35 r_36 hf_34 => ?_)
        refine pm_bd (cm_seenOf hW hf_34) (fun f_39 wl_40 r_41 hf_39 => ?_)
        refine pm_bd (cm_tally hW hf_39) (fun f_44 wl_45 r_46 hf_44 => ?_)
        refine pm_if ?_ ?_
        · refine pm_ltV (fun x_50 => ?_)
          refine pm_ltV (fun x_51 => ?_)
          exact ih _ _ _ _ hf_44
        · refine pm_bd (cm_seenOf hW hf_44) (fun f_52 wl_53 r_54 hf_52 => ?_)
          refine pm_ltV (fun x_57 => ?_)
          refine pm_ltV (fun x_58 => ?_)
          exact ih _ _ _ _ hf_52
theorem cm_lacks {P : gb_F → Prop} (hW : gb_sm P) {n : Nat} {f : gb_F} {w : Int64} {p1 : Int32} {p2 : Int32} {p3 : Int32} (h : P f) : gb_pm P (ms_lacks n f w p1 p2 p3) := by
  unfold ms_lacks
  refine pm_bd (cm_areTold hW h) (fun f_1 wl_2 r_3 hf_1 => ?_)
  refine pm_if ?_ ?_
  · exact pm_some hf_1
  · refine pm_bd (cm_areSeen hW hf_1) (fun f_7 wl_8 r_9 hf_7 => ?_)
    refine pm_if ?_ ?_
    · exact pm_some hf_7
    · refine pm_bd (cm_runs hW hf_7) (fun f_13 wl_14 _ hf_13 => ?_)
      exact cm_lacks_32 hW _ _ _ _ _ hf_13
theorem cm_who_34 {P : gb_F → Prop} (hW : gb_sm P) {n : Nat} : ∀ (mm : Nat) (f : gb_F) (w : Int64) (v3 : Int32) (v4 : Int32) (v5 : Int32) (v6 : Int32), P f → gb_pm P (ms_who_34 n mm f w v3 v4 v5 v6) := by
  intro mm
  induction mm with
  | zero =>
    intros
    exact pm_none
  | succ mm ih =>
    intro f w v3 v4 v5 v6 h
    unfold ms_who_34
    refine pm_if ?_ ?_
    · exact pm_some h
    · refine pm_bd (cm_deedOf hW h) (fun f_20 wl_21 r_22 hf_20 => ?_)
      refine pm_if ?_ ?_
      · refine pm_bd (cm_deedOf hW hf_20) (fun f_27 wl_28 r_29 hf_27 => ?_)
        refine pm_if ?_ ?_
        · refine pm_ltS (hW.1 _ _ hf_27) (fun f_33 hf_33 => ?_)
          refine pm_bd (cm_runs hW hf_33) (fun f_34 wl_35 _ hf_34 => ?_)
          refine pm_if ?_ ?_
          · refine pm_bd (cm_tally hW hf_34) (fun f_41 wl_42 r_43 hf_41 => ?_)
            refine pm_if ?_ ?_
            · exact pm_some hf_41
            · refine pm_ltV (fun x_47 => ?_)
              exact ih _ _ _ _ _ _ hf_41
          · refine pm_ltV (fun x_40 => ?_)
            exact ih _ _ _ _ _ _ hf_34
        · refine pm_ltV (fun x_48 => ?_)
          exact ih _ _ _ _ _ _ hf_27
      · refine pm_ltV (fun x_26 => ?_)
        exact ih _ _ _ _ _ _ hf_20
theorem cm_who {P : gb_F → Prop} (hW : gb_sm P) {n : Nat} {f : gb_F} {w : Int64} {p1 : Int32} {p2 : Int32} {p3 : Int32} {p4 : Int32} (h : P f) : gb_pm P (ms_who n f w p1 p2 p3 p4) := by
  unfold ms_who
  refine pm_bd (cm_areTold hW h) (fun f_1 wl_2 r_3 hf_1 => ?_)
  refine pm_if ?_ ?_
  · exact pm_some hf_1
  · refine pm_bd (cm_isPath hW hf_1) (fun f_7 wl_8 r_9 hf_7 => ?_)
    refine pm_if ?_ ?_
    · exact pm_some hf_7
    · refine pm_bd (cm_runs hW hf_7) (fun f_13 wl_14 _ hf_13 => ?_)
      refine pm_ltV (fun x_18 => ?_)
      exact cm_who_34 hW _ _ _ _ _ _ _ hf_13
theorem cm_below {P : gb_F → Prop} (hW : gb_sm P) {n : Nat} {f : gb_F} {w : Int64} {p1 : Int32} (h : P f) : gb_pm P (ms_below n f w p1) := by
  unfold ms_below
  refine pm_ltS (hW.1 _ _ h) (fun f_1 hf_1 => ?_)
  refine pm_nz ?_
  refine pm_ltV (fun x_3 => ?_)
  exact pm_some hf_1
theorem cm_draws_92 {P : gb_F → Prop} (hW : gb_sm P) {n : Nat} : ∀ (mm : Nat) (f : gb_F) (w : Int64) (v1 : Int32) (v2 : Int32), P f → gb_pm P (ms_draws_92 n mm f w v1 v2) := by
  intro mm
  induction mm with
  | zero =>
    intros
    exact pm_none
  | succ mm ih =>
    intro f w v1 v2 h
    unfold ms_draws_92
    refine pm_bd (cm_paths hW h) (fun f_13 wl_14 r_15 hf_13 => ?_)
    refine pm_if ?_ ?_
    · exact pm_some hf_13
    · refine pm_ck ?_
      refine pm_ltV (fun x_20 => ?_)
      refine pm_ck ?_
      refine pm_ltV (fun x_22 => ?_)
      refine pm_ltV (fun x_23 => ?_)
      refine pm_ltV (fun x_24 => ?_)
      refine pm_ck ?_
      refine pm_ltV (fun x_26 => ?_)
      refine pm_ck ?_
      refine pm_ltS (hW.2 _ _ _ (by decide) hf_13) (fun f_28 hf_28 => ?_)
      refine pm_bd (cm_ofPath hW hf_28) (fun f_29 wl_30 r_31 hf_29 => ?_)
      refine pm_bd (cm_padded hW hf_29) (fun f_34 wl_35 r_36 hf_34 => ?_)
      refine pm_ltS (hW.1 _ _ hf_34) (fun f_39 hf_39 => ?_)
      refine pm_bd (cm_below hW hf_39) (fun f_40 wl_41 r_42 hf_40 => ?_)
      refine pm_bd (cm_ofPath hW hf_40) (fun f_45 wl_46 r_47 hf_45 => ?_)
      refine pm_if ?_ ?_
      · refine pm_ltS (hW.1 _ _ hf_45) (fun f_51 hf_51 => ?_)
        refine pm_ltV (fun x_52 => ?_)
        exact ih _ _ _ _ hf_51
      · refine pm_ltS (hW.1 _ _ hf_45) (fun f_53 hf_53 => ?_)
        refine pm_ltV (fun x_54 => ?_)
        exact ih _ _ _ _ hf_53
theorem cm_draws_22 {P : gb_F → Prop} (hW : gb_sm P) {n : Nat} : ∀ (mm : Nat) (f : gb_F) (w : Int64) (v1 : Int32), P f → gb_pm P (ms_draws_22 n mm f w v1) := by
  intro mm
  induction mm with
  | zero =>
    intros
    exact pm_none
  | succ mm ih =>
    intro f w v1 h
    unfold ms_draws_22
    refine pm_bd (cm_geese hW h) (fun f_2 wl_3 r_4 hf_2 => ?_)
    refine pm_if ?_ ?_
    · refine pm_bd (cm_below hW hf_2) (fun f_8 wl_9 r_10 hf_8 => ?_)
      exact cm_draws_92 hW _ _ _ _ _ hf_8
    · refine pm_bd (cm_paths hW hf_2) (fun f_55 wl_56 r_57 hf_55 => ?_)
      refine pm_bd (cm_below hW hf_55) (fun f_60 wl_61 r_62 hf_60 => ?_)
      refine pm_ck ?_
      refine pm_ltV (fun x_66 => ?_)
      refine pm_ck ?_
      refine pm_ltV (fun x_68 => ?_)
      refine pm_ck ?_
      refine pm_ltS (hW.2 _ _ _ (by decide) hf_60) (fun f_70 hf_70 => ?_)
      refine pm_ck ?_
      refine pm_ltV (fun x_72 => ?_)
      refine pm_ck ?_
      refine pm_ltV (fun x_74 => ?_)
      refine pm_ck ?_
      refine pm_ltS (hW.2 _ _ _ (by decide) hf_70) (fun f_76 hf_76 => ?_)
      refine pm_ltV (fun x_77 => ?_)
      exact ih _ _ _ hf_76
theorem cm_draws_2 {P : gb_F → Prop} (hW : gb_sm P) {n : Nat} : ∀ (mm : Nat) (f : gb_F) (w : Int64) (v1 : Int32), P f → gb_pm P (ms_draws_2 n mm f w v1) := by
  intro mm
  induction mm with
  | zero =>
    intros
    exact pm_none
  | succ mm ih =>
    intro f w v1 h
    unfold ms_draws_2
    refine pm_if ?_ ?_
    · exact cm_draws_22 hW _ _ _ _ h
    · refine pm_ck ?_
      refine pm_ltS (hW.2 _ _ _ (by decide) h) (fun f_79 hf_79 => ?_)
      refine pm_ltV (fun x_80 => ?_)
      exact ih _ _ _ hf_79
theorem cm_draws {P : gb_F → Prop} (hW : gb_sm P) {n : Nat} {f : gb_F} {w : Int64} (h : P f) : gb_pm P (ms_draws n f w) := by
  unfold ms_draws
  exact cm_draws_2 hW _ _ _ _ h
theorem cm_drawn_212 {P : gb_F → Prop} (hW : gb_sm P) {n : Nat} : ∀ (mm : Nat) (f : gb_F) (w : Int64) (v5 : Int32) (v6 : Int32), P f → gb_pm P (ms_drawn_212 n mm f w v5 v6) := by
  intro mm
  induction mm with
  | zero =>
    intros
    exact pm_none
  | succ mm ih =>
    intro f w v5 v6 h
    unfold ms_drawn_212
    refine pm_if ?_ ?_
    · exact pm_some h
    · refine pm_ck ?_
      refine pm_ltV (fun x_41 => ?_)
      refine pm_ltV (fun x_42 => ?_)
      refine pm_ltV (fun x_43 => ?_)
      exact ih _ _ _ _ h
theorem cm_drawn_130 {P : gb_F → Prop} (hW : gb_sm P) {n : Nat} : ∀ (mm : Nat) (f : gb_F) (w : Int64) (v3 : Int32) (v4 : Int32) (v5 : Int32), P f → gb_pm P (ms_drawn_130 n mm f w v3 v4 v5) := by
  intro mm
  induction mm with
  | zero =>
    intros
    exact pm_none
  | succ mm ih =>
    intro f w v3 v4 v5 h
    unfold ms_drawn_130
    refine pm_if ?_ ?_
    · refine pm_if ?_ ?_
      · exact pm_some h
      · refine pm_if ?_ ?_
        · exact pm_some h
        · refine pm_if ?_ ?_
          · exact cm_drawn_212 hW _ _ _ _ _ h
          · refine pm_if ?_ ?_
            · refine pm_ck ?_
              refine pm_ltV (fun x_46 => ?_)
              exact pm_some h
            · refine pm_ck ?_
              refine pm_ltV (fun x_48 => ?_)
              exact pm_some h
    · refine pm_bd (cm_draws hW h) (fun f_49 wl_50 _ hf_49 => ?_)
      refine pm_ltV (fun x_54 => ?_)
      exact ih _ _ _ _ _ hf_49
theorem cm_drawn_106 {P : gb_F → Prop} (hW : gb_sm P) {n : Nat} : ∀ (mm : Nat) (f : gb_F) (w : Int64) (v3 : Int32) (v4 : Int32) (v5 : Int32), P f → gb_pm P (ms_drawn_106 n mm f w v3 v4 v5) := by
  intro mm
  induction mm with
  | zero =>
    intros
    exact pm_none
  | succ mm ih =>
    intro f w v3 v4 v5 h
    unfold ms_drawn_106
    refine pm_if ?_ ?_
    · exact cm_drawn_130 hW _ _ _ _ _ _ h
    · refine pm_ck ?_
      refine pm_ltS (hW.2 _ _ _ (by decide) h) (fun f_56 hf_56 => ?_)
      refine pm_ltV (fun x_57 => ?_)
      exact ih _ _ _ _ _ hf_56
theorem cm_drawn_83 {P : gb_F → Prop} (hW : gb_sm P) {n : Nat} : ∀ (mm : Nat) (f : gb_F) (w : Int64) (v3 : Int32) (v4 : Int32) (v5 : Int32), P f → gb_pm P (ms_drawn_83 n mm f w v3 v4 v5) := by
  intro mm
  induction mm with
  | zero =>
    intros
    exact pm_none
  | succ mm ih =>
    intro f w v3 v4 v5 h
    unfold ms_drawn_83
    refine pm_if ?_ ?_
    · exact cm_drawn_106 hW _ _ _ _ _ _ h
    · refine pm_ck ?_
      refine pm_ltS (hW.2 _ _ _ (by decide) h) (fun f_59 hf_59 => ?_)
      refine pm_ltV (fun x_60 => ?_)
      exact ih _ _ _ _ _ hf_59
theorem cm_drawn {P : gb_F → Prop} (hW : gb_sm P) {n : Nat} {f : gb_F} {w : Int64} {p1 : Int32} {p2 : Int32} {p3 : Int32} {p4 : Int32} (h : P f) : gb_pm P (ms_drawn n f w p1 p2 p3 p4) := by
  unfold ms_drawn
  refine pm_bd (cm_isBorder hW h) (fun f_1 wl_2 r_3 hf_1 => ?_)
  refine pm_if ?_ ?_
  · exact pm_some hf_1
  · refine pm_bd (cm_paths hW hf_1) (fun f_7 wl_8 r_9 hf_7 => ?_)
    refine pm_if ?_ ?_
    · exact pm_some hf_7
    · refine pm_bd (cm_isIn hW hf_7) (fun f_13 wl_14 r_15 hf_13 => ?_)
      refine pm_if ?_ ?_
      · exact pm_some hf_13
      · refine pm_bd (cm_isIn hW hf_13) (fun f_19 wl_20 r_21 hf_19 => ?_)
        refine pm_if ?_ ?_
        · refine pm_bd (cm_isPath hW hf_19) (fun f_61 wl_62 r_63 hf_61 => ?_)
          refine pm_if ?_ ?_
          · refine pm_bd (cm_isGoose hW hf_61) (fun f_75 wl_76 r_77 hf_75 => ?_)
            refine pm_if ?_ ?_
            · exact pm_some hf_75
            · refine pm_bd (cm_measures hW hf_75) (fun f_81 wl_82 _ hf_81 => ?_)
              refine pm_ltS (hW.1 _ _ hf_81) (fun f_86 hf_86 => ?_)
              refine pm_ltS (hW.1 _ _ hf_86) (fun f_87 hf_87 => ?_)
              refine pm_ltS (hW.1 _ _ hf_87) (fun f_88 hf_88 => ?_)
              exact cm_drawn_83 hW _ _ _ _ _ _ hf_88
          · refine pm_bd (cm_measures hW hf_61) (fun f_67 wl_68 _ hf_67 => ?_)
            refine pm_ltS (hW.1 _ _ hf_67) (fun f_72 hf_72 => ?_)
            refine pm_ltS (hW.1 _ _ hf_72) (fun f_73 hf_73 => ?_)
            refine pm_ltS (hW.1 _ _ hf_73) (fun f_74 hf_74 => ?_)
            exact cm_drawn_83 hW _ _ _ _ _ _ hf_74
        · refine pm_bd (cm_measures hW hf_19) (fun f_25 wl_26 _ hf_25 => ?_)
          refine pm_ltS (hW.1 _ _ hf_25) (fun f_30 hf_30 => ?_)
          refine pm_ltS (hW.1 _ _ hf_30) (fun f_31 hf_31 => ?_)
          refine pm_ltS (hW.1 _ _ hf_31) (fun f_32 hf_32 => ?_)
          exact cm_drawn_83 hW _ _ _ _ _ _ hf_32
theorem cm_alike_37 {P : gb_F → Prop} (hW : gb_sm P) {n : Nat} : ∀ (mm : Nat) (f : gb_F) (w : Int64) (v2 : Int32) (v3 : Int32) (v4 : Int32) (v5 : Int32), P f → gb_pm P (ms_alike_37 n mm f w v2 v3 v4 v5) := by
  intro mm
  induction mm with
  | zero =>
    intros
    exact pm_none
  | succ mm ih =>
    intro f w v2 v3 v4 v5 h
    unfold ms_alike_37
    refine pm_bd (cm_paths hW h) (fun f_20 wl_21 r_22 hf_20 => ?_)
    refine pm_if ?_ ?_
    · exact pm_some hf_20
    · refine pm_bd (cm_firstMarks hW hf_20) (fun f_26 wl_27 r_28 hf_26 => ?_)
      refine pm_bd (cm_firstMarks hW hf_26) (fun f_31 wl_32 r_33 hf_31 => ?_)
      refine pm_if ?_ ?_
      · refine pm_ltV (fun x_39 => ?_)
        refine pm_ltV (fun x_40 => ?_)
        exact ih _ _ _ _ _ _ hf_31
      · refine pm_ltV (fun x_37 => ?_)
        refine pm_ltV (fun x_38 => ?_)
        exact ih _ _ _ _ _ _ hf_31
theorem cm_alike {P : gb_F → Prop} (hW : gb_sm P) {n : Nat} {f : gb_F} {w : Int64} {p1 : Int32} {p2 : Int32} {p3 : Int32} (h : P f) : gb_pm P (ms_alike n f w p1 p2 p3) := by
  unfold ms_alike
  refine pm_bd (cm_isBorder hW h) (fun f_1 wl_2 r_3 hf_1 => ?_)
  refine pm_if ?_ ?_
  · exact pm_some hf_1
  · refine pm_bd (cm_isGoose hW hf_1) (fun f_7 wl_8 r_9 hf_7 => ?_)
    refine pm_if ?_ ?_
    · exact pm_some hf_7
    · refine pm_bd (cm_isGoose hW hf_7) (fun f_13 wl_14 r_15 hf_13 => ?_)
      refine pm_if ?_ ?_
      · exact pm_some hf_13
      · refine pm_if ?_ ?_
        · exact pm_some hf_13
        · exact cm_alike_37 hW _ _ _ _ _ _ _ hf_13
theorem cm_span_56 {P : gb_F → Prop} (hW : gb_sm P) {n : Nat} {k36 : gb_F → Int64 → Int32 → Int32 → Int32 → Int32 → Int32 → gb_MR Int32} (h_k36 : ∀ (s : gb_F) (x1 : Int64) (x2 : Int32) (x3 : Int32) (x4 : Int32) (x5 : Int32) (x6 : Int32), P s → gb_pm P (k36 s x1 x2 x3 x4 x5 x6)) : ∀ (mm : Nat) (f : gb_F) (w : Int64) (v2 : Int32) (v3 : Int32) (v4 : Int32) (v5 : Int32) (v6 : Int32) (v7 : Int32) (v8 : Int32) (v9 : Int32), P f → gb_pm P (ms_span_56 n k36 mm f w v2 v3 v4 v5 v6 v7 v8 v9) := by
  intro mm
  induction mm with
  | zero =>
    intros
    exact pm_none
  | succ mm ih =>
    intro f w v2 v3 v4 v5 v6 v7 v8 v9 h
    unfold ms_span_56
    refine pm_bd (cm_geese hW h) (fun f_30 wl_31 r_32 hf_30 => ?_)
    refine pm_if ?_ ?_
    · refine pm_if ?_ ?_
      · refine pm_if ?_ ?_
        · refine pm_ltV (fun x_39 => ?_)
          exact h_k36 _ _ _ _ _ _ _ hf_30
        · refine pm_if ?_ ?_
          · refine pm_if ?_ ?_
            · refine pm_ltV (fun x_42 => ?_)
              exact h_k36 _ _ _ _ _ _ _ hf_30
            · refine pm_ltV (fun x_43 => ?_)
              exact h_k36 _ _ _ _ _ _ _ hf_30
          · refine pm_if ?_ ?_
            · refine pm_ltV (fun x_45 => ?_)
              exact h_k36 _ _ _ _ _ _ _ hf_30
            · refine pm_ltV (fun x_46 => ?_)
              exact h_k36 _ _ _ _ _ _ _ hf_30
      · refine pm_ltV (fun x_37 => ?_)
        exact h_k36 _ _ _ _ _ _ _ hf_30
    · refine pm_ltV (fun x_47 => ?_)
      refine pm_if ?_ ?_
      · refine pm_bd (cm_firstMarks hW hf_30) (fun f_51 wl_52 r_53 hf_51 => ?_)
        refine pm_ltV (fun x_56 => ?_)
        refine pm_ltV (fun x_57 => ?_)
        exact ih _ _ _ _ _ _ _ _ _ _ hf_51
      · refine pm_ltV (fun x_49 => ?_)
        refine pm_ltV (fun x_50 => ?_)
        exact ih _ _ _ _ _ _ _ _ _ _ hf_30
theorem cm_span_36 {P : gb_F → Prop} (hW : gb_sm P) {n : Nat} : ∀ (mm : Nat) (f : gb_F) (w : Int64) (v2 : Int32) (v3 : Int32) (v4 : Int32) (v5 : Int32) (v6 : Int32), P f → gb_pm P (ms_span_36 n mm f w v2 v3 v4 v5 v6) := by
  intro mm
  induction mm with
  | zero =>
    intros
    exact pm_none
  | succ mm ih =>
    intro f w v2 v3 v4 v5 v6 h
    unfold ms_span_36
    refine pm_bd (cm_geese hW h) (fun f_24 wl_25 r_26 hf_24 => ?_)
    refine pm_if ?_ ?_
    · exact pm_some hf_24
    · refine cm_span_56 hW ?_ _ _ _ _ _ _ _ _ _ _ _ hf_24
      · intro f w v2 v3 v4 v5 v6 hf
        exact ih _ _ _ _ _ _ _ hf
theorem cm_span {P : gb_F → Prop} (hW : gb_sm P) {n : Nat} {f : gb_F} {w : Int64} {p1 : Int32} {p2 : Int32} {p3 : Int32} {p4 : Int32} (h : P f) : gb_pm P (ms_span n f w p1 p2 p3 p4) := by
  unfold ms_span
  refine pm_bd (cm_isBorder hW h) (fun f_1 wl_2 r_3 hf_1 => ?_)
  refine pm_if ?_ ?_
  · exact pm_some hf_1
  · refine pm_bd (cm_isPath hW hf_1) (fun f_7 wl_8 r_9 hf_7 => ?_)
    refine pm_if ?_ ?_
    · exact pm_some hf_7
    · refine pm_bd (cm_geese hW hf_7) (fun f_13 wl_14 r_15 hf_13 => ?_)
      refine pm_bd (cm_isIn hW hf_13) (fun f_18 wl_19 r_20 hf_18 => ?_)
      refine pm_if ?_ ?_
      · exact pm_some hf_18
      · exact cm_span_36 hW _ _ _ _ _ _ _ _ hf_18
theorem cm_split_57 {P : gb_F → Prop} (hW : gb_sm P) {n : Nat} {k40 : gb_F → Int64 → Int32 → Int32 → Int32 → Int32 → Int32 → Int32 → gb_MR Int32} (h_k40 : ∀ (s : gb_F) (x1 : Int64) (x2 : Int32) (x3 : Int32) (x4 : Int32) (x5 : Int32) (x6 : Int32) (x7 : Int32), P s → gb_pm P (k40 s x1 x2 x3 x4 x5 x6 x7)) : ∀ (mm : Nat) (f : gb_F) (w : Int64) (v2 : Int32) (v3 : Int32) (v4 : Int32) (v5 : Int32) (v6 : Int32) (v7 : Int32) (v8 : Int32) (v9 : Int32), P f → gb_pm P (ms_split_57 n k40 mm f w v2 v3 v4 v5 v6 v7 v8 v9) := by
  intro mm
  induction mm with
  | zero =>
    intros
    exact pm_none
  | succ mm ih =>
    intro f w v2 v3 v4 v5 v6 v7 v8 v9 h
    unfold ms_split_57
    refine pm_bd (cm_geese hW h) (fun f_27 wl_28 r_29 hf_27 => ?_)
    refine pm_if ?_ ?_
    · refine pm_if ?_ ?_
      · refine pm_if ?_ ?_
        · refine pm_ltV (fun x_35 => ?_)
          exact h_k40 _ _ _ _ _ _ _ _ hf_27
        · refine pm_if ?_ ?_
          · refine pm_ltV (fun x_37 => ?_)
            exact h_k40 _ _ _ _ _ _ _ _ hf_27
          · refine pm_ltV (fun x_38 => ?_)
            exact h_k40 _ _ _ _ _ _ _ _ hf_27
      · refine pm_ltV (fun x_39 => ?_)
        refine pm_if ?_ ?_
        · refine pm_ltV (fun x_41 => ?_)
          exact h_k40 _ _ _ _ _ _ _ _ hf_27
        · refine pm_if ?_ ?_
          · refine pm_ltV (fun x_43 => ?_)
            exact h_k40 _ _ _ _ _ _ _ _ hf_27
          · refine pm_ltV (fun x_44 => ?_)
            exact h_k40 _ _ _ _ _ _ _ _ hf_27
    · refine pm_if ?_ ?_
      · refine pm_bd (cm_firstMarks hW hf_27) (fun f_53 wl_54 r_55 hf_53 => ?_)
        refine pm_ltV (fun x_58 => ?_)
        refine pm_ltV (fun x_59 => ?_)
        exact ih _ _ _ _ _ _ _ _ _ _ hf_53
      · refine pm_bd (cm_firstMarks hW hf_27) (fun f_46 wl_47 r_48 hf_46 => ?_)
        refine pm_ltV (fun x_51 => ?_)
        refine pm_ltV (fun x_52 => ?_)
        exact ih _ _ _ _ _ _ _ _ _ _ hf_46
theorem cm_split_40 {P : gb_F → Prop} (hW : gb_sm P) {n : Nat} : ∀ (mm : Nat) (f : gb_F) (w : Int64) (v2 : Int32) (v3 : Int32) (v4 : Int32) (v5 : Int32) (v6 : Int32) (v7 : Int32), P f → gb_pm P (ms_split_40 n mm f w v2 v3 v4 v5 v6 v7) := by
  intro mm
  induction mm with
  | zero =>
    intros
    exact pm_none
  | succ mm ih =>
    intro f w v2 v3 v4 v5 v6 v7 h
    unfold ms_split_40
    refine pm_bd (cm_geese hW h) (fun f_20 wl_21 r_22 hf_20 => ?_)
    refine pm_if ?_ ?_
    · refine pm_if ?_ ?_
      · exact pm_some hf_20
      · exact pm_some hf_20
    · refine cm_split_57 hW ?_ _ _ _ _ _ _ _ _ _ _ _ hf_20
      · intro f w v2 v3 v4 v5 v6 v7 hf
        exact ih _ _ _ _ _ _ _ _ hf
theorem cm_split {P : gb_F → Prop} (hW : gb_sm P) {n : Nat} {f : gb_F} {w : Int64} {p1 : Int32} {p2 : Int32} {p3 : Int32} {p4 : Int32} (h : P f) : gb_pm P (ms_split n f w p1 p2 p3 p4) := by
  unfold ms_split
  refine pm_bd (cm_isBorder hW h) (fun f_1 wl_2 r_3 hf_1 => ?_)
  refine pm_if ?_ ?_
  · exact pm_some hf_1
  · refine pm_bd (cm_isPath hW hf_1) (fun f_7 wl_8 r_9 hf_7 => ?_)
    refine pm_if ?_ ?_
    · exact pm_some hf_7
    · refine pm_bd (cm_isPath hW hf_7) (fun f_13 wl_14 r_15 hf_13 => ?_)
      refine pm_if ?_ ?_
      · exact pm_some hf_13
      · refine pm_if ?_ ?_
        · exact pm_some hf_13
        · exact cm_split_40 hW _ _ _ _ _ _ _ _ _ hf_13
theorem cm_two_147 {P : gb_F → Prop} (hW : gb_sm P) {n : Nat} {k66 : gb_F → Int64 → Int32 → Int32 → Int32 → Int32 → Int32 → Int32 → Int32 → gb_MR Int32} (h_k66 : ∀ (s : gb_F) (x1 : Int64) (x2 : Int32) (x3 : Int32) (x4 : Int32) (x5 : Int32) (x6 : Int32) (x7 : Int32) (x8 : Int32), P s → gb_pm P (k66 s x1 x2 x3 x4 x5 x6 x7 x8)) {f : gb_F} {w : Int64} {v2 : Int32} {v4 : Int32} {v5 : Int32} {v6 : Int32} {v7 : Int32} {v8 : Int32} {v9 : Int32} {v10 : Int32} {v11 : Int32} {t0 : Int32} (h : P f) : gb_pm P (ms_two_147 n k66 f w v2 v4 v5 v6 v7 v8 v9 v10 v11 t0) := by
  unfold ms_two_147
  refine pm_bd (cm_ofPath hW h) (fun f_75 wl_76 r_77 hf_75 => ?_)
  refine pm_bd (cm_firstMarks hW hf_75) (fun f_80 wl_81 r_82 hf_80 => ?_)
  refine pm_bd (cm_padded hW hf_80) (fun f_85 wl_86 r_87 hf_85 => ?_)
  refine pm_ltV (fun x_90 => ?_)
  refine pm_ck ?_
  refine pm_ltV (fun x_92 => ?_)
  refine pm_bd (cm_ofGoose hW hf_85) (fun f_93 wl_94 r_95 hf_93 => ?_)
  refine pm_bd (cm_left hW hf_93) (fun f_98 wl_99 r_100 hf_98 => ?_)
  refine pm_ltS (hW.1 _ _ hf_98) (fun f_103 hf_103 => ?_)
  refine pm_bd (cm_ofPath hW hf_103) (fun f_104 wl_105 r_106 hf_104 => ?_)
  refine pm_bd (cm_padded hW hf_104) (fun f_109 wl_110 r_111 hf_109 => ?_)
  refine pm_ltV (fun x_114 => ?_)
  refine pm_ltS (hW.1 _ _ hf_109) (fun f_115 hf_115 => ?_)
  refine pm_if ?_ ?_
  · refine pm_ltV (fun x_117 => ?_)
    exact h_k66 _ _ _ _ _ _ _ _ _ hf_115
  · refine pm_if ?_ ?_
    · refine pm_ltV (fun x_119 => ?_)
      exact h_k66 _ _ _ _ _ _ _ _ _ hf_115
    · refine pm_ltV (fun x_120 => ?_)
      exact h_k66 _ _ _ _ _ _ _ _ _ hf_115
theorem cm_two_66 {P : gb_F → Prop} (hW : gb_sm P) {n : Nat} : ∀ (mm : Nat) (f : gb_F) (w : Int64) (v2 : Int32) (v4 : Int32) (v5 : Int32) (v6 : Int32) (v7 : Int32) (v8 : Int32) (v9 : Int32), P f → gb_pm P (ms_two_66 n mm f w v2 v4 v5 v6 v7 v8 v9) := by
  intro mm
  induction mm with
  | zero =>
    intros
    exact pm_none
  | succ mm ih =>
    intro f w v2 v4 v5 v6 v7 v8 v9 h
    unfold ms_two_66
    refine pm_bd (cm_paths hW h) (fun f_37 wl_38 r_39 hf_37 => ?_)
    refine pm_ck ?_
    refine pm_ltV (fun x_43 => ?_)
    refine pm_if ?_ ?_
    · refine pm_if ?_ ?_
      · refine pm_if ?_ ?_
        · refine pm_ck ?_
          refine pm_ltV (fun x_53 => ?_)
          refine pm_nz ?_
          refine pm_ltV (fun x_55 => ?_)
          exact pm_some hf_37
        · refine pm_if ?_ ?_
          · refine pm_ck ?_
            refine pm_ltV (fun x_49 => ?_)
            refine pm_nz ?_
            refine pm_ltV (fun x_51 => ?_)
            exact pm_some hf_37
          · exact pm_some hf_37
      · exact pm_some hf_37
    · refine pm_ck ?_
      refine pm_ltV (fun x_57 => ?_)
      refine pm_nz ?_
      refine pm_ltV (fun x_59 => ?_)
      refine pm_ck ?_
      refine pm_ltV (fun x_61 => ?_)
      refine pm_nz ?_
      refine pm_ltV (fun x_63 => ?_)
      refine pm_bd (cm_ofGoose hW hf_37) (fun f_64 wl_65 r_66 hf_64 => ?_)
      refine pm_bd (cm_ofPath hW hf_64) (fun f_69 wl_70 r_71 hf_69 => ?_)
      refine pm_if ?_ ?_
      · refine cm_two_147 hW ?_ hf_69
        · intro f w v2 v4 v5 v6 v7 v8 v9 hf
          exact ih _ _ _ _ _ _ _ _ _ hf
      · refine pm_bd (cm_ofGoose hW hf_69) (fun f_121 wl_122 r_123 hf_121 => ?_)
        refine pm_bd (cm_ofPath hW hf_121) (fun f_126 wl_127 r_128 hf_126 => ?_)
        refine cm_two_147 hW ?_ hf_126
        · intro f w v2 v4 v5 v6 v7 v8 v9 hf
          exact ih _ _ _ _ _ _ _ _ _ hf
theorem cm_two {P : gb_F → Prop} (hW : gb_sm P) {n : Nat} {f : gb_F} {w : Int64} {p1 : Int32} {p2 : Int32} {p3 : Int32} {p4 : Int32} (h : P f) : gb_pm P (ms_two n f w p1 p2 p3 p4) := by
  unfold ms_two
  refine pm_bd (cm_isBorder hW h) (fun f_1 wl_2 r_3 hf_1 => ?_)
  refine pm_if ?_ ?_
  · exact pm_some hf_1
  · refine pm_bd (cm_isGoose hW hf_1) (fun f_7 wl_8 r_9 hf_7 => ?_)
    refine pm_if ?_ ?_
    · exact pm_some hf_7
    · refine pm_bd (cm_paths hW hf_7) (fun f_13 wl_14 r_15 hf_13 => ?_)
      refine pm_if ?_ ?_
      · exact pm_some hf_13
      · refine pm_bd (cm_isOf hW hf_13) (fun f_19 wl_20 r_21 hf_19 => ?_)
        refine pm_if ?_ ?_
        · exact pm_some hf_19
        · refine pm_bd (cm_isIn hW hf_19) (fun f_25 wl_26 r_27 hf_25 => ?_)
          refine pm_if ?_ ?_
          · exact pm_some hf_25
          · refine pm_ltV (fun x_31 => ?_)
            refine pm_bd (cm_placeOf hW hf_25) (fun f_32 wl_33 r_34 hf_32 => ?_)
            exact cm_two_66 hW _ _ _ _ _ _ _ _ _ _ hf_32
theorem cm_bits_4 {P : gb_F → Prop} (hW : gb_sm P) {n : Nat} : ∀ (mm : Nat) (f : gb_F) (w : Int64) (v0 : Int32) (v1 : Int32) (v2 : Int32), P f → gb_pm P (ms_bits_4 n mm f w v0 v1 v2) := by
  intro mm
  induction mm with
  | zero =>
    intros
    exact pm_none
  | succ mm ih =>
    intro f w v0 v1 v2 h
    unfold ms_bits_4
    refine pm_if ?_ ?_
    · exact pm_some h
    · refine pm_ltV (fun x_2 => ?_)
      refine pm_ltV (fun x_3 => ?_)
      exact ih _ _ _ _ _ h
theorem cm_bits {P : gb_F → Prop} (hW : gb_sm P) {n : Nat} {f : gb_F} {w : Int64} {p1 : Int32} (h : P f) : gb_pm P (ms_bits n f w p1) := by
  unfold ms_bits
  exact cm_bits_4 hW _ _ _ _ _ _ h
theorem cm_backs_52 {P : gb_F → Prop} (hW : gb_sm P) {n : Nat} {k35 : gb_F → Int64 → Int32 → Int32 → Int32 → Int32 → Int32 → gb_MR Int32} (h_k35 : ∀ (s : gb_F) (x1 : Int64) (x2 : Int32) (x3 : Int32) (x4 : Int32) (x5 : Int32) (x6 : Int32), P s → gb_pm P (k35 s x1 x2 x3 x4 x5 x6)) : ∀ (mm : Nat) (f : gb_F) (w : Int64) (v2 : Int32) (v3 : Int32) (v4 : Int32) (v5 : Int32) (v6 : Int32) (v7 : Int32) (v8 : Int32), P f → gb_pm P (ms_backs_52 n k35 mm f w v2 v3 v4 v5 v6 v7 v8) := by
  intro mm
  induction mm with
  | zero =>
    intros
    exact pm_none
  | succ mm ih =>
    intro f w v2 v3 v4 v5 v6 v7 v8 h
    unfold ms_backs_52
    refine pm_bd (cm_geese hW h) (fun f_31 wl_32 r_33 hf_31 => ?_)
    refine pm_if ?_ ?_
    · refine pm_if ?_ ?_
      · refine pm_ltV (fun x_38 => ?_)
        exact h_k35 _ _ _ _ _ _ _ hf_31
      · refine pm_if ?_ ?_
        · refine pm_ltV (fun x_40 => ?_)
          exact h_k35 _ _ _ _ _ _ _ hf_31
        · refine pm_bd (cm_bits hW hf_31) (fun f_41 wl_42 r_43 hf_41 => ?_)
          refine pm_bd (cm_bits hW hf_41) (fun f_46 wl_47 r_48 hf_46 => ?_)
          refine pm_if ?_ ?_
          · refine pm_ltV (fun x_52 => ?_)
            exact h_k35 _ _ _ _ _ _ _ hf_46
          · refine pm_ltV (fun x_53 => ?_)
            exact h_k35 _ _ _ _ _ _ _ hf_46
    · refine pm_if ?_ ?_
      · refine pm_bd (cm_firstMarks hW hf_31) (fun f_62 wl_63 r_64 hf_62 => ?_)
        refine pm_ltV (fun x_67 => ?_)
        refine pm_ltV (fun x_68 => ?_)
        exact ih _ _ _ _ _ _ _ _ _ hf_62
      · refine pm_bd (cm_firstMarks hW hf_31) (fun f_55 wl_56 r_57 hf_55 => ?_)
        refine pm_ltV (fun x_60 => ?_)
        refine pm_ltV (fun x_61 => ?_)
        exact ih _ _ _ _ _ _ _ _ _ hf_55
theorem cm_backs_35 {P : gb_F → Prop} (hW : gb_sm P) {n : Nat} : ∀ (mm : Nat) (f : gb_F) (w : Int64) (v2 : Int32) (v3 : Int32) (v4 : Int32) (v5 : Int32) (v6 : Int32), P f → gb_pm P (ms_backs_35 n mm f w v2 v3 v4 v5 v6) := by
  intro mm
  induction mm with
  | zero =>
    intros
    exact pm_none
  | succ mm ih =>
    intro f w v2 v3 v4 v5 v6 h
    unfold ms_backs_35
    refine pm_bd (cm_geese hW h) (fun f_19 wl_20 r_21 hf_19 => ?_)
    refine pm_if ?_ ?_
    · refine pm_if ?_ ?_
      · exact pm_some hf_19
      · refine pm_bd (cm_bits hW hf_19) (fun f_26 wl_27 r_28 hf_26 => ?_)
        exact pm_some hf_26
    · refine cm_backs_52 hW ?_ _ _ _ _ _ _ _ _ _ _ hf_19
      · intro f w v2 v3 v4 v5 v6 hf
        exact ih _ _ _ _ _ _ _ hf
theorem cm_backs {P : gb_F → Prop} (hW : gb_sm P) {n : Nat} {f : gb_F} {w : Int64} {p1 : Int32} {p2 : Int32} {p3 : Int32} {p4 : Int32} (h : P f) : gb_pm P (ms_backs n f w p1 p2 p3 p4) := by
  unfold ms_backs
  refine pm_bd (cm_isBorder hW h) (fun f_1 wl_2 r_3 hf_1 => ?_)
  refine pm_if ?_ ?_
  · exact pm_some hf_1
  · refine pm_bd (cm_isPath hW hf_1) (fun f_7 wl_8 r_9 hf_7 => ?_)
    refine pm_if ?_ ?_
    · exact pm_some hf_7
    · refine pm_bd (cm_isIn hW hf_7) (fun f_13 wl_14 r_15 hf_13 => ?_)
      refine pm_if ?_ ?_
      · exact pm_some hf_13
      · exact cm_backs_35 hW _ _ _ _ _ _ _ _ hf_13
theorem cm_apartWithout_112 {P : gb_F → Prop} (hW : gb_sm P) {n : Nat} {k4 : gb_F → Int64 → Int32 → Int32 → Int32 → gb_MR Int32} (h_k4 : ∀ (s : gb_F) (x1 : Int64) (x2 : Int32) (x3 : Int32) (x4 : Int32), P s → gb_pm P (k4 s x1 x2 x3 x4)) : ∀ (mm : Nat) (f : gb_F) (w : Int64) (v1 : Int32) (v2 : Int32) (v3 : Int32) (v4 : Int32) (v5 : Int32) (v6 : Int32) (v7 : Int32) (v8 : Int32), P f → gb_pm P (ms_apartWithout_112 n k4 mm f w v1 v2 v3 v4 v5 v6 v7 v8) := by
  intro mm
  induction mm with
  | zero =>
    intros
    exact pm_none
  | succ mm ih =>
    intro f w v1 v2 v3 v4 v5 v6 v7 v8 h
    unfold ms_apartWithout_112
    refine pm_bd (cm_geese hW h) (fun f_18 wl_19 r_20 hf_18 => ?_)
    refine pm_if ?_ ?_
    · refine pm_if ?_ ?_
      · refine pm_ltV (fun x_25 => ?_)
        exact h_k4 _ _ _ _ _ hf_18
      · refine pm_if ?_ ?_
        · refine pm_ltV (fun x_27 => ?_)
          refine pm_ltV (fun x_28 => ?_)
          exact h_k4 _ _ _ _ _ hf_18
        · refine pm_if ?_ ?_
          · refine pm_ltV (fun x_30 => ?_)
            exact h_k4 _ _ _ _ _ hf_18
          · refine pm_ltV (fun x_31 => ?_)
            refine pm_ltV (fun x_32 => ?_)
            exact h_k4 _ _ _ _ _ hf_18
    · refine pm_if ?_ ?_
      · refine pm_bd (cm_paths hW hf_18) (fun f_34 wl_35 r_36 hf_34 => ?_)
        refine pm_nz ?_
        refine pm_ltV (fun x_40 => ?_)
        refine pm_ltV (fun x_41 => ?_)
        exact ih _ _ _ _ _ _ _ _ _ _ hf_34
      · refine pm_bd (cm_paths hW hf_18) (fun f_42 wl_43 r_44 hf_42 => ?_)
        refine pm_nz ?_
        refine pm_ltV (fun x_48 => ?_)
        refine pm_if ?_ ?_
        · refine pm_bd (cm_paths hW hf_42) (fun f_50 wl_51 r_52 hf_50 => ?_)
          refine pm_nz ?_
          refine pm_ltV (fun x_56 => ?_)
          refine pm_ltV (fun x_57 => ?_)
          exact ih _ _ _ _ _ _ _ _ _ _ hf_50
        · refine pm_bd (cm_paths hW hf_42) (fun f_58 wl_59 r_60 hf_58 => ?_)
          refine pm_nz ?_
          refine pm_ltV (fun x_64 => ?_)
          refine pm_ltV (fun x_65 => ?_)
          exact ih _ _ _ _ _ _ _ _ _ _ hf_58
theorem cm_apartWithout_71 {P : gb_F → Prop} (hW : gb_sm P) {n : Nat} {k4 : gb_F → Int64 → Int32 → Int32 → Int32 → gb_MR Int32} {k26 : gb_F → Int64 → Int32 → Int32 → Int32 → Int32 → Int32 → Int32 → gb_MR Int32} (h_k4 : ∀ (s : gb_F) (x1 : Int64) (x2 : Int32) (x3 : Int32) (x4 : Int32), P s → gb_pm P (k4 s x1 x2 x3 x4)) (h_k26 : ∀ (s : gb_F) (x1 : Int64) (x2 : Int32) (x3 : Int32) (x4 : Int32) (x5 : Int32) (x6 : Int32) (x7 : Int32), P s → gb_pm P (k26 s x1 x2 x3 x4 x5 x6 x7)) {f : gb_F} {w : Int64} {v1 : Int32} {v2 : Int32} {v3 : Int32} {v5 : Int32} {v6 : Int32} {t0 : Int32} (h : P f) : gb_pm P (ms_apartWithout_71 n k4 k26 f w v1 v2 v3 v5 v6 t0) := by
  unfold ms_apartWithout_71
  refine pm_bd (cm_payOf hW h) (fun f_73 wl_74 r_75 hf_73 => ?_)
  refine pm_if ?_ ?_
  · refine pm_ltV (fun x_79 => ?_)
    exact h_k26 _ _ _ _ _ _ _ _ hf_73
  · refine pm_bd (cm_payOf hW hf_73) (fun f_80 wl_81 r_82 hf_80 => ?_)
    refine pm_ltV (fun x_85 => ?_)
    exact h_k26 _ _ _ _ _ _ _ _ hf_80
theorem cm_apartWithout_60 {P : gb_F → Prop} (hW : gb_sm P) {n : Nat} {k4 : gb_F → Int64 → Int32 → Int32 → Int32 → gb_MR Int32} {k26 : gb_F → Int64 → Int32 → Int32 → Int32 → Int32 → Int32 → Int32 → gb_MR Int32} (h_k4 : ∀ (s : gb_F) (x1 : Int64) (x2 : Int32) (x3 : Int32) (x4 : Int32), P s → gb_pm P (k4 s x1 x2 x3 x4)) (h_k26 : ∀ (s : gb_F) (x1 : Int64) (x2 : Int32) (x3 : Int32) (x4 : Int32) (x5 : Int32) (x6 : Int32) (x7 : Int32), P s → gb_pm P (k26 s x1 x2 x3 x4 x5 x6 x7)) {f : gb_F} {w : Int64} {v1 : Int32} {v2 : Int32} {v3 : Int32} {v5 : Int32} {v6 : Int32} (h : P f) : gb_pm P (ms_apartWithout_60 n k4 k26 f w v1 v2 v3 v5 v6) := by
  unfold ms_apartWithout_60
  refine pm_bd (cm_payOf hW h) (fun f_68 wl_69 r_70 hf_68 => ?_)
  exact cm_apartWithout_71 hW h_k4 h_k26 hf_68
theorem cm_apartWithout_26 {P : gb_F → Prop} (hW : gb_sm P) {n : Nat} {k4 : gb_F → Int64 → Int32 → Int32 → Int32 → gb_MR Int32} (h_k4 : ∀ (s : gb_F) (x1 : Int64) (x2 : Int32) (x3 : Int32) (x4 : Int32), P s → gb_pm P (k4 s x1 x2 x3 x4)) : ∀ (mm : Nat) (f : gb_F) (w : Int64) (v1 : Int32) (v2 : Int32) (v3 : Int32) (v4 : Int32) (v5 : Int32) (v6 : Int32), P f → gb_pm P (ms_apartWithout_26 n k4 mm f w v1 v2 v3 v4 v5 v6) := by
  intro mm
  induction mm with
  | zero =>
    intros
    exact pm_none
  | succ mm ih =>
    intro f w v1 v2 v3 v4 v5 v6 h
    unfold ms_apartWithout_26
    refine pm_bd (cm_paths hW h) (fun f_12 wl_13 r_14 hf_12 => ?_)
    refine pm_if ?_ ?_
    · exact cm_apartWithout_112 hW h_k4 _ _ _ _ _ _ _ _ _ _ _ hf_12
    · refine pm_if ?_ ?_
      · refine pm_ltV (fun x_92 => ?_)
        exact ih _ _ _ _ _ _ _ _ hf_12
      · refine pm_if ?_ ?_
        · refine cm_apartWithout_60 hW h_k4 ?_ hf_12
          · intro f w v1 v2 v3 v4 v5 v6 hf
            exact ih _ _ _ _ _ _ _ _ hf
        · refine pm_bd (cm_payOf hW hf_12) (fun f_86 wl_87 r_88 hf_86 => ?_)
          refine pm_if ?_ ?_
          · refine cm_apartWithout_71 hW h_k4 ?_ hf_86
            · intro f w v1 v2 v3 v4 v5 v6 hf
              exact ih _ _ _ _ _ _ _ _ hf
          · refine cm_apartWithout_60 hW h_k4 ?_ hf_86
            · intro f w v1 v2 v3 v4 v5 v6 hf
              exact ih _ _ _ _ _ _ _ _ hf
theorem cm_apartWithout_4 {P : gb_F → Prop} (hW : gb_sm P) {n : Nat} : ∀ (mm : Nat) (f : gb_F) (w : Int64) (v1 : Int32) (v2 : Int32) (v3 : Int32), P f → gb_pm P (ms_apartWithout_4 n mm f w v1 v2 v3) := by
  intro mm
  induction mm with
  | zero =>
    intros
    exact pm_none
  | succ mm ih =>
    intro f w v1 v2 v3 h
    unfold ms_apartWithout_4
    refine pm_bd (cm_codes hW h) (fun f_1 wl_2 r_3 hf_1 => ?_)
    refine pm_if ?_ ?_
    · exact pm_some hf_1
    · refine pm_bd (cm_sums hW hf_1) (fun f_7 wl_8 _ hf_7 => ?_)
      refine cm_apartWithout_26 hW ?_ _ _ _ _ _ _ _ _ _ hf_7
      · intro f w v1 v2 v3 hf
        exact ih _ _ _ _ _ hf
theorem cm_apartWithout {P : gb_F → Prop} (hW : gb_sm P) {n : Nat} {f : gb_F} {w : Int64} {p1 : Int32} (h : P f) : gb_pm P (ms_apartWithout n f w p1) := by
  unfold ms_apartWithout
  exact cm_apartWithout_4 hW _ _ _ _ _ _ h
theorem cm_close_30 {P : gb_F → Prop} (hW : gb_sm P) {n : Nat} : ∀ (mm : Nat) (f : gb_F) (w : Int64) (v2 : Int32) (v3 : Int32) (v4 : Int32) (v5 : Int32), P f → gb_pm P (ms_close_30 n mm f w v2 v3 v4 v5) := by
  intro mm
  induction mm with
  | zero =>
    intros
    exact pm_none
  | succ mm ih =>
    intro f w v2 v3 v4 v5 h
    unfold ms_close_30
    refine pm_bd (cm_paths hW h) (fun f_18 wl_19 r_20 hf_18 => ?_)
    refine pm_if ?_ ?_
    · refine pm_if ?_ ?_
      · exact pm_some hf_18
      · exact pm_some hf_18
    · refine pm_bd (cm_apartWithout hW hf_18) (fun f_25 wl_26 r_27 hf_25 => ?_)
      refine pm_if ?_ ?_
      · refine pm_ltV (fun x_31 => ?_)
        exact ih _ _ _ _ _ _ hf_25
      · refine pm_if ?_ ?_
        · refine pm_ltV (fun x_33 => ?_)
          exact ih _ _ _ _ _ _ hf_25
        · refine pm_ltV (fun x_34 => ?_)
          exact ih _ _ _ _ _ _ hf_25
theorem cm_close {P : gb_F → Prop} (hW : gb_sm P) {n : Nat} {f : gb_F} {w : Int64} {p1 : Int32} {p2 : Int32} (h : P f) : gb_pm P (ms_close n f w p1 p2) := by
  unfold ms_close
  refine pm_bd (cm_canMarch hW h) (fun f_1 wl_2 r_3 hf_1 => ?_)
  refine pm_if ?_ ?_
  · exact pm_some hf_1
  · refine pm_bd (cm_paths hW hf_1) (fun f_7 wl_8 r_9 hf_7 => ?_)
    refine pm_if ?_ ?_
    · refine pm_bd (cm_measures hW hf_7) (fun f_13 wl_14 _ hf_13 => ?_)
      exact cm_close_30 hW _ _ _ _ _ _ _ hf_13
    · exact pm_some hf_7
theorem cm_near_75 {P : gb_F → Prop} (hW : gb_sm P) {n : Nat} {k52 : gb_F → Int64 → Int32 → Int32 → Int32 → Int32 → gb_MR Int32} (h_k52 : ∀ (s : gb_F) (x1 : Int64) (x2 : Int32) (x3 : Int32) (x4 : Int32) (x5 : Int32), P s → gb_pm P (k52 s x1 x2 x3 x4 x5)) : ∀ (mm : Nat) (f : gb_F) (w : Int64) (v3 : Int32) (v4 : Int32) (v5 : Int32) (v6 : Int32) (v7 : Int32) (v8 : Int32), P f → gb_pm P (ms_near_75 n k52 mm f w v3 v4 v5 v6 v7 v8) := by
  intro mm
  induction mm with
  | zero =>
    intros
    exact pm_none
  | succ mm ih =>
    intro f w v3 v4 v5 v6 v7 v8 h
    unfold ms_near_75
    refine pm_bd (cm_geese hW h) (fun f_38 wl_39 r_40 hf_38 => ?_)
    refine pm_if ?_ ?_
    · refine pm_if ?_ ?_
      · refine pm_if ?_ ?_
        · refine pm_ltV (fun x_46 => ?_)
          exact h_k52 _ _ _ _ _ _ hf_38
        · refine pm_if ?_ ?_
          · refine pm_ltV (fun x_48 => ?_)
            exact h_k52 _ _ _ _ _ _ hf_38
          · refine pm_ltV (fun x_49 => ?_)
            exact h_k52 _ _ _ _ _ _ hf_38
      · refine pm_ltV (fun x_50 => ?_)
        refine pm_if ?_ ?_
        · refine pm_ltV (fun x_52 => ?_)
          exact h_k52 _ _ _ _ _ _ hf_38
        · refine pm_if ?_ ?_
          · refine pm_ltV (fun x_54 => ?_)
            exact h_k52 _ _ _ _ _ _ hf_38
          · refine pm_ltV (fun x_55 => ?_)
            exact h_k52 _ _ _ _ _ _ hf_38
    · refine pm_if ?_ ?_
      · refine pm_bd (cm_seenOf hW hf_38) (fun f_59 wl_60 r_61 hf_59 => ?_)
        refine pm_bd (cm_firstMarks hW hf_59) (fun f_64 wl_65 r_66 hf_64 => ?_)
        refine pm_ltV (fun x_69 => ?_)
        refine pm_ltV (fun x_70 => ?_)
        exact ih _ _ _ _ _ _ _ _ hf_64
      · refine pm_ltV (fun x_57 => ?_)
        refine pm_ltV (fun x_58 => ?_)
        exact ih _ _ _ _ _ _ _ _ hf_38
theorem cm_near_52 {P : gb_F → Prop} (hW : gb_sm P) {n : Nat} : ∀ (mm : Nat) (f : gb_F) (w : Int64) (v3 : Int32) (v4 : Int32) (v5 : Int32) (v6 : Int32), P f → gb_pm P (ms_near_52 n mm f w v3 v4 v5 v6) := by
  intro mm
  induction mm with
  | zero =>
    intros
    exact pm_none
  | succ mm ih =>
    intro f w v3 v4 v5 v6 h
    unfold ms_near_52
    refine pm_bd (cm_geese hW h) (fun f_26 wl_27 r_28 hf_26 => ?_)
    refine pm_if ?_ ?_
    · exact pm_some hf_26
    · refine pm_bd (cm_seenOf hW hf_26) (fun f_32 wl_33 r_34 hf_32 => ?_)
      refine pm_ltV (fun x_37 => ?_)
      refine cm_near_75 hW ?_ _ _ _ _ _ _ _ _ _ hf_32
      · intro f w v3 v4 v5 v6 hf
        exact ih _ _ _ _ _ _ hf
theorem cm_near {P : gb_F → Prop} (hW : gb_sm P) {n : Nat} {f : gb_F} {w : Int64} {p1 : Int32} {p2 : Int32} {p3 : Int32} (h : P f) : gb_pm P (ms_near n f w p1 p2 p3) := by
  unfold ms_near
  refine pm_bd (cm_areSeen hW h) (fun f_1 wl_2 r_3 hf_1 => ?_)
  refine pm_if ?_ ?_
  · exact pm_some hf_1
  · refine pm_ck ?_
    refine pm_ltV (fun x_8 => ?_)
    refine pm_bd (cm_isIn hW hf_1) (fun f_9 wl_10 r_11 hf_9 => ?_)
    refine pm_if ?_ ?_
    · exact pm_some hf_9
    · refine pm_bd (cm_seenOf hW hf_9) (fun f_15 wl_16 r_17 hf_15 => ?_)
      refine pm_bd (cm_isPath hW hf_15) (fun f_20 wl_21 r_22 hf_20 => ?_)
      refine pm_if ?_ ?_
      · exact pm_some hf_20
      · exact cm_near_52 hW _ _ _ _ _ _ _ hf_20
theorem cm_swaps_2 {P : gb_F → Prop} (hW : gb_sm P) (w1 : gb_w1c P) {n : Nat} : ∀ (mm : Nat) (f : gb_F) (w : Int64) (v1 : Int32) (v2 : Int32), P f → gb_pm P (ms_swaps_2 n mm f w v1 v2) := by
  intro mm
  induction mm with
  | zero =>
    intros
    exact pm_none
  | succ mm ih =>
    intro f w v1 v2 h
    unfold ms_swaps_2
    refine pm_if ?_ ?_
    · exact pm_some h
    · refine pm_ltV (fun x_2 => ?_)
      refine pm_ck ?_
      refine pm_ltV (fun x_4 => ?_)
      refine pm_ck ?_
      refine pm_ltV (fun x_6 => ?_)
      refine pm_ck ?_
      refine pm_ltS (w1 _ _ h) (fun f_8 hf_8 => ?_)
      refine pm_ck ?_
      refine pm_ltS (w1 _ _ hf_8) (fun f_10 hf_10 => ?_)
      refine pm_ltV (fun x_11 => ?_)
      exact ih _ _ _ _ hf_10
theorem cm_swaps {P : gb_F → Prop} (hW : gb_sm P) (w1 : gb_w1c P) {n : Nat} {f : gb_F} {w : Int64} {p1 : Int32} (h : P f) : gb_pm P (ms_swaps n f w p1) := by
  unfold ms_swaps
  exact cm_swaps_2 hW w1 _ _ _ _ _ h
theorem cm_shift_79 {P : gb_F → Prop} (hW : gb_sm P) (w1 : gb_w1c P) {n : Nat} {k35 : gb_F → Int64 → Int32 → Int32 → Int32 → Int32 → Int32 → gb_MR Int32} (h_k35 : ∀ (s : gb_F) (x1 : Int64) (x2 : Int32) (x3 : Int32) (x4 : Int32) (x5 : Int32) (x6 : Int32), P s → gb_pm P (k35 s x1 x2 x3 x4 x5 x6)) {f : gb_F} {w : Int64} {v3 : Int32} {v4 : Int32} {v5 : Int32} {v6 : Int32} {v7 : Int32} {t0 : Int32} (h : P f) : gb_pm P (ms_shift_79 n k35 f w v3 v4 v5 v6 v7 t0) := by
  unfold ms_shift_79
  refine pm_if ?_ ?_
  · refine pm_if ?_ ?_
    · refine pm_bd (cm_swaps hW w1 h) (fun f_34 wl_35 _ hf_34 => ?_)
      refine pm_ltV (fun x_39 => ?_)
      exact h_k35 _ _ _ _ _ _ _ hf_34
    · refine pm_bd (cm_swaps hW w1 h) (fun f_40 wl_41 _ hf_40 => ?_)
      refine pm_ltV (fun x_45 => ?_)
      exact h_k35 _ _ _ _ _ _ _ hf_40
  · refine pm_bd (cm_allPay hW h) (fun f_46 wl_47 r_48 hf_46 => ?_)
    refine pm_if ?_ ?_
    · refine pm_bd (cm_swaps hW w1 hf_46) (fun f_52 wl_53 _ hf_52 => ?_)
      refine pm_ltV (fun x_57 => ?_)
      exact h_k35 _ _ _ _ _ _ _ hf_52
    · refine pm_bd (cm_swaps hW w1 hf_46) (fun f_58 wl_59 _ hf_58 => ?_)
      refine pm_ltV (fun x_63 => ?_)
      exact h_k35 _ _ _ _ _ _ _ hf_58
theorem cm_shift_78 {P : gb_F → Prop} (hW : gb_sm P) (w1 : gb_w1c P) {n : Nat} {k35 : gb_F → Int64 → Int32 → Int32 → Int32 → Int32 → Int32 → gb_MR Int32} (h_k35 : ∀ (s : gb_F) (x1 : Int64) (x2 : Int32) (x3 : Int32) (x4 : Int32) (x5 : Int32) (x6 : Int32), P s → gb_pm P (k35 s x1 x2 x3 x4 x5 x6)) {f : gb_F} {w : Int64} {v3 : Int32} {v4 : Int32} {v5 : Int32} {v6 : Int32} {v7 : Int32} (h : P f) : gb_pm P (ms_shift_78 n k35 f w v3 v4 v5 v6 v7) := by
  unfold ms_shift_78
  exact cm_shift_79 hW w1 h_k35 h
theorem cm_shift_35 {P : gb_F → Prop} (hW : gb_sm P) (w1 : gb_w1c P) {n : Nat} : ∀ (mm : Nat) (f : gb_F) (w : Int64) (v3 : Int32) (v4 : Int32) (v5 : Int32) (v6 : Int32) (v7 : Int32), P f → gb_pm P (ms_shift_35 n mm f w v3 v4 v5 v6 v7) := by
  intro mm
  induction mm with
  | zero =>
    intros
    exact pm_none
  | succ mm ih =>
    intro f w v3 v4 v5 v6 v7 h
    unfold ms_shift_35
    refine pm_if ?_ ?_
    · refine pm_if ?_ ?_
      · exact pm_some h
      · refine pm_if ?_ ?_
        · exact pm_some h
        · exact pm_some h
    · refine pm_bd (cm_swaps hW w1 h) (fun f_21 wl_22 _ hf_21 => ?_)
      refine pm_bd (cm_runs hW hf_21) (fun f_26 wl_27 _ hf_26 => ?_)
      refine pm_if ?_ ?_
      · refine cm_shift_78 hW w1 ?_ hf_26
        · intro f w v3 v4 v5 v6 v7 hf
          exact ih _ _ _ _ _ _ _ hf
      · refine pm_bd (cm_allPay hW hf_26) (fun f_64 wl_65 r_66 hf_64 => ?_)
        refine pm_if ?_ ?_
        · refine cm_shift_78 hW w1 ?_ hf_64
          · intro f w v3 v4 v5 v6 v7 hf
            exact ih _ _ _ _ _ _ _ hf
        · refine cm_shift_79 hW w1 ?_ hf_64
          · intro f w v3 v4 v5 v6 v7 hf
            exact ih _ _ _ _ _ _ _ hf
theorem cm_shift {P : gb_F → Prop} (hW : gb_sm P) (w1 : gb_w1c P) {n : Nat} {f : gb_F} {w : Int64} {p1 : Int32} {p2 : Int32} {p3 : Int32} (h : P f) : gb_pm P (ms_shift n f w p1 p2 p3) := by
  unfold ms_shift
  refine pm_bd (cm_areTold hW h) (fun f_1 wl_2 r_3 hf_1 => ?_)
  refine pm_if ?_ ?_
  · exact pm_some hf_1
  · refine pm_bd (cm_runs hW hf_1) (fun f_7 wl_8 _ hf_7 => ?_)
    refine pm_ltV (fun x_12 => ?_)
    refine pm_bd (cm_allPay hW hf_7) (fun f_13 wl_14 r_15 hf_13 => ?_)
    exact cm_shift_35 hW w1 _ _ _ _ _ _ _ _ hf_13
theorem cm_isPut_20 {P : gb_F → Prop} (hW : gb_sm P) {n : Nat} : ∀ (mm : Nat) (f : gb_F) (w : Int64) (v1 : Int32) (v2 : Int32) (v3 : Int32) (v4 : Int32), P f → gb_pm P (ms_isPut_20 n mm f w v1 v2 v3 v4) := by
  intro mm
  induction mm with
  | zero =>
    intros
    exact pm_none
  | succ mm ih =>
    intro f w v1 v2 v3 v4 h
    unfold ms_isPut_20
    refine pm_bd (cm_geese hW h) (fun f_8 wl_9 r_10 hf_8 => ?_)
    refine pm_if ?_ ?_
    · refine pm_cb ?_
      exact pm_some hf_8
    · refine pm_if ?_ ?_
      · refine pm_if ?_ ?_
        · refine pm_bd (cm_paths hW hf_8) (fun f_19 wl_20 r_21 hf_19 => ?_)
          refine pm_if ?_ ?_
          · refine pm_ltV (fun x_25 => ?_)
            exact ih _ _ _ _ _ _ hf_19
          · refine pm_ck ?_
            refine pm_ltV (fun x_27 => ?_)
            refine pm_if ?_ ?_
            · refine pm_ltV (fun x_29 => ?_)
              exact ih _ _ _ _ _ _ hf_19
            · refine pm_bd (cm_ofPath hW hf_19) (fun f_30 wl_31 r_32 hf_30 => ?_)
              refine pm_bd (cm_firstMarks hW hf_30) (fun f_35 wl_36 r_37 hf_35 => ?_)
              refine pm_if ?_ ?_
              · refine pm_ltV (fun x_41 => ?_)
                exact ih _ _ _ _ _ _ hf_35
              · refine pm_ltV (fun x_42 => ?_)
                exact ih _ _ _ _ _ _ hf_35
        · refine pm_ltV (fun x_18 => ?_)
          exact ih _ _ _ _ _ _ hf_8
      · refine pm_ltV (fun x_16 => ?_)
        exact ih _ _ _ _ _ _ hf_8
theorem cm_isPut {P : gb_F → Prop} (hW : gb_sm P) {n : Nat} {f : gb_F} {w : Int64} {p1 : Int32} (h : P f) : gb_pm P (ms_isPut n f w p1) := by
  unfold ms_isPut
  refine pm_bd (cm_bits hW h) (fun f_1 wl_2 r_3 hf_1 => ?_)
  refine pm_ltV (fun x_6 => ?_)
  refine pm_if ?_ ?_
  · exact cm_isPut_20 hW _ _ _ _ _ _ _ hf_1
  · exact cm_isPut_20 hW _ _ _ _ _ _ _ hf_1
theorem cm_thrift_12 {P : gb_F → Prop} (hW : gb_sm P) {n : Nat} : ∀ (mm : Nat) (f : gb_F) (w : Int64) (v2 : Int32), P f → gb_pm P (ms_thrift_12 n mm f w v2) := by
  intro mm
  induction mm with
  | zero =>
    intros
    exact pm_none
  | succ mm ih =>
    intro f w v2 h
    unfold ms_thrift_12
    refine pm_bd (cm_geese hW h) (fun f_7 wl_8 r_9 hf_7 => ?_)
    refine pm_if ?_ ?_
    · exact pm_some hf_7
    · refine pm_bd (cm_isPut hW hf_7) (fun f_13 wl_14 r_15 hf_13 => ?_)
      refine pm_ck ?_
      refine pm_ltS (hW.2 _ _ _ (by decide) hf_13) (fun f_19 hf_19 => ?_)
      refine pm_ck ?_
      refine pm_ltV (fun x_21 => ?_)
      refine pm_if ?_ ?_
      · refine pm_ltV (fun x_23 => ?_)
        exact ih _ _ _ hf_19
      · refine pm_bd (cm_bits hW hf_19) (fun f_24 wl_25 r_26 hf_24 => ?_)
        refine pm_bd (cm_paths hW hf_24) (fun f_29 wl_30 r_31 hf_29 => ?_)
        refine pm_if ?_ ?_
        · exact pm_some hf_29
        · refine pm_ltV (fun x_35 => ?_)
          exact ih _ _ _ hf_29
theorem cm_thrift {P : gb_F → Prop} (hW : gb_sm P) {n : Nat} {f : gb_F} {w : Int64} {p1 : Int32} (h : P f) : gb_pm P (ms_thrift n f w p1) := by
  unfold ms_thrift
  refine pm_bd (cm_isBorder hW h) (fun f_1 wl_2 r_3 hf_1 => ?_)
  refine pm_if ?_ ?_
  · exact pm_some hf_1
  · exact cm_thrift_12 hW _ _ _ _ hf_1
theorem cm_count {P : gb_F → Prop} (hW : gb_sm P) {n : Nat} {f : gb_F} {w : Int64} {p1 : Int32} (h : P f) : gb_pm P (ms_count n f w p1) := by
  unfold ms_count
  refine pm_bd (cm_isIn hW h) (fun f_1 wl_2 r_3 hf_1 => ?_)
  refine pm_if ?_ ?_
  · exact pm_some hf_1
  · refine pm_ck ?_
    refine pm_ltV (fun x_8 => ?_)
    exact pm_some hf_1
theorem cm_image_20 {P : gb_F → Prop} (hW : gb_sm P) (w1 : gb_w1c P) {n : Nat} : ∀ (mm : Nat) (f : gb_F) (w : Int64) (v1 : Int32) (v2 : Int32), P f → gb_pm P (ms_image_20 n mm f w v1 v2) := by
  intro mm
  induction mm with
  | zero =>
    intros
    exact pm_none
  | succ mm ih =>
    intro f w v1 v2 h
    unfold ms_image_20
    refine pm_if ?_ ?_
    · exact pm_some h
    · refine pm_ck ?_
      refine pm_ltV (fun x_11 => ?_)
      refine pm_ck ?_
      refine pm_ltS (w1 _ _ h) (fun f_13 hf_13 => ?_)
      refine pm_ltV (fun x_14 => ?_)
      exact ih _ _ _ _ hf_13
theorem cm_image {P : gb_F → Prop} (hW : gb_sm P) (w1 : gb_w1c P) (w2 : gb_w2c P) {n : Nat} {f : gb_F} {w : Int64} {p1 : Int32} (h : P f) : gb_pm P (ms_image n f w p1) := by
  unfold ms_image
  refine pm_bd (cm_isIn hW h) (fun f_1 wl_2 r_3 hf_1 => ?_)
  refine pm_if ?_ ?_
  · exact pm_some hf_1
  · refine pm_ck ?_
    refine pm_ltS (w2 _ _ hf_1) (fun f_8 hf_8 => ?_)
    exact cm_image_20 hW w1 _ _ _ _ _ hf_8
theorem cm_again_22 {P : gb_F → Prop} (hW : gb_sm P) (w1 : gb_w1c P) {n : Nat} : ∀ (mm : Nat) (f : gb_F) (w : Int64) (v1 : Int32) (v2 : Int32), P f → gb_pm P (ms_again_22 n mm f w v1 v2) := by
  intro mm
  induction mm with
  | zero =>
    intros
    exact pm_none
  | succ mm ih =>
    intro f w v1 v2 h
    unfold ms_again_22
    refine pm_if ?_ ?_
    · exact pm_some h
    · refine pm_ck ?_
      refine pm_ltV (fun x_12 => ?_)
      refine pm_ck ?_
      refine pm_ltS (w1 _ _ h) (fun f_14 hf_14 => ?_)
      refine pm_ltV (fun x_15 => ?_)
      exact ih _ _ _ _ hf_14
theorem cm_again {P : gb_F → Prop} (hW : gb_sm P) (w1 : gb_w1c P) {n : Nat} {f : gb_F} {w : Int64} {p1 : Int32} (h : P f) : gb_pm P (ms_again n f w p1) := by
  unfold ms_again
  refine pm_bd (cm_isIn hW h) (fun f_1 wl_2 r_3 hf_1 => ?_)
  refine pm_if ?_ ?_
  · exact pm_some hf_1
  · refine pm_ck ?_
    refine pm_ltV (fun x_8 => ?_)
    refine pm_if ?_ ?_
    · exact pm_some hf_1
    · exact cm_again_22 hW w1 _ _ _ _ _ hf_1
