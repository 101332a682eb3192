/-! each call of both sides at once -/
theorem gb_NN0 : gb_N ≤ gb_N := Nat.le_refl _
theorem qs_feed (a1 a2 a3 a4 a5 : Int32) {σ : gb_S} {f : gb_F} (w : Int64) (hC : gb_TC σ) (hM : gb_TM f) : ∃ (σ2 : gb_S) (ra : Int32) (f2 : gb_F) (w2 : Int64) (qa : Int32), cs_Face_feed gb_N σ a1 a2 a3 a4 a5 = some (σ2, ra) ∧ ms_feed gb_N f w a1 a2 a3 a4 a5 = some (f2, w2, qa) ∧ gb_TC σ2 ∧ gb_TM f2 := by
  obtain ⟨σ2, ra, ec, hc⟩ := ct_Face_feed gb_NN0 (σ := σ) (p1 := a1) (p2 := a2) (p3 := a3) (p4 := a4) (p5 := a5) hC
  obtain ⟨f2, w2, qa, em, hm⟩ := mt_feed gb_NN0 (f := f) (w := w) (p1 := a1) (p2 := a2) (p3 := a3) (p4 := a4) (p5 := a5) hM
  exact ⟨σ2, ra, f2, w2, qa, ec, em, hc.1, hm⟩
theorem qs_end (a1 : Int32) {σ : gb_S} {f : gb_F} (w : Int64) (hC : gb_TC σ) (hM : gb_TM f) : ∃ (σ2 : gb_S) (ra : Int32) (f2 : gb_F) (w2 : Int64) (qa : Int32), cs_Face_end gb_N σ a1 = some (σ2, ra) ∧ ms_end gb_N f w a1 = some (f2, w2, qa) ∧ gb_TC σ2 ∧ gb_TM f2 := by
  obtain ⟨σ2, ra, ec, hc⟩ := ct_Face_end gb_NN0 (σ := σ) (p1 := a1) hC
  obtain ⟨f2, w2, qa, em, hm⟩ := mt_end (f := f) (w := w) (p1 := a1) hM
  exact ⟨σ2, ra, f2, w2, qa, ec, em, hc.1, hm⟩
theorem qs_text (a1 a2 : Int32) {σ : gb_S} {f : gb_F} (w : Int64) (hC : gb_TC σ) (hM : gb_TM f) : ∃ (σ2 : gb_S) (ra : Int32) (f2 : gb_F) (w2 : Int64) (qa : Int32), cs_Face_text gb_N σ a1 a2 = some (σ2, ra) ∧ ms_text gb_N f w a1 a2 = some (f2, w2, qa) ∧ gb_TC σ2 ∧ gb_TM f2 := by
  obtain ⟨σ2, ra, ec, hc⟩ := ct_Face_text gb_NN0 (σ := σ) (p1 := a1) (p2 := a2) hC
  obtain ⟨f2, w2, qa, em, hm⟩ := mt_text gb_NN0 (f := f) (w := w) (p1 := a1) (p2 := a2) hM
  exact ⟨σ2, ra, f2, w2, qa, ec, em, hc, hm⟩
theorem qs_fault (a1 : Int32) {σ : gb_S} {f : gb_F} (w : Int64) (hC : gb_TC σ) (hM : gb_TM f) : ∃ (σ2 : gb_S) (ra : Int32) (f2 : gb_F) (w2 : Int64) (qa : Int32), cs_Face_fault gb_N σ a1 = some (σ2, ra) ∧ ms_fault gb_N f w a1 = some (f2, w2, qa) ∧ gb_TC σ2 ∧ gb_TM f2 ∧ gb_fs gb_Wq σ σ2 ∧ gb_k12 (f 1) (f 2) f2 := by
  obtain ⟨σ2, ra, ec, hc⟩ := ct_Face_fault gb_NN0 (σ := σ) (p1 := a1) hC
  obtain ⟨f2, w2, qa, em, hm⟩ := mt_fault gb_NN0 (f := f) (w := w) (p1 := a1) hM
  exact ⟨σ2, ra, f2, w2, qa, ec, em, hc.1 ▸ hC, hm.1 ▸ hM, cf_Face_fault gb_Wq_sc fs_rf _ _ ec, cm_fault gb_k12_sm ⟨rfl, rfl⟩ _ _ _ em⟩
theorem qs_border (a1 a2 : Int32) {σ : gb_S} {f : gb_F} (w : Int64) (hC : gb_TC σ) (hM : gb_TM f) : ∃ (σ2 : gb_S) (ra : Int32) (f2 : gb_F) (w2 : Int64) (qa : Int32), cs_Face_border gb_N σ a1 a2 = some (σ2, ra) ∧ ms_border gb_N f w a1 a2 = some (f2, w2, qa) ∧ gb_TC σ2 ∧ gb_TM f2 ∧ gb_fs gb_Wq σ σ2 ∧ gb_k12 (f 1) (f 2) f2 := by
  obtain ⟨σ2, ra, ec, hc⟩ := ct_Face_border gb_NN0 (σ := σ) (p1 := a1) (p2 := a2) hC
  obtain ⟨f2, w2, qa, em, hm⟩ := mt_border gb_NN0 (f := f) (w := w) (p1 := a1) (p2 := a2) hM
  exact ⟨σ2, ra, f2, w2, qa, ec, em, hc.1 ▸ hC, hm.1, cf_Face_border gb_Wq_sc fs_rf _ _ ec, cm_border gb_k12_sm ⟨rfl, rfl⟩ _ _ _ em⟩
theorem qs_marks (a1 a2 a3 a4 : Int32) {σ : gb_S} {f : gb_F} (w : Int64) (hC : gb_TC σ) (hM : gb_TM f) : ∃ (σ2 : gb_S) (ra : Int32) (f2 : gb_F) (w2 : Int64) (qa : Int32), cs_Face_marks gb_N σ a1 a2 a3 a4 = some (σ2, ra) ∧ ms_marks gb_N f w a1 a2 a3 a4 = some (f2, w2, qa) ∧ gb_TC σ2 ∧ gb_TM f2 ∧ gb_fs gb_Wq σ σ2 ∧ gb_k12 (f 1) (f 2) f2 := by
  obtain ⟨σ2, ra, ec, hc⟩ := ct_Face_marks gb_NN0 (σ := σ) (p1 := a1) (p2 := a2) (p3 := a3) (p4 := a4) hC
  obtain ⟨f2, w2, qa, em, hm⟩ := mt_marks gb_NN0 (f := f) (w := w) (p1 := a1) (p2 := a2) (p3 := a3) (p4 := a4) hM
  exact ⟨σ2, ra, f2, w2, qa, ec, em, hc.1 ▸ hC, hm.1, cf_Face_marks gb_Wq_sc fs_rf _ _ ec, cm_marks gb_k12_sm ⟨rfl, rfl⟩ _ _ _ em⟩
theorem qs_deed (a1 a2 a3 : Int32) {σ : gb_S} {f : gb_F} (w : Int64) (hC : gb_TC σ) (hM : gb_TM f) : ∃ (σ2 : gb_S) (ra : Int32) (f2 : gb_F) (w2 : Int64) (qa : Int32), cs_Face_deed gb_N σ a1 a2 a3 = some (σ2, ra) ∧ ms_deed gb_N f w a1 a2 a3 = some (f2, w2, qa) ∧ gb_TC σ2 ∧ gb_TM f2 ∧ gb_fs gb_Wq σ σ2 ∧ gb_k12 (f 1) (f 2) f2 := by
  obtain ⟨σ2, ra, ec, hc⟩ := ct_Face_deed gb_NN0 (σ := σ) (p1 := a1) (p2 := a2) (p3 := a3) hC
  obtain ⟨f2, w2, qa, em, hm⟩ := mt_deed gb_NN0 (f := f) (w := w) (p1 := a1) (p2 := a2) (p3 := a3) hM
  exact ⟨σ2, ra, f2, w2, qa, ec, em, hc.1 ▸ hC, hm.1, cf_Face_deed gb_Wq_sc fs_rf _ _ ec, cm_deed gb_k12_sm ⟨rfl, rfl⟩ _ _ _ em⟩
theorem qs_stop (a1 a2 : Int32) {σ : gb_S} {f : gb_F} (w : Int64) (hC : gb_TC σ) (hM : gb_TM f) : ∃ (σ2 : gb_S) (ra : Int32) (f2 : gb_F) (w2 : Int64) (qa : Int32), cs_Face_stop gb_N σ a1 a2 = some (σ2, ra) ∧ ms_stop gb_N f w a1 a2 = some (f2, w2, qa) ∧ gb_TC σ2 ∧ gb_TM f2 ∧ gb_fs gb_Wq σ σ2 ∧ gb_k12 (f 1) (f 2) f2 := by
  obtain ⟨σ2, ra, ec, hc⟩ := ct_Face_stop gb_NN0 (σ := σ) (p1 := a1) (p2 := a2) hC
  obtain ⟨f2, w2, qa, em, hm⟩ := mt_stop gb_NN0 (f := f) (w := w) (p1 := a1) (p2 := a2) hM
  exact ⟨σ2, ra, f2, w2, qa, ec, em, hc.1, hm.1, cf_Face_stop gb_Wq_sc fs_rf _ _ ec, cm_stop gb_k12_sm ⟨rfl, rfl⟩ _ _ _ em⟩
theorem qs_goose (a1 a2 a3 a4 a5 : Int32) {σ : gb_S} {f : gb_F} (w : Int64) (hC : gb_TC σ) (hM : gb_TM f) : ∃ (σ2 : gb_S) (ra : Int32) (f2 : gb_F) (w2 : Int64) (qa : Int32), cs_Face_goose gb_N σ a1 a2 a3 a4 a5 = some (σ2, ra) ∧ ms_goose gb_N f w a1 a2 a3 a4 a5 = some (f2, w2, qa) ∧ gb_TC σ2 ∧ gb_TM f2 ∧ gb_fs gb_Wq σ σ2 ∧ gb_k12 (f 1) (f 2) f2 := by
  obtain ⟨σ2, ra, ec, hc⟩ := ct_Face_goose gb_NN0 (σ := σ) (p1 := a1) (p2 := a2) (p3 := a3) (p4 := a4) (p5 := a5) hC
  obtain ⟨f2, w2, qa, em, hm⟩ := mt_goose gb_NN0 (f := f) (w := w) (p1 := a1) (p2 := a2) (p3 := a3) (p4 := a4) (p5 := a5) hM
  exact ⟨σ2, ra, f2, w2, qa, ec, em, hc.1, hm.1, cf_Face_goose gb_Wq_sc fs_rf _ _ ec, cm_goose gb_k12_sm ⟨rfl, rfl⟩ _ _ _ em⟩
theorem qs_path (a1 a2 a3 a4 a5 : Int32) {σ : gb_S} {f : gb_F} (w : Int64) (hC : gb_TC σ) (hM : gb_TM f) : ∃ (σ2 : gb_S) (ra : Int32) (f2 : gb_F) (w2 : Int64) (qa : Int32), cs_Face_path gb_N σ a1 a2 a3 a4 a5 = some (σ2, ra) ∧ ms_path gb_N f w a1 a2 a3 a4 a5 = some (f2, w2, qa) ∧ gb_TC σ2 ∧ gb_TM f2 ∧ gb_fs gb_Wq σ σ2 ∧ gb_k12 (f 1) (f 2) f2 := by
  obtain ⟨σ2, ra, ec, hc⟩ := ct_Face_path gb_NN0 (σ := σ) (p1 := a1) (p2 := a2) (p3 := a3) (p4 := a4) (p5 := a5) hC
  obtain ⟨f2, w2, qa, em, hm⟩ := mt_path gb_NN0 (f := f) (w := w) (p1 := a1) (p2 := a2) (p3 := a3) (p4 := a4) (p5 := a5) hM
  exact ⟨σ2, ra, f2, w2, qa, ec, em, hc.1, hm.1, cf_Face_path gb_Wq_sc fs_rf _ _ ec, cm_path gb_k12_sm ⟨rfl, rfl⟩ _ _ _ em⟩
theorem qs_state (a1 a2 a3 a4 : Int32) {σ : gb_S} {f : gb_F} (w : Int64) (hC : gb_TC σ) (hM : gb_TM f) : ∃ (σ2 : gb_S) (ra : Int32) (f2 : gb_F) (w2 : Int64) (qa : Int32), cs_Face_state gb_N σ a1 a2 a3 a4 = some (σ2, ra) ∧ ms_state gb_N f w a1 a2 a3 a4 = some (f2, w2, qa) ∧ gb_TC σ2 ∧ gb_TM f2 ∧ gb_fs gb_Wq σ σ2 ∧ gb_k12 (f 1) (f 2) f2 := by
  obtain ⟨σ2, ra, ec, hc⟩ := ct_Face_state gb_NN0 (σ := σ) (p1 := a1) (p2 := a2) (p3 := a3) (p4 := a4) hC
  obtain ⟨f2, w2, qa, em, hm⟩ := mt_state gb_NN0 (f := f) (w := w) (p1 := a1) (p2 := a2) (p3 := a3) (p4 := a4) hM
  exact ⟨σ2, ra, f2, w2, qa, ec, em, hc.1, hm.1, cf_Face_state gb_Wq_sc fs_rf _ _ ec, cm_state gb_k12_sm ⟨rfl, rfl⟩ _ _ _ em⟩
theorem qs_term (a1 a2 a3 : Int32) {σ : gb_S} {f : gb_F} (w : Int64) (hC : gb_TC σ) (hM : gb_TM f) : ∃ (σ2 : gb_S) (ra : Int32) (f2 : gb_F) (w2 : Int64) (qa : Int32), cs_Face_term gb_N σ a1 a2 a3 = some (σ2, ra) ∧ ms_term gb_N f w a1 a2 a3 = some (f2, w2, qa) ∧ gb_TC σ2 ∧ gb_TM f2 ∧ gb_fs gb_Wq σ σ2 ∧ gb_k12 (f 1) (f 2) f2 := by
  obtain ⟨σ2, ra, ec, hc⟩ := ct_Face_term gb_NN0 (σ := σ) (p1 := a1) (p2 := a2) (p3 := a3) hC
  obtain ⟨f2, w2, qa, em, hm⟩ := mt_term gb_NN0 (f := f) (w := w) (p1 := a1) (p2 := a2) (p3 := a3) hM
  exact ⟨σ2, ra, f2, w2, qa, ec, em, hc.1 ▸ hC, hm.1, cf_Face_term gb_Wq_sc fs_rf _ _ ec, cm_term gb_k12_sm ⟨rfl, rfl⟩ _ _ _ em⟩
theorem qs_pays (a1 a2 : Int32) {σ : gb_S} {f : gb_F} (w : Int64) (hC : gb_TC σ) (hM : gb_TM f) : ∃ (σ2 : gb_S) (ra : Int32) (f2 : gb_F) (w2 : Int64) (qa : Int32), cs_Face_pays gb_N σ a1 a2 = some (σ2, ra) ∧ ms_pays gb_N f w a1 a2 = some (f2, w2, qa) ∧ gb_TC σ2 ∧ gb_TM f2 ∧ gb_fs gb_Wq σ σ2 ∧ gb_k12 (f 1) (f 2) f2 := by
  obtain ⟨σ2, ra, ec, hc⟩ := ct_Face_pays gb_NN0 (σ := σ) (p1 := a1) (p2 := a2) hC
  obtain ⟨f2, w2, qa, em, hm⟩ := mt_pays gb_NN0 (f := f) (w := w) (p1 := a1) (p2 := a2) hM
  exact ⟨σ2, ra, f2, w2, qa, ec, em, hc.1 ▸ hC, hm.1, cf_Face_pays gb_Wq_sc fs_rf _ _ ec, cm_pays gb_k12_sm ⟨rfl, rfl⟩ _ _ _ em⟩
theorem qs_even (a1 a2 : Int32) {σ : gb_S} {f : gb_F} (w : Int64) (hC : gb_TC σ) (hM : gb_TM f) : ∃ (σ2 : gb_S) (ra : Int32) (f2 : gb_F) (w2 : Int64) (qa : Int32), cs_Face_even gb_N σ a1 a2 = some (σ2, ra) ∧ ms_even gb_N f w a1 a2 = some (f2, w2, qa) ∧ gb_TC σ2 ∧ gb_TM f2 ∧ gb_fs gb_Wq σ σ2 ∧ gb_k12 (f 1) (f 2) f2 := by
  obtain ⟨σ2, ra, ec, hc⟩ := ct_Face_even gb_NN0 (σ := σ) (p1 := a1) (p2 := a2) hC
  obtain ⟨f2, w2, qa, em, hm⟩ := mt_even gb_NN0 (f := f) (w := w) (p1 := a1) (p2 := a2) hM
  exact ⟨σ2, ra, f2, w2, qa, ec, em, hc.1, hm.1, cf_Face_even gb_Wq_sc fs_rf _ _ ec, cm_even gb_k12_sm ⟨rfl, rfl⟩ _ _ _ em⟩
theorem qs_richest (a1 a2 a3 : Int32) {σ : gb_S} {f : gb_F} (w : Int64) (hC : gb_TC σ) (hM : gb_TM f) : ∃ (σ2 : gb_S) (ra : Int32) (f2 : gb_F) (w2 : Int64) (qa : Int32), cs_Face_richest gb_N σ a1 a2 a3 = some (σ2, ra) ∧ ms_richest gb_N f w a1 a2 a3 = some (f2, w2, qa) ∧ gb_TC σ2 ∧ gb_TM f2 ∧ gb_fs gb_Wq σ σ2 ∧ gb_k12 (f 1) (f 2) f2 := by
  obtain ⟨σ2, ra, ec, hc⟩ := ct_Face_richest gb_NN0 (σ := σ) (p1 := a1) (p2 := a2) (p3 := a3) hC
  obtain ⟨f2, w2, qa, em, hm⟩ := mt_richest gb_NN0 (f := f) (w := w) (p1 := a1) (p2 := a2) (p3 := a3) hM
  exact ⟨σ2, ra, f2, w2, qa, ec, em, hc.1, hm.1, cf_Face_richest gb_Wq_sc fs_rf _ _ ec, cm_richest gb_k12_sm ⟨rfl, rfl⟩ _ _ _ em⟩
theorem qs_tar (a1 a2 a3 : Int32) {σ : gb_S} {f : gb_F} (w : Int64) (hC : gb_TC σ) (hM : gb_TM f) : ∃ (σ2 : gb_S) (ra : Int32) (f2 : gb_F) (w2 : Int64) (qa : Int32), cs_Face_tar gb_N σ a1 a2 a3 = some (σ2, ra) ∧ ms_tar gb_N f w a1 a2 a3 = some (f2, w2, qa) ∧ gb_TC σ2 ∧ gb_TM f2 ∧ gb_fs gb_Wq σ σ2 ∧ gb_k12 (f 1) (f 2) f2 := by
  obtain ⟨σ2, ra, ec, hc⟩ := ct_Face_tar gb_NN0 (σ := σ) (p1 := a1) (p2 := a2) (p3 := a3) hC
  obtain ⟨f2, w2, qa, em, hm⟩ := mt_tar gb_NN0 (f := f) (w := w) (p1 := a1) (p2 := a2) (p3 := a3) hM
  exact ⟨σ2, ra, f2, w2, qa, ec, em, hc.1 ▸ hC, hm.1, cf_Face_tar gb_Wq_sc fs_rf _ _ ec, cm_tar gb_k12_sm ⟨rfl, rfl⟩ _ _ _ em⟩
theorem qs_lame (a1 a2 a3 : Int32) {σ : gb_S} {f : gb_F} (w : Int64) (hC : gb_TC σ) (hM : gb_TM f) : ∃ (σ2 : gb_S) (ra : Int32) (f2 : gb_F) (w2 : Int64) (qa : Int32), cs_Face_lame gb_N σ a1 a2 a3 = some (σ2, ra) ∧ ms_lame gb_N f w a1 a2 a3 = some (f2, w2, qa) ∧ gb_TC σ2 ∧ gb_TM f2 ∧ gb_fs gb_Wq σ σ2 ∧ gb_k12 (f 1) (f 2) f2 := by
  obtain ⟨σ2, ra, ec, hc⟩ := ct_Face_lame gb_NN0 (σ := σ) (p1 := a1) (p2 := a2) (p3 := a3) hC
  obtain ⟨f2, w2, qa, em, hm⟩ := mt_lame gb_NN0 (f := f) (w := w) (p1 := a1) (p2 := a2) (p3 := a3) hM
  exact ⟨σ2, ra, f2, w2, qa, ec, em, hc.1 ▸ hC, hm.1, cf_Face_lame gb_Wq_sc fs_rf _ _ ec, cm_lame gb_k12_sm ⟨rfl, rfl⟩ _ _ _ em⟩
theorem qs_rest (a1 a2 a3 : Int32) {σ : gb_S} {f : gb_F} (w : Int64) (hC : gb_TC σ) (hM : gb_TM f) : ∃ (σ2 : gb_S) (ra : Int32) (f2 : gb_F) (w2 : Int64) (qa : Int32), cs_Face_rest gb_N σ a1 a2 a3 = some (σ2, ra) ∧ ms_rest gb_N f w a1 a2 a3 = some (f2, w2, qa) ∧ gb_TC σ2 ∧ gb_TM f2 ∧ gb_fs gb_Wq σ σ2 ∧ gb_k12 (f 1) (f 2) f2 := by
  obtain ⟨σ2, ra, ec, hc⟩ := ct_Face_rest gb_NN0 (σ := σ) (p1 := a1) (p2 := a2) (p3 := a3) hC
  obtain ⟨f2, w2, qa, em, hm⟩ := mt_rest gb_NN0 (f := f) (w := w) (p1 := a1) (p2 := a2) (p3 := a3) hM
  exact ⟨σ2, ra, f2, w2, qa, ec, em, hc.1, hm.1, cf_Face_rest gb_Wq_sc fs_rf _ _ ec, cm_rest gb_k12_sm ⟨rfl, rfl⟩ _ _ _ em⟩
theorem qs_take (a1 a2 a3 a4 : Int32) {σ : gb_S} {f : gb_F} (w : Int64) (hC : gb_TC σ) (hM : gb_TM f) : ∃ (σ2 : gb_S) (ra : Int32) (f2 : gb_F) (w2 : Int64) (qa : Int32), cs_Face_take gb_N σ a1 a2 a3 a4 = some (σ2, ra) ∧ ms_take gb_N f w a1 a2 a3 a4 = some (f2, w2, qa) ∧ gb_TC σ2 ∧ gb_TM f2 ∧ gb_fs gb_Wq σ σ2 ∧ gb_k12 (f 1) (f 2) f2 := by
  obtain ⟨σ2, ra, ec, hc⟩ := ct_Face_take gb_NN0 (σ := σ) (p1 := a1) (p2 := a2) (p3 := a3) (p4 := a4) hC
  obtain ⟨f2, w2, qa, em, hm⟩ := mt_take gb_NN0 (f := f) (w := w) (p1 := a1) (p2 := a2) (p3 := a3) (p4 := a4) hM
  exact ⟨σ2, ra, f2, w2, qa, ec, em, hc.1, hm.1, cf_Face_take gb_Wq_sc fs_rf _ _ ec, cm_take gb_k12_sm ⟨rfl, rfl⟩ _ _ _ em⟩
theorem qs_seen (a1 a2 a3 : Int32) {σ : gb_S} {f : gb_F} (w : Int64) (hC : gb_TC σ) (hM : gb_TM f) : ∃ (σ2 : gb_S) (ra : Int32) (f2 : gb_F) (w2 : Int64) (qa : Int32), cs_Face_seen gb_N σ a1 a2 a3 = some (σ2, ra) ∧ ms_seen gb_N f w a1 a2 a3 = some (f2, w2, qa) ∧ gb_TC σ2 ∧ gb_TM f2 ∧ gb_fs gb_Wq σ σ2 ∧ gb_k12 (f 1) (f 2) f2 := by
  obtain ⟨σ2, ra, ec, hc⟩ := ct_Face_seen gb_NN0 (σ := σ) (p1 := a1) (p2 := a2) (p3 := a3) hC
  obtain ⟨f2, w2, qa, em, hm⟩ := mt_seen gb_NN0 (f := f) (w := w) (p1 := a1) (p2 := a2) (p3 := a3) hM
  exact ⟨σ2, ra, f2, w2, qa, ec, em, hc.1 ▸ hC, hm.1, cf_Face_seen gb_Wq_sc fs_rf _ _ ec, cm_seen gb_k12_sm ⟨rfl, rfl⟩ _ _ _ em⟩
theorem qs_fits (a1 a2 : Int32) {σ : gb_S} {f : gb_F} (w : Int64) (hC : gb_TC σ) (hM : gb_TM f) : ∃ (σ2 : gb_S) (ra : Int64) (f2 : gb_F) (w2 : Int64) (qa : Int64), cs_Face_fits gb_N σ a1 a2 = some (σ2, ra) ∧ ms_fits gb_N f w a1 a2 = some (f2, w2, qa) ∧ gb_TC σ2 ∧ gb_TM f2 ∧ gb_fs gb_Wq σ σ2 ∧ gb_k12 (f 1) (f 2) f2 := by
  obtain ⟨σ2, ra, ec, hc⟩ := ct_Face_fits gb_NN0 (σ := σ) (p1 := a1) (p2 := a2) hC
  obtain ⟨f2, w2, qa, em, hm⟩ := mt_fits gb_NN0 (f := f) (w := w) (p1 := a1) (p2 := a2) hM
  exact ⟨σ2, ra, f2, w2, qa, ec, em, hc.1, hm, cf_Face_fits gb_Wq_sc fs_rf _ _ ec, cm_fits gb_k12_sm ⟨rfl, rfl⟩ _ _ _ em⟩
theorem qs_told (a1 a2 a3 : Int32) {σ : gb_S} {f : gb_F} (w : Int64) (hC : gb_TC σ) (hM : gb_TM f) : ∃ (σ2 : gb_S) (ra : Int32) (f2 : gb_F) (w2 : Int64) (qa : Int32), cs_Face_told gb_N σ a1 a2 a3 = some (σ2, ra) ∧ ms_told gb_N f w a1 a2 a3 = some (f2, w2, qa) ∧ gb_TC σ2 ∧ gb_TM f2 ∧ gb_fs gb_Wq σ σ2 ∧ gb_k12 (f 1) (f 2) f2 := by
  obtain ⟨σ2, ra, ec, hc⟩ := ct_Face_told gb_NN0 (σ := σ) (p1 := a1) (p2 := a2) (p3 := a3) hC
  obtain ⟨f2, w2, qa, em, hm⟩ := mt_told gb_NN0 (f := f) (w := w) (p1 := a1) (p2 := a2) (p3 := a3) hM
  exact ⟨σ2, ra, f2, w2, qa, ec, em, hc.1, hm, cf_Face_told gb_Wq_sc fs_rf _ _ ec, cm_told gb_k12_sm ⟨rfl, rfl⟩ _ _ _ em⟩
theorem qs_lacks (a1 a2 a3 : Int32) {σ : gb_S} {f : gb_F} (w : Int64) (hC : gb_TC σ) (hM : gb_TM f) : ∃ (σ2 : gb_S) (ra : Int32) (f2 : gb_F) (w2 : Int64) (qa : Int32), cs_Face_lacks gb_N σ a1 a2 a3 = some (σ2, ra) ∧ ms_lacks gb_N f w a1 a2 a3 = some (f2, w2, qa) ∧ gb_TC σ2 ∧ gb_TM f2 ∧ gb_fs gb_Wq σ σ2 ∧ gb_k12 (f 1) (f 2) f2 := by
  obtain ⟨σ2, ra, ec, hc⟩ := ct_Face_lacks gb_NN0 (σ := σ) (p1 := a1) (p2 := a2) (p3 := a3) hC
  obtain ⟨f2, w2, qa, em, hm⟩ := mt_lacks gb_NN0 (f := f) (w := w) (p1 := a1) (p2 := a2) (p3 := a3) hM
  exact ⟨σ2, ra, f2, w2, qa, ec, em, hc.1, hm.1, cf_Face_lacks gb_Wq_sc fs_rf _ _ ec, cm_lacks gb_k12_sm ⟨rfl, rfl⟩ _ _ _ em⟩
theorem qs_who (a1 a2 a3 a4 : Int32) {σ : gb_S} {f : gb_F} (w : Int64) (hC : gb_TC σ) (hM : gb_TM f) : ∃ (σ2 : gb_S) (ra : Int32) (f2 : gb_F) (w2 : Int64) (qa : Int32), cs_Face_who gb_N σ a1 a2 a3 a4 = some (σ2, ra) ∧ ms_who gb_N f w a1 a2 a3 a4 = some (f2, w2, qa) ∧ gb_TC σ2 ∧ gb_TM f2 ∧ gb_fs gb_Wq σ σ2 ∧ gb_k12 (f 1) (f 2) f2 := by
  obtain ⟨σ2, ra, ec, hc⟩ := ct_Face_who gb_NN0 (σ := σ) (p1 := a1) (p2 := a2) (p3 := a3) (p4 := a4) hC
  obtain ⟨f2, w2, qa, em, hm⟩ := mt_who gb_NN0 (f := f) (w := w) (p1 := a1) (p2 := a2) (p3 := a3) (p4 := a4) hM
  exact ⟨σ2, ra, f2, w2, qa, ec, em, hc.1, hm.1, cf_Face_who gb_Wq_sc fs_rf _ _ ec, cm_who gb_k12_sm ⟨rfl, rfl⟩ _ _ _ em⟩
theorem qs_drawn (a1 a2 a3 a4 : Int32) {σ : gb_S} {f : gb_F} (w : Int64) (hC : gb_TC σ) (hM : gb_TM f) : ∃ (σ2 : gb_S) (ra : Int32) (f2 : gb_F) (w2 : Int64) (qa : Int32), cs_Face_drawn gb_N σ a1 a2 a3 a4 = some (σ2, ra) ∧ ms_drawn gb_N f w a1 a2 a3 a4 = some (f2, w2, qa) ∧ gb_TC σ2 ∧ gb_TM f2 ∧ gb_fs gb_Wq σ σ2 ∧ gb_k12 (f 1) (f 2) f2 := by
  obtain ⟨σ2, ra, ec, hc⟩ := ct_Face_drawn gb_NN0 (σ := σ) (p1 := a1) (p2 := a2) (p3 := a3) (p4 := a4) hC
  obtain ⟨f2, w2, qa, em, hm⟩ := mt_drawn gb_NN0 (f := f) (w := w) (p1 := a1) (p2 := a2) (p3 := a3) (p4 := a4) hM
  exact ⟨σ2, ra, f2, w2, qa, ec, em, hc.1, hm.1, cf_Face_drawn gb_Wq_sc (Or.inl rfl) fs_rf _ _ ec, cm_drawn gb_k12_sm ⟨rfl, rfl⟩ _ _ _ em⟩
theorem qs_alike (a1 a2 a3 : Int32) {σ : gb_S} {f : gb_F} (w : Int64) (hC : gb_TC σ) (hM : gb_TM f) : ∃ (σ2 : gb_S) (ra : Int32) (f2 : gb_F) (w2 : Int64) (qa : Int32), cs_Face_alike gb_N σ a1 a2 a3 = some (σ2, ra) ∧ ms_alike gb_N f w a1 a2 a3 = some (f2, w2, qa) ∧ gb_TC σ2 ∧ gb_TM f2 ∧ gb_fs gb_Wq σ σ2 ∧ gb_k12 (f 1) (f 2) f2 := by
  obtain ⟨σ2, ra, ec, hc⟩ := ct_Face_alike gb_NN0 (σ := σ) (p1 := a1) (p2 := a2) (p3 := a3) hC
  obtain ⟨f2, w2, qa, em, hm⟩ := mt_alike gb_NN0 (f := f) (w := w) (p1 := a1) (p2 := a2) (p3 := a3) hM
  exact ⟨σ2, ra, f2, w2, qa, ec, em, hc.1 ▸ hC, hm.1, cf_Face_alike gb_Wq_sc fs_rf _ _ ec, cm_alike gb_k12_sm ⟨rfl, rfl⟩ _ _ _ em⟩
theorem qs_span (a1 a2 a3 a4 : Int32) {σ : gb_S} {f : gb_F} (w : Int64) (hC : gb_TC σ) (hM : gb_TM f) : ∃ (σ2 : gb_S) (ra : Int32) (f2 : gb_F) (w2 : Int64) (qa : Int32), cs_Face_span gb_N σ a1 a2 a3 a4 = some (σ2, ra) ∧ ms_span gb_N f w a1 a2 a3 a4 = some (f2, w2, qa) ∧ gb_TC σ2 ∧ gb_TM f2 ∧ gb_fs gb_Wq σ σ2 ∧ gb_k12 (f 1) (f 2) f2 := by
  obtain ⟨σ2, ra, ec, hc⟩ := ct_Face_span gb_NN0 (σ := σ) (p1 := a1) (p2 := a2) (p3 := a3) (p4 := a4) hC
  obtain ⟨f2, w2, qa, em, hm⟩ := mt_span gb_NN0 (f := f) (w := w) (p1 := a1) (p2 := a2) (p3 := a3) (p4 := a4) hM
  exact ⟨σ2, ra, f2, w2, qa, ec, em, hc.1, hm.1, cf_Face_span gb_Wq_sc fs_rf _ _ ec, cm_span gb_k12_sm ⟨rfl, rfl⟩ _ _ _ em⟩
theorem qs_honest (a1 a2 a3 : Int32) {σ : gb_S} {f : gb_F} (w : Int64) (hC : gb_TC σ) (hM : gb_TM f) : ∃ (σ2 : gb_S) (ra : Int32) (f2 : gb_F) (w2 : Int64) (qa : Int32), cs_Face_honest gb_N σ a1 a2 a3 = some (σ2, ra) ∧ ms_honest gb_N f w a1 a2 a3 = some (f2, w2, qa) ∧ gb_TC σ2 ∧ gb_TM f2 ∧ gb_fs gb_Wq σ σ2 ∧ gb_k12 (f 1) (f 2) f2 := by
  obtain ⟨σ2, ra, ec, hc⟩ := ct_Face_honest gb_NN0 (σ := σ) (p1 := a1) (p2 := a2) (p3 := a3) hC
  obtain ⟨f2, w2, qa, em, hm⟩ := mt_honest gb_NN0 (f := f) (w := w) (p1 := a1) (p2 := a2) (p3 := a3) hM
  exact ⟨σ2, ra, f2, w2, qa, ec, em, hc.1, hm.1, cf_Face_honest gb_Wq_sc fs_rf _ _ ec, cm_honest gb_k12_sm ⟨rfl, rfl⟩ _ _ _ em⟩
theorem qs_split (a1 a2 a3 a4 : Int32) {σ : gb_S} {f : gb_F} (w : Int64) (hC : gb_TC σ) (hM : gb_TM f) : ∃ (σ2 : gb_S) (ra : Int32) (f2 : gb_F) (w2 : Int64) (qa : Int32), cs_Face_split gb_N σ a1 a2 a3 a4 = some (σ2, ra) ∧ ms_split gb_N f w a1 a2 a3 a4 = some (f2, w2, qa) ∧ gb_TC σ2 ∧ gb_TM f2 ∧ gb_fs gb_Wq σ σ2 ∧ gb_k12 (f 1) (f 2) f2 := by
  obtain ⟨σ2, ra, ec, hc⟩ := ct_Face_split gb_NN0 (σ := σ) (p1 := a1) (p2 := a2) (p3 := a3) (p4 := a4) hC
  obtain ⟨f2, w2, qa, em, hm⟩ := mt_split gb_NN0 (f := f) (w := w) (p1 := a1) (p2 := a2) (p3 := a3) (p4 := a4) hM
  exact ⟨σ2, ra, f2, w2, qa, ec, em, hc.1, hm.1, cf_Face_split gb_Wq_sc fs_rf _ _ ec, cm_split gb_k12_sm ⟨rfl, rfl⟩ _ _ _ em⟩
theorem qs_two (a1 a2 a3 a4 : Int32) {σ : gb_S} {f : gb_F} (w : Int64) (hC : gb_TC σ) (hM : gb_TM f) : ∃ (σ2 : gb_S) (ra : Int32) (f2 : gb_F) (w2 : Int64) (qa : Int32), cs_Face_two gb_N σ a1 a2 a3 a4 = some (σ2, ra) ∧ ms_two gb_N f w a1 a2 a3 a4 = some (f2, w2, qa) ∧ gb_TC σ2 ∧ gb_TM f2 ∧ gb_fs gb_Wq σ σ2 ∧ gb_k12 (f 1) (f 2) f2 := by
  obtain ⟨σ2, ra, ec, hc⟩ := ct_Face_two gb_NN0 (σ := σ) (p1 := a1) (p2 := a2) (p3 := a3) (p4 := a4) hC
  obtain ⟨f2, w2, qa, em, hm⟩ := mt_two gb_NN0 (f := f) (w := w) (p1 := a1) (p2 := a2) (p3 := a3) (p4 := a4) hM
  exact ⟨σ2, ra, f2, w2, qa, ec, em, hc.1 ▸ hC, hm, cf_Face_two gb_Wq_sc fs_rf _ _ ec, cm_two gb_k12_sm ⟨rfl, rfl⟩ _ _ _ em⟩
theorem qs_backs (a1 a2 a3 a4 : Int32) {σ : gb_S} {f : gb_F} (w : Int64) (hC : gb_TC σ) (hM : gb_TM f) : ∃ (σ2 : gb_S) (ra : Int32) (f2 : gb_F) (w2 : Int64) (qa : Int32), cs_Face_backs gb_N σ a1 a2 a3 a4 = some (σ2, ra) ∧ ms_backs gb_N f w a1 a2 a3 a4 = some (f2, w2, qa) ∧ gb_TC σ2 ∧ gb_TM f2 ∧ gb_fs gb_Wq σ σ2 ∧ gb_k12 (f 1) (f 2) f2 := by
  obtain ⟨σ2, ra, ec, hc⟩ := ct_Face_backs gb_NN0 (σ := σ) (p1 := a1) (p2 := a2) (p3 := a3) (p4 := a4) hC
  obtain ⟨f2, w2, qa, em, hm⟩ := mt_backs gb_NN0 (f := f) (w := w) (p1 := a1) (p2 := a2) (p3 := a3) (p4 := a4) hM
  exact ⟨σ2, ra, f2, w2, qa, ec, em, hc.1, hm.1, cf_Face_backs gb_Wq_sc fs_rf _ _ ec, cm_backs gb_k12_sm ⟨rfl, rfl⟩ _ _ _ em⟩
theorem qs_close (a1 a2 : Int32) {σ : gb_S} {f : gb_F} (w : Int64) (hC : gb_TC σ) (hM : gb_TM f) : ∃ (σ2 : gb_S) (ra : Int32) (f2 : gb_F) (w2 : Int64) (qa : Int32), cs_Face_close gb_N σ a1 a2 = some (σ2, ra) ∧ ms_close gb_N f w a1 a2 = some (f2, w2, qa) ∧ gb_TC σ2 ∧ gb_TM f2 ∧ gb_fs gb_Wq σ σ2 ∧ gb_k12 (f 1) (f 2) f2 := by
  obtain ⟨σ2, ra, ec, hc⟩ := ct_Face_close gb_NN0 (σ := σ) (p1 := a1) (p2 := a2) hC
  obtain ⟨f2, w2, qa, em, hm⟩ := mt_close gb_NN0 (f := f) (w := w) (p1 := a1) (p2 := a2) hM
  exact ⟨σ2, ra, f2, w2, qa, ec, em, hc.1, hm.1, cf_Face_close gb_Wq_sc fs_rf _ _ ec, cm_close gb_k12_sm ⟨rfl, rfl⟩ _ _ _ em⟩
theorem qs_near (a1 a2 a3 : Int32) {σ : gb_S} {f : gb_F} (w : Int64) (hC : gb_TC σ) (hM : gb_TM f) : ∃ (σ2 : gb_S) (ra : Int32) (f2 : gb_F) (w2 : Int64) (qa : Int32), cs_Face_near gb_N σ a1 a2 a3 = some (σ2, ra) ∧ ms_near gb_N f w a1 a2 a3 = some (f2, w2, qa) ∧ gb_TC σ2 ∧ gb_TM f2 ∧ gb_fs gb_Wq σ σ2 ∧ gb_k12 (f 1) (f 2) f2 := by
  obtain ⟨σ2, ra, ec, hc⟩ := ct_Face_near gb_NN0 (σ := σ) (p1 := a1) (p2 := a2) (p3 := a3) hC
  obtain ⟨f2, w2, qa, em, hm⟩ := mt_near gb_NN0 (f := f) (w := w) (p1 := a1) (p2 := a2) (p3 := a3) hM
  exact ⟨σ2, ra, f2, w2, qa, ec, em, hc.1, hm.1, cf_Face_near gb_Wq_sc fs_rf _ _ ec, cm_near gb_k12_sm ⟨rfl, rfl⟩ _ _ _ em⟩
theorem qs_shift (a1 a2 a3 : Int32) {σ : gb_S} {f : gb_F} (w : Int64) (hC : gb_TC σ) (hM : gb_TM f) : ∃ (σ2 : gb_S) (ra : Int32) (f2 : gb_F) (w2 : Int64) (qa : Int32), cs_Face_shift gb_N σ a1 a2 a3 = some (σ2, ra) ∧ ms_shift gb_N f w a1 a2 a3 = some (f2, w2, qa) ∧ gb_TC σ2 ∧ gb_TM f2 ∧ gb_fs gb_Wq σ σ2 ∧ gb_k12 (f 1) (f 2) f2 := by
  obtain ⟨σ2, ra, ec, hc⟩ := ct_Face_shift gb_NN0 (σ := σ) (p1 := a1) (p2 := a2) (p3 := a3) hC
  obtain ⟨f2, w2, qa, em, hm⟩ := mt_shift gb_NN0 (f := f) (w := w) (p1 := a1) (p2 := a2) (p3 := a3) hM
  exact ⟨σ2, ra, f2, w2, qa, ec, em, hc.1, hm, cf_Face_shift gb_Wq_sc fs_rf _ _ ec, mh_shift gb_NN0 hM _ _ _ em⟩
theorem qs_thrift (a1 : Int32) {σ : gb_S} {f : gb_F} (w : Int64) (hC : gb_TC σ) (hM : gb_TM f) : ∃ (σ2 : gb_S) (ra : Int32) (f2 : gb_F) (w2 : Int64) (qa : Int32), cs_Face_thrift gb_N σ a1 = some (σ2, ra) ∧ ms_thrift gb_N f w a1 = some (f2, w2, qa) ∧ gb_TC σ2 ∧ gb_TM f2 ∧ gb_fs gb_Wq σ σ2 ∧ gb_k12 (f 1) (f 2) f2 := by
  obtain ⟨σ2, ra, ec, hc⟩ := ct_Face_thrift gb_NN0 (σ := σ) (p1 := a1) hC
  obtain ⟨f2, w2, qa, em, hm⟩ := mt_thrift gb_NN0 (f := f) (w := w) (p1 := a1) hM
  exact ⟨σ2, ra, f2, w2, qa, ec, em, hc.1, hm.1, cf_Face_thrift gb_Wq_sc fs_rf _ _ ec, cm_thrift gb_k12_sm ⟨rfl, rfl⟩ _ _ _ em⟩
theorem qs_count (a1 : Int32) {σ : gb_S} {f : gb_F} (w : Int64) (hC : gb_TC σ) (hM : gb_TM f) : ∃ (σ2 : gb_S) (ra : Int32) (f2 : gb_F) (w2 : Int64) (qa : Int32), cs_Face_count gb_N σ a1 = some (σ2, ra) ∧ ms_count gb_N f w a1 = some (f2, w2, qa) ∧ gb_TC σ2 ∧ gb_TM f2 ∧ gb_fs gb_Wq σ σ2 ∧ gb_k12 (f 1) (f 2) f2 := by
  obtain ⟨σ2, ra, ec, hc⟩ := ct_Face_count gb_NN0 (σ := σ) (p1 := a1) hC
  obtain ⟨f2, w2, qa, em, hm⟩ := mt_count gb_NN0 (f := f) (w := w) (p1 := a1) hM
  exact ⟨σ2, ra, f2, w2, qa, ec, em, hc.1 ▸ hC, hm.1 ▸ hM, cf_Face_count gb_Wq_sc fs_rf _ _ ec, cm_count gb_k12_sm ⟨rfl, rfl⟩ _ _ _ em⟩
theorem qs_image (a1 : Int32) {σ : gb_S} {f : gb_F} (w : Int64) (hC : gb_TC σ) (hM : gb_TM f) : ∃ (σ2 : gb_S) (ra : Int32) (f2 : gb_F) (w2 : Int64) (qa : Int32), cs_Face_image gb_N σ a1 = some (σ2, ra) ∧ ms_image gb_N f w a1 = some (f2, w2, qa) ∧ gb_TC σ2 ∧ gb_TM f2 := by
  obtain ⟨σ2, ra, ec, hc⟩ := ct_Face_image gb_NN0 (σ := σ) (p1 := a1) hC
  obtain ⟨f2, w2, qa, em, hm⟩ := mt_image gb_NN0 (f := f) (w := w) (p1 := a1) hM
  exact ⟨σ2, ra, f2, w2, qa, ec, em, hc.1, hm.1⟩
theorem qs_again (a1 : Int32) {σ : gb_S} {f : gb_F} (w : Int64) (hC : gb_TC σ) (hM : gb_TM f) : ∃ (σ2 : gb_S) (ra : Int32) (f2 : gb_F) (w2 : Int64) (qa : Int32), cs_Face_again gb_N σ a1 = some (σ2, ra) ∧ ms_again gb_N f w a1 = some (f2, w2, qa) ∧ gb_TC σ2 ∧ gb_TM f2 := by
  obtain ⟨σ2, ra, ec, hc⟩ := ct_Face_again gb_NN0 (σ := σ) (p1 := a1) hC
  obtain ⟨f2, w2, qa, em, hm⟩ := mt_again gb_NN0 (f := f) (w := w) (p1 := a1) hM
  exact ⟨σ2, ra, f2, w2, qa, ec, em, hc, hm⟩
