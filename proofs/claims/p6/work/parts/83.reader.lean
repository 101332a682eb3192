/-! THE CLASS: the Reader (written by wip/tot) -/
set_option maxHeartbeats 4000000 in
theorem cr_Reader_note {n : Nat} (hn : gb_N ≤ n) {σ : gb_S} {p1 : Int32} {p2 : Int32} (hT : gb_TR σ) : gb_tc (cs_Reader_note n σ p1 p2) (fun s _ => gb_TR s ∧ True) := by
  unfold cs_Reader_note
  refine gc_if (fun c_4 => ?_) (fun c_4 => ?_)
  · have j_5 : gb_iv (-2147483648) 0 (σ.1 106 4) := (gb_rU (lo := (-2147483648)) (hi := 0) (gb_deq c_4) (gb_it _) (gb_ic (a := 0) (by decide)) (by decide))
    have j_6 : gb_iv 0 0 (σ.1 106 4) := (gb_rL (lo := 0) (hi := 0) (gb_deq2 c_4) j_5 (gb_ic (a := 0) (by decide)) (by decide))
    refine gr_ltT (gr_su (c := 12) (lo := (-2147483648)) (hi := 2147483647) hT (rfl : gc_cat 106 = 12) (gb_it _) (by decide)) (fun s_2 es_2 hTs_2 => ?_)
    refine gr_ltT (gr_su (c := 12) (lo := (-2147483648)) (hi := 2147483647) hTs_2 (rfl : gc_cat 106 = 12) (gb_it _) (by decide)) (fun s_3 es_3 hTs_3 => ?_)
    exact gc_some ⟨hTs_3, trivial⟩
  · exact gc_some ⟨hT, trivial⟩
set_option maxHeartbeats 4000000 in
theorem cr_Border_hasRoomFor_B {n : Nat} (hn : gb_N ≤ n) {σ : gb_S} {k0 : Nat} {p1 : Int32} (hT : gb_TR σ) (hk0 : gb_kB k0 = true) : gb_tc (cs_Border_hasRoomFor_B n σ k0 p1) (fun s r => s = σ ∧ gb_iv 0 1 r) := by
  unfold cs_Border_hasRoomFor_B
  refine gc_kk hk0 ?_
  refine gc_if (fun c_21 => ?_) (fun c_21 => ?_)
  · have j_22 : gb_iv (-2147483648) 2 p1 := (gb_rU (lo := (-2147483648)) (hi := 2) (gb_deq c_21) (gb_it _) (gb_ic (a := 2) (by decide)) (by decide))
    have j_23 : gb_iv 2 2 p1 := (gb_rL (lo := 2) (hi := 2) (gb_deq2 c_21) j_22 (gb_ic (a := 2) (by decide)) (by decide))
    exact gc_some ⟨rfl, (gb_iw (lo := 0) (hi := 1) (gb_ic (a := 1) (by decide)) (by decide))⟩
  · refine gc_if (fun c_24 => ?_) (fun c_24 => ?_)
    · have j_25 : gb_iv (-2147483648) 0 p1 := (gb_rU (lo := (-2147483648)) (hi := 0) (gb_deq c_24) (gb_it _) (gb_ic (a := 0) (by decide)) (by decide))
      have j_26 : gb_iv 0 0 p1 := (gb_rL (lo := 0) (hi := 0) (gb_deq2 c_24) j_25 (gb_ic (a := 0) (by decide)) (by decide))
      refine gc_cdP (ct_Border_paths_B hn hT.1 hk0) (fun r_10 qr_10 h_27 => ?_)
      refine gc_if (fun c_28 => ?_) (fun c_28 => ?_)
      · have j_29 : gb_iv 5 5 r_10 := (gb_rL (lo := 5) (hi := 5) (gb_dle c_28) h_27 (gb_ic (a := 5) (by decide)) (by decide))
        exact gc_some ⟨rfl, (gb_iw (lo := 0) (hi := 1) (gb_ic (a := 0) (by decide)) (by decide))⟩
      · have j_30 : gb_iv 0 4 r_10 := (gb_rU (lo := 0) (hi := 4) (gb_dnle c_28) h_27 (gb_ic (a := 5) (by decide)) (by decide))
        exact gc_some ⟨rfl, (gb_iw (lo := 0) (hi := 1) (gb_ic (a := 1) (by decide)) (by decide))⟩
    · refine gc_cdP (ct_Border_geese_B hn hT.1 hk0) (fun r_5 qr_5 h_31 => ?_)
      refine gc_if (fun c_32 => ?_) (fun c_32 => ?_)
      · have j_33 : gb_iv 8 8 r_5 := (gb_rL (lo := 8) (hi := 8) (gb_dle c_32) h_31 (gb_ic (a := 8) (by decide)) (by decide))
        exact gc_some ⟨rfl, (gb_iw (lo := 0) (hi := 1) (gb_ic (a := 0) (by decide)) (by decide))⟩
      · have j_34 : gb_iv 0 7 r_5 := (gb_rU (lo := 0) (hi := 7) (gb_dnle c_32) h_31 (gb_ic (a := 8) (by decide)) (by decide))
        exact gc_some ⟨rfl, (gb_iw (lo := 0) (hi := 1) (gb_ic (a := 1) (by decide)) (by decide))⟩
set_option maxHeartbeats 4000000 in
theorem cr_Lines_hasRoomFor_N {n : Nat} (hn : gb_N ≤ n) {σ : gb_S} {k0 : Nat} {p1 : Int32} (hT : gb_TR σ) (hk0 : gb_kN k0 = true) : gb_tc (cs_Lines_hasRoomFor_N n σ k0 p1) (fun s r => s = σ ∧ gb_iv 0 1 r) := by
  unfold cs_Lines_hasRoomFor_N
  refine gc_kk hk0 ?_
  refine gc_cdP (ct_Lines_size_N hn hT.1 hk0) (fun r_3 qr_3 h_39 => ?_)
  refine gc_if (fun c_40 => ?_) (fun c_40 => ?_)
  · have j_41 : gb_iv 24 24 r_3 := (gb_rL (lo := 24) (hi := 24) (gb_dle c_40) h_39 (gb_ic (a := 24) (by decide)) (by decide))
    exact gc_some ⟨rfl, (gb_iw (lo := 0) (hi := 1) (gb_ic (a := 0) (by decide)) (by decide))⟩
  · have j_42 : gb_iv 0 23 r_3 := (gb_rU (lo := 0) (hi := 23) (gb_dnle c_40) h_39 (gb_ic (a := 24) (by decide)) (by decide))
    exact gc_some ⟨rfl, (gb_iw (lo := 0) (hi := 1) (gb_ic (a := 1) (by decide)) (by decide))⟩
set_option maxHeartbeats 4000000 in
theorem cr_Lines_hasRoomFor_L {n : Nat} (hn : gb_N ≤ n) {σ : gb_S} {k0 : Nat} {p1 : Int32} (hT : gb_TR σ) (hk0 : gb_kL k0 = true) : gb_tc (cs_Lines_hasRoomFor_L n σ k0 p1) (fun s r => s = σ ∧ gb_iv 0 1 r) := by
  unfold cs_Lines_hasRoomFor_L
  refine gc_kk hk0 ?_
  refine gc_cdP (ct_Lines_size_L hn hT.1 hk0) (fun r_3 qr_3 h_47 => ?_)
  refine gc_if (fun c_48 => ?_) (fun c_48 => ?_)
  · have j_49 : gb_iv 8 8 r_3 := (gb_rL (lo := 8) (hi := 8) (gb_dle c_48) h_47 (gb_ic (a := 8) (by decide)) (by decide))
    exact gc_some ⟨rfl, (gb_iw (lo := 0) (hi := 1) (gb_ic (a := 0) (by decide)) (by decide))⟩
  · have j_50 : gb_iv 0 7 r_3 := (gb_rU (lo := 0) (hi := 7) (gb_dnle c_48) h_47 (gb_ic (a := 8) (by decide)) (by decide))
    exact gc_some ⟨rfl, (gb_iw (lo := 0) (hi := 1) (gb_ic (a := 1) (by decide)) (by decide))⟩
set_option maxHeartbeats 4000000 in
theorem cr_Lines_hasRoomFor_D {n : Nat} (hn : gb_N ≤ n) {σ : gb_S} {k0 : Nat} {p1 : Int32} (hT : gb_TR σ) (hk0 : gb_kD k0 = true) : gb_tc (cs_Lines_hasRoomFor_D n σ k0 p1) (fun s r => s = σ ∧ gb_iv 0 1 r) := by
  unfold cs_Lines_hasRoomFor_D
  refine gc_kk hk0 ?_
  refine gc_cdP (ct_Lines_size_D hn hT.1 hk0) (fun r_3 qr_3 h_55 => ?_)
  refine gc_if (fun c_56 => ?_) (fun c_56 => ?_)
  · have j_57 : gb_iv 5 5 r_3 := (gb_rL (lo := 5) (hi := 5) (gb_dle c_56) h_55 (gb_ic (a := 5) (by decide)) (by decide))
    exact gc_some ⟨rfl, (gb_iw (lo := 0) (hi := 1) (gb_ic (a := 0) (by decide)) (by decide))⟩
  · have j_58 : gb_iv 0 4 r_3 := (gb_rU (lo := 0) (hi := 4) (gb_dnle c_56) h_55 (gb_ic (a := 5) (by decide)) (by decide))
    exact gc_some ⟨rfl, (gb_iw (lo := 0) (hi := 1) (gb_ic (a := 1) (by decide)) (by decide))⟩
set_option maxHeartbeats 4000000 in
theorem cr_Border_clear_B {n : Nat} (hn : gb_N ≤ n) {σ : gb_S} {k0 : Nat} (hT : gb_TR σ) (hk0 : gb_kB k0 = true) : gb_tc (cs_Border_clear_B n σ k0) (fun s _ => gb_TR s ∧ True) := by
  unfold cs_Border_clear_B
  refine gc_kk hk0 ?_
  refine gr_ltT (gr_su (c := 1) (lo := 0) (hi := 5) hT (gc_catB hk0) (gb_iw (lo := 0) (hi := 5) (gb_ic (a := 0) (by decide)) (by decide)) (by decide)) (fun s_2 es_2 hTs_2 => ?_)
  refine gr_ltT (gr_su (c := 1) (lo := 0) (hi := 8) hTs_2 (gc_catB hk0) (gb_iw (lo := 0) (hi := 8) (gb_ic (a := 0) (by decide)) (by decide)) (by decide)) (fun s_3 es_3 hTs_3 => ?_)
  refine gr_ltT (gr_su (c := 1) (lo := (-2147483648)) (hi := 2147483647) hTs_3 (gc_catB hk0) (gb_iw (lo := (-2147483648)) (hi := 2147483647) (gb_ic (a := (-1)) (by decide)) (by decide)) (by decide)) (fun s_4 es_4 hTs_4 => ?_)
  exact gc_some ⟨hTs_4, trivial⟩
set_option maxHeartbeats 4000000 in
theorem cr_Lines_clear_N {n : Nat} (hn : gb_N ≤ n) {σ : gb_S} {k0 : Nat} (hT : gb_TR σ) (hk0 : gb_kN k0 = true) : gb_tc (cs_Lines_clear_N n σ k0) (fun s _ => gb_TR s ∧ True) := by
  unfold cs_Lines_clear_N
  refine gc_kk hk0 ?_
  refine gr_ltT (gr_su (c := 2) (lo := 0) (hi := 24) hT (gc_catN hk0) (gb_iw (lo := 0) (hi := 24) (gb_ic (a := 0) (by decide)) (by decide)) (by decide)) (fun s_2 es_2 hTs_2 => ?_)
  exact gc_some ⟨hTs_2, trivial⟩
set_option maxHeartbeats 4000000 in
theorem cr_Lines_clear_L {n : Nat} (hn : gb_N ≤ n) {σ : gb_S} {k0 : Nat} (hT : gb_TR σ) (hk0 : gb_kL k0 = true) : gb_tc (cs_Lines_clear_L n σ k0) (fun s _ => gb_TR s ∧ True) := by
  unfold cs_Lines_clear_L
  refine gc_kk hk0 ?_
  refine gr_ltT (gr_su (c := 3) (lo := 0) (hi := 8) hT (gc_catL hk0) (gb_iw (lo := 0) (hi := 8) (gb_ic (a := 0) (by decide)) (by decide)) (by decide)) (fun s_2 es_2 hTs_2 => ?_)
  exact gc_some ⟨hTs_2, trivial⟩
set_option maxHeartbeats 4000000 in
theorem cr_Lines_clear_D {n : Nat} (hn : gb_N ≤ n) {σ : gb_S} {k0 : Nat} (hT : gb_TR σ) (hk0 : gb_kD k0 = true) : gb_tc (cs_Lines_clear_D n σ k0) (fun s _ => gb_TR s ∧ True) := by
  unfold cs_Lines_clear_D
  refine gc_kk hk0 ?_
  refine gr_ltT (gr_su (c := 4) (lo := 0) (hi := 5) hT (gc_catD hk0) (gb_iw (lo := 0) (hi := 5) (gb_ic (a := 0) (by decide)) (by decide)) (by decide)) (fun s_2 es_2 hTs_2 => ?_)
  exact gc_some ⟨hTs_2, trivial⟩
set_option maxHeartbeats 4000000 in
theorem cr_Border_clashes_B {n : Nat} (hn : gb_N ≤ n) {σ : gb_S} {k0 : Nat} (hT : gb_TR σ) (hk0 : gb_kB k0 = true) : gb_tc (cs_Border_clashes_B n σ k0) (fun s r => s = σ ∧ gb_iv 0 0 r) := by
  unfold cs_Border_clashes_B
  refine gc_kk hk0 ?_
  exact gc_some ⟨rfl, (gb_ic (a := 0) (by decide))⟩
set_option maxHeartbeats 4000000 in
theorem cr_Lines_clashes_N {n : Nat} (hn : gb_N ≤ n) {σ : gb_S} {k0 : Nat} (hT : gb_TR σ) (hk0 : gb_kN k0 = true) : gb_tc (cs_Lines_clashes_N n σ k0) (fun s r => s = σ ∧ gb_iv 0 0 r) := by
  unfold cs_Lines_clashes_N
  refine gc_kk hk0 ?_
  exact gc_some ⟨rfl, (gb_ic (a := 0) (by decide))⟩
set_option maxHeartbeats 4000000 in
theorem cr_Lines_clashes_L {n : Nat} (hn : gb_N ≤ n) {σ : gb_S} {k0 : Nat} (hT : gb_TR σ) (hk0 : gb_kL k0 = true) : gb_tc (cs_Lines_clashes_L n σ k0) (fun s r => s = σ ∧ gb_iv 0 0 r) := by
  unfold cs_Lines_clashes_L
  refine gc_kk hk0 ?_
  exact gc_some ⟨rfl, (gb_ic (a := 0) (by decide))⟩
set_option maxHeartbeats 4000000 in
theorem cr_Dawn_clashes_D_4 {n : Nat} (hn : gb_N ≤ n) {Q : gb_S → Int32 → Prop} {σ : gb_S} (hT : gb_TR σ) (hret : ∀ (r : Int32), gb_iv 0 1 r → Q σ r) : ∀ (mm : Nat) (v0 : Nat) (v1 : Int32) (v2 : Int32), gb_kD v0 = true → gb_iv (-2147483648) 2147483647 v1 → gb_iv 0 5 v2 → (5 - v2.toInt).toNat < mm → gb_tc (cs_Dawn_clashes_D_4 n mm σ v0 v1 v2) Q := by
  intro mm
  induction mm with
  | zero =>
    intro v0 v1 v2 hv0 iv1 iv2 hm
    exact absurd hm (Nat.not_lt_zero _)
  | succ mm ih =>
    intro v0 v1 v2 hv0 iv1 iv2 hm
    rw [cs_Dawn_clashes_D_4]
    refine gc_kk hv0 ?_
    refine gc_cdP (ct_Lines_size_D hn hT.1 hv0) (fun r_4 qr_4 h_263 => ?_)
    refine gc_if (fun c_264 => ?_) (fun c_264 => ?_)
    · exact gc_some (hret _ (gb_iw (lo := 0) (hi := 1) (gb_ic (a := 0) (by decide)) (by decide)))
    · have j_265 : gb_iv 0 4 v2 := (gb_rU (lo := 0) (hi := 4) (gb_dnle c_264) iv2 h_263 (by decide))
      have j_266 : gb_iv 1 5 r_4 := (gb_rL (lo := 1) (hi := 5) (gb_dnle c_264) h_263 j_265 (by decide))
      refine gc_cdP (ct_Dawn_pathSeen_D hn hT.1 hv0 j_265) (fun r_9 qr_9 h_267 => ?_)
      refine gc_lti (lo := (-2147483648)) (hi := 2147483647) (gb_it _) (fun x_12 ex_12 ix_12 => ?_)
      refine gc_if (fun c_268 => ?_) (fun c_268 => ?_)
      · have j_269 : gb_iv (-2147483648) 0 (v1 &&& x_12) := (gb_rU (lo := (-2147483648)) (hi := 0) (gb_deq c_268) (gb_it _) (gb_ic (a := 0) (by decide)) (by decide))
        have j_270 : gb_iv 0 0 (v1 &&& x_12) := (gb_rL (lo := 0) (hi := 0) (gb_deq2 c_268) j_269 (gb_ic (a := 0) (by decide)) (by decide))
        refine gc_lti (lo := (-2147483648)) (hi := 2147483647) (gb_it _) (fun x_14 ex_14 ix_14 => ?_)
        refine gc_lti (lo := 1) (hi := 5) (gb_iadd (lo := 1) (hi := 5) j_265 (gb_ic (a := 1) (by decide)) (by decide)) (fun x_15 ex_15 ix_15 => ?_)
        exact ih _ _ _ hv0 (gb_it _) (gb_iw (lo := 0) (hi := 5) ix_15 (by decide)) (gb_mup ex_15 j_265 (by decide) hm)
      · exact gc_some (hret _ (gb_iw (lo := 0) (hi := 1) (gb_ic (a := 1) (by decide)) (by decide)))
set_option maxHeartbeats 4000000 in
theorem cr_Dawn_clashes_D {n : Nat} (hn : gb_N ≤ n) {σ : gb_S} {k0 : Nat} (hT : gb_TR σ) (hk0 : gb_kD k0 = true) : gb_tc (cs_Dawn_clashes_D n σ k0) (fun s r => s = σ ∧ gb_iv 0 1 r) := by
  unfold cs_Dawn_clashes_D
  refine gc_kk hk0 ?_
  exact cr_Dawn_clashes_D_4 hn hT (fun _ h => ⟨rfl, h⟩) n _ _ _ hk0 (gb_iw (lo := (-2147483648)) (hi := 2147483647) (gb_ic (a := 0) (by decide)) (by decide)) (gb_iw (lo := 0) (hi := 5) (gb_ic (a := 0) (by decide)) (by decide)) (gb_fuu hn (gb_iw (lo := 0) (hi := 5) (gb_ic (a := 0) (by decide)) (by decide)) (by decide))
set_option maxHeartbeats 4000000 in
theorem cr_Reader_takeWord_47 {n : Nat} (hn : gb_N ≤ n) {Q : gb_S → Int32 → Prop} (hret : ∀ (σ : gb_S) (r : Int32), gb_TR σ → gb_iv (-1) 17 r → Q σ r) : ∀ (mm : Nat) (σ : gb_S) (v1 : Int32) (v2 : Int32) (v3 : Int32), gb_TR σ → gb_iv 0 3 v1 → gb_iv 0 600 v2 → gb_iv 0 18 v3 → (18 - v3.toInt).toNat < mm → gb_tc (cs_Reader_takeWord_47 n mm σ v1 v2 v3) Q := by
  intro mm
  induction mm with
  | zero =>
    intro σ v1 v2 v3 hT iv1 iv2 iv3 hm
    exact absurd hm (Nat.not_lt_zero _)
  | succ mm ih =>
    intro σ v1 v2 v3 hT iv1 iv2 iv3 hm
    rw [cs_Reader_takeWord_47]
    refine gc_ck (gb_iadd (lo := 1) (hi := 4) iv1 (gb_ic (a := 1) (by decide)) (by decide)) (by decide) ?_
    refine gc_lti (lo := 0) (hi := 18) (gt_b0 _) (fun x_6 ex_6 ix_6 => ?_)
    refine gc_if (fun c_3552 => ?_) (fun c_3552 => ?_)
    · exact gc_some (hret _ _ hT (gb_iw (lo := (-1)) (hi := 17) (gb_ic (a := (-1)) (by decide)) (by decide)))
    · have j_3553 : gb_iv 0 17 v3 := (gb_rU (lo := 0) (hi := 17) (gb_dnle c_3552) iv3 ix_6 (by decide))
      have j_3554 : gb_iv 1 18 x_6 := (gb_rL (lo := 1) (hi := 18) (gb_dnle c_3552) ix_6 j_3553 (by decide))
      refine gc_cdP ct_wordOf (fun r_9 qr_9 h_3555 => ?_)
      refine gc_kk h_3555 ?_
      refine gc_cdP (ct_isWord hn hT h_3555 iv2) (fun r_14 qr_14 h_3556 => ?_)
      refine gc_if (fun c_3557 => ?_) (fun c_3557 => ?_)
      · have j_3558 : gb_iv 0 0 r_14 := (gb_rU (lo := 0) (hi := 0) (gb_deq c_3557) h_3556 (gb_ic (a := 0) (by decide)) (by decide))
        refine gc_lti (lo := 1) (hi := 18) (gb_iadd (lo := 1) (hi := 18) j_3553 (gb_ic (a := 1) (by decide)) (by decide)) (fun x_18 ex_18 ix_18 => ?_)
        exact ih _ _ _ _ hT iv1 iv2 (gb_iw (lo := 0) (hi := 18) ix_18 (by decide)) (gb_mup ex_18 j_3553 (by decide) hm)
      · have j_3559 : gb_iv 1 1 r_14 := (gb_rN (lo := 1) (hi := 1) (v := 0) c_3557 h_3556 (by decide) (by decide))
        refine gr_ltT (gr_su (c := 12) (lo := 0) (hi := 600) hT (rfl : gc_cat 106 = 12) iv2 (by decide)) (fun s_19 es_19 hTs_19 => ?_)
        exact gc_some (hret _ _ hTs_19 (gb_iw (lo := (-1)) (hi := 17) j_3553 (by decide)))
set_option maxHeartbeats 4000000 in
theorem cr_Reader_takeWord_47_i1 {n : Nat} (hn : gb_N ≤ n) {Q : gb_S → Int32 → Prop} (hret : ∀ (σ : gb_S) (r : Int32), gb_TR σ → gb_iv (-1) 17 r → Q σ r) : ∀ (mm : Nat) (σ : gb_S) (v1 : Int32) (v2 : Int32) (v3 : Int32), gb_TR σ → gb_iv 0 3 v1 → gb_iv 0 599 v2 → gb_iv 0 18 v3 → (18 - v3.toInt).toNat < mm → gb_tc (cs_Reader_takeWord_47 n mm σ v1 v2 v3) Q := by
  intro mm
  induction mm with
  | zero =>
    intro σ v1 v2 v3 hT iv1 iv2 iv3 hm
    exact absurd hm (Nat.not_lt_zero _)
  | succ mm ih =>
    intro σ v1 v2 v3 hT iv1 iv2 iv3 hm
    rw [cs_Reader_takeWord_47]
    refine gc_ck (gb_iadd (lo := 1) (hi := 4) iv1 (gb_ic (a := 1) (by decide)) (by decide)) (by decide) ?_
    refine gc_lti (lo := 0) (hi := 18) (gt_b0 _) (fun x_6 ex_6 ix_6 => ?_)
    refine gc_if (fun c_3628 => ?_) (fun c_3628 => ?_)
    · exact gc_some (hret _ _ hT (gb_iw (lo := (-1)) (hi := 17) (gb_ic (a := (-1)) (by decide)) (by decide)))
    · have j_3629 : gb_iv 0 17 v3 := (gb_rU (lo := 0) (hi := 17) (gb_dnle c_3628) iv3 ix_6 (by decide))
      have j_3630 : gb_iv 1 18 x_6 := (gb_rL (lo := 1) (hi := 18) (gb_dnle c_3628) ix_6 j_3629 (by decide))
      refine gc_cdP ct_wordOf (fun r_9 qr_9 h_3631 => ?_)
      refine gc_kk h_3631 ?_
      refine gc_cdP (ct_isWord hn hT h_3631 (gb_iw (lo := 0) (hi := 600) iv2 (by decide))) (fun r_14 qr_14 h_3632 => ?_)
      refine gc_if (fun c_3633 => ?_) (fun c_3633 => ?_)
      · have j_3634 : gb_iv 0 0 r_14 := (gb_rU (lo := 0) (hi := 0) (gb_deq c_3633) h_3632 (gb_ic (a := 0) (by decide)) (by decide))
        refine gc_lti (lo := 1) (hi := 18) (gb_iadd (lo := 1) (hi := 18) j_3629 (gb_ic (a := 1) (by decide)) (by decide)) (fun x_18 ex_18 ix_18 => ?_)
        exact ih _ _ _ _ hT iv1 iv2 (gb_iw (lo := 0) (hi := 18) ix_18 (by decide)) (gb_mup ex_18 j_3629 (by decide) hm)
      · have j_3635 : gb_iv 1 1 r_14 := (gb_rN (lo := 1) (hi := 1) (v := 0) c_3633 h_3632 (by decide) (by decide))
        refine gr_ltT (gr_su (c := 12) (lo := 0) (hi := 600) hT (rfl : gc_cat 106 = 12) (gb_iw (lo := 0) (hi := 600) iv2 (by decide)) (by decide)) (fun s_19 es_19 hTs_19 => ?_)
        exact gc_some (hret _ _ hTs_19 (gb_iw (lo := (-1)) (hi := 17) j_3629 (by decide)))
set_option maxHeartbeats 4000000 in
theorem cr_Reader_takeWord_5 {n : Nat} (hn : gb_N ≤ n) {Q : gb_S → Int32 → Prop} (hret : ∀ (σ : gb_S) (r : Int32), gb_TR σ → gb_iv (-1) 17 r → Q σ r) : ∀ (mm : Nat) (σ : gb_S) (v1 : Int32) (v2 : Int32), gb_TR σ → gb_iv 0 3 v1 → gb_iv 0 600 v2 → (600 - v2.toInt).toNat < mm → gb_tc (cs_Reader_takeWord_5 n mm σ v1 v2) Q := by
  intro mm
  induction mm with
  | zero =>
    intro σ v1 v2 hT iv1 iv2 hm
    exact absurd hm (Nat.not_lt_zero _)
  | succ mm ih =>
    intro σ v1 v2 hT iv1 iv2 hm
    rw [cs_Reader_takeWord_5]
    refine gc_if (fun c_3487 => ?_) (fun c_3487 => ?_)
    · refine gc_ck iv1 (by decide) ?_
      refine gc_lti (lo := 0) (hi := 18) (gt_b0 _) (fun x_4 ex_4 ix_4 => ?_)
      exact cr_Reader_takeWord_47 hn hret n _ _ _ _ hT iv1 iv2 ix_4 (gb_fuu hn ix_4 (by decide))
    · have j_3560 : gb_iv 0 599 v2 := (gb_rU (lo := 0) (hi := 599) (gb_dnle c_3487) iv2 (gr_rd (c := 12) (lo := 0) (hi := 600) hT (rfl : gc_cat 106 = 12) (by decide)) (by decide))
      have j_3561 : gb_iv 1 600 (σ.1 106 2) := (gb_rL (lo := 1) (hi := 600) (gb_dnle c_3487) (gr_rd (c := 12) (lo := 0) (hi := 600) hT (rfl : gc_cat 106 = 12) (by decide)) j_3560 (by decide))
      refine gc_kk (gr_q0 hT) ?_
      refine gc_ck j_3560 (by decide) ?_
      refine gc_lti (lo := (-2147483648)) (hi := 2147483647) (gb_it _) (fun x_22 ex_22 ix_22 => ?_)
      refine gc_if (fun c_3562 => ?_) (fun c_3562 => ?_)
      · have j_3563 : gb_iv (-2147483648) 96 x_22 := (gb_rU (lo := (-2147483648)) (hi := 96) (gb_dlt c_3562) (gb_it _) (gb_ic (a := 97) (by decide)) (by decide))
        refine gc_ck iv1 (by decide) ?_
        refine gc_lti (lo := 0) (hi := 18) (gt_b0 _) (fun x_25 ex_25 ix_25 => ?_)
        exact cr_Reader_takeWord_47_i1 hn hret n _ _ _ _ hT iv1 j_3560 ix_25 (gb_fuu hn ix_25 (by decide))
      · have j_3636 : gb_iv 97 2147483647 x_22 := (gb_rL (lo := 97) (hi := 2147483647) (gb_dnlt c_3562) (gb_it _) (gb_ic (a := 97) (by decide)) (by decide))
        refine gc_kk (gr_q0 hT) ?_
        refine gc_ck j_3560 (by decide) ?_
        refine gc_lti (lo := 97) (hi := 2147483647) (gb_ie ex_22.symm j_3636) (fun x_28 ex_28 ix_28 => ?_)
        refine gc_if (fun c_3637 => ?_) (fun c_3637 => ?_)
        · have j_3638 : gb_iv 123 2147483647 x_28 := (gb_rL (lo := 123) (hi := 2147483647) (gb_dlt c_3637) ix_28 (gb_ic (a := 122) (by decide)) (by decide))
          refine gc_ck iv1 (by decide) ?_
          refine gc_lti (lo := 0) (hi := 18) (gt_b0 _) (fun x_31 ex_31 ix_31 => ?_)
          exact cr_Reader_takeWord_47_i1 hn hret n _ _ _ _ hT iv1 j_3560 ix_31 (gb_fuu hn ix_31 (by decide))
        · have j_3703 : gb_iv 97 122 x_28 := (gb_rU (lo := 97) (hi := 122) (gb_dnlt c_3637) ix_28 (gb_ic (a := 122) (by decide)) (by decide))
          refine gc_lti (lo := 1) (hi := 600) (gb_iadd (lo := 1) (hi := 600) j_3560 (gb_ic (a := 1) (by decide)) (by decide)) (fun x_32 ex_32 ix_32 => ?_)
          exact ih _ _ _ hT iv1 (gb_iw (lo := 0) (hi := 600) ix_32 (by decide)) (gb_mup ex_32 j_3560 (by decide) hm)
set_option maxHeartbeats 4000000 in
theorem cr_Reader_takeWord {n : Nat} (hn : gb_N ≤ n) {σ : gb_S} {p1 : Int32} (hT : gb_TR σ) (ip1 : gb_iv 0 3 p1) : gb_tc (cs_Reader_takeWord n σ p1) (fun s r => gb_TR s ∧ gb_iv (-1) 17 r) := by
  unfold cs_Reader_takeWord
  refine gc_lti (lo := 0) (hi := 600) (gr_rd (c := 12) (lo := 0) (hi := 600) hT (rfl : gc_cat 106 = 12) (by decide)) (fun x_1 ex_1 ix_1 => ?_)
  exact cr_Reader_takeWord_5 hn (fun _ _ hT h => ⟨hT, h⟩) n _ _ _ hT ip1 ix_1 (gb_fuu hn ix_1 (by decide))
set_option maxHeartbeats 4000000 in
theorem cr_Reader_canBe_36 {n : Nat} (hn : gb_N ≤ n) {Q : gb_S → Int32 → Prop} {σ : gb_S} (hT : gb_TR σ) (hret : ∀ (r : Int32), gb_iv 0 1 r → Q σ r) : ∀ (v1 : Int32) (v2 : Int32) (v3 : Int32) (t0 : Int32), gb_iv 6 6 v1 → gb_iv 1 1 v2 → gb_iv (-2147483648) 2147483647 v3 → gb_iv 0 0 t0 → gb_tc (cs_Reader_canBe_36 n σ v1 v2 v3 t0) Q := by
  intro v1 v2 v3 t0 iv1 iv2 iv3 it0
  unfold cs_Reader_canBe_36
  refine gc_if (fun c_3757 => ?_) (fun c_3757 => ?_)
  · have j_3758 : gb_iv (-2147483648) (-1) v3 := (gb_rU (lo := (-2147483648)) (hi := (-1)) (gb_dlt c_3757) (gb_it _) it0 (by decide))
    exact gc_some (hret _ (gb_iw (lo := 0) (hi := 1) (gb_ic (a := 0) (by decide)) (by decide)))
  · have j_3759 : gb_iv 0 2147483647 v3 := (gb_rL (lo := 0) (hi := 2147483647) (gb_dnlt c_3757) (gb_it _) it0 (by decide))
    refine gc_ck (gb_iadd (lo := 31) (hi := 31) (gb_imul (lo := 30) (hi := 30) iv1 (gb_ic (a := 5) (by decide)) (by decide)) iv2 (by decide)) (by decide) ?_
    refine gc_lti (lo := (-2147483648)) (hi := 2147483647) (gb_it _) (fun x_5 ex_5 ix_5 => ?_)
    refine gc_if (fun c_3760 => ?_) (fun c_3760 => ?_)
    · have j_3761 : gb_iv (-2147483648) 2147483646 x_5 := (gb_rU (lo := (-2147483648)) (hi := 2147483646) (gb_dlt c_3760) (gb_it _) j_3759 (by decide))
      exact gc_some (hret _ (gb_iw (lo := 0) (hi := 1) (gb_ic (a := 0) (by decide)) (by decide)))
    · have j_3762 : gb_iv 0 2147483647 x_5 := (gb_rL (lo := 0) (hi := 2147483647) (gb_dnlt c_3760) (gb_it _) j_3759 (by decide))
      exact gc_some (hret _ (gb_iw (lo := 0) (hi := 1) (gb_ic (a := 1) (by decide)) (by decide)))
set_option maxHeartbeats 4000000 in
theorem cr_Reader_canBe_35 {n : Nat} (hn : gb_N ≤ n) {Q : gb_S → Int32 → Prop} {σ : gb_S} (hT : gb_TR σ) (hret : ∀ (r : Int32), gb_iv 0 1 r → Q σ r) : ∀ (v1 : Int32) (v2 : Int32) (v3 : Int32), gb_iv 6 6 v1 → gb_iv 1 1 v2 → gb_iv (-2147483648) 2147483647 v3 → gb_tc (cs_Reader_canBe_35 n σ v1 v2 v3) Q := by
  intro v1 v2 v3 iv1 iv2 iv3
  unfold cs_Reader_canBe_35
  exact cr_Reader_canBe_36 hn hT hret _ _ _ _ iv1 iv2 (gb_it _) (gb_ic (a := 0) (by decide))
set_option maxHeartbeats 4000000 in
theorem cr_Reader_canBe_23 {n : Nat} (hn : gb_N ≤ n) {Q : gb_S → Int32 → Prop} {σ : gb_S} (hT : gb_TR σ) (hret : ∀ (r : Int32), gb_iv 0 1 r → Q σ r) : ∀ (v1 : Int32) (v2 : Int32) (v3 : Int32), gb_iv 6 6 v1 → gb_iv 1 1 v2 → gb_iv (-2147483648) 2147483647 v3 → gb_tc (cs_Reader_canBe_23 n σ v1 v2 v3) Q := by
  intro v1 v2 v3 iv1 iv2 iv3
  unfold cs_Reader_canBe_23
  refine gc_if (fun c_3756 => ?_) (fun c_3756 => ?_)
  · exact (gb_em (gb_rU (lo := 6) (hi := 0) (gb_deq c_3756) iv1 (gb_ic (a := 0) (by decide)) (by decide)) (by decide)).elim
  · exact cr_Reader_canBe_35 hn hT hret _ _ _ iv1 iv2 (gb_it _)
set_option maxHeartbeats 4000000 in
theorem cr_Reader_canBe_36_i1 {n : Nat} (hn : gb_N ≤ n) {Q : gb_S → Int32 → Prop} {σ : gb_S} (hT : gb_TR σ) (hret : ∀ (r : Int32), gb_iv 0 1 r → Q σ r) : ∀ (v1 : Int32) (v2 : Int32) (v3 : Int32) (t0 : Int32), gb_iv 6 6 v1 → gb_iv 0 4 v2 → gb_iv (-2147483648) 2147483647 v3 → gb_iv 0 0 t0 → gb_tc (cs_Reader_canBe_36 n σ v1 v2 v3 t0) Q := by
  intro v1 v2 v3 t0 iv1 iv2 iv3 it0
  unfold cs_Reader_canBe_36
  refine gc_if (fun c_3764 => ?_) (fun c_3764 => ?_)
  · have j_3765 : gb_iv (-2147483648) (-1) v3 := (gb_rU (lo := (-2147483648)) (hi := (-1)) (gb_dlt c_3764) (gb_it _) it0 (by decide))
    exact gc_some (hret _ (gb_iw (lo := 0) (hi := 1) (gb_ic (a := 0) (by decide)) (by decide)))
  · have j_3766 : gb_iv 0 2147483647 v3 := (gb_rL (lo := 0) (hi := 2147483647) (gb_dnlt c_3764) (gb_it _) it0 (by decide))
    refine gc_ck (gb_iadd (lo := 30) (hi := 34) (gb_imul (lo := 30) (hi := 30) iv1 (gb_ic (a := 5) (by decide)) (by decide)) iv2 (by decide)) (by decide) ?_
    refine gc_lti (lo := (-2147483648)) (hi := 2147483647) (gb_it _) (fun x_5 ex_5 ix_5 => ?_)
    refine gc_if (fun c_3767 => ?_) (fun c_3767 => ?_)
    · have j_3768 : gb_iv (-2147483648) 2147483646 x_5 := (gb_rU (lo := (-2147483648)) (hi := 2147483646) (gb_dlt c_3767) (gb_it _) j_3766 (by decide))
      exact gc_some (hret _ (gb_iw (lo := 0) (hi := 1) (gb_ic (a := 0) (by decide)) (by decide)))
    · have j_3769 : gb_iv 0 2147483647 x_5 := (gb_rL (lo := 0) (hi := 2147483647) (gb_dnlt c_3767) (gb_it _) j_3766 (by decide))
      exact gc_some (hret _ (gb_iw (lo := 0) (hi := 1) (gb_ic (a := 1) (by decide)) (by decide)))
set_option maxHeartbeats 4000000 in
theorem cr_Reader_canBe_35_i1 {n : Nat} (hn : gb_N ≤ n) {Q : gb_S → Int32 → Prop} {σ : gb_S} (hT : gb_TR σ) (hret : ∀ (r : Int32), gb_iv 0 1 r → Q σ r) : ∀ (v1 : Int32) (v2 : Int32) (v3 : Int32), gb_iv 6 6 v1 → gb_iv 0 4 v2 → gb_iv (-2147483648) 2147483647 v3 → gb_tc (cs_Reader_canBe_35 n σ v1 v2 v3) Q := by
  intro v1 v2 v3 iv1 iv2 iv3
  unfold cs_Reader_canBe_35
  exact cr_Reader_canBe_36_i1 hn hT hret _ _ _ _ iv1 iv2 (gb_it _) (gb_ic (a := 0) (by decide))
set_option maxHeartbeats 4000000 in
theorem cr_Reader_canBe_23_i1 {n : Nat} (hn : gb_N ≤ n) {Q : gb_S → Int32 → Prop} {σ : gb_S} (hT : gb_TR σ) (hret : ∀ (r : Int32), gb_iv 0 1 r → Q σ r) : ∀ (v1 : Int32) (v2 : Int32) (v3 : Int32), gb_iv 6 6 v1 → gb_iv 0 4 v2 → gb_iv (-2147483648) 2147483647 v3 → gb_tc (cs_Reader_canBe_23 n σ v1 v2 v3) Q := by
  intro v1 v2 v3 iv1 iv2 iv3
  unfold cs_Reader_canBe_23
  refine gc_if (fun c_3763 => ?_) (fun c_3763 => ?_)
  · exact (gb_em (gb_rU (lo := 6) (hi := 0) (gb_deq c_3763) iv1 (gb_ic (a := 0) (by decide)) (by decide)) (by decide)).elim
  · exact cr_Reader_canBe_35_i1 hn hT hret _ _ _ iv1 iv2 (gb_it _)
set_option maxHeartbeats 4000000 in
theorem cr_Reader_canBe_36_i2 {n : Nat} (hn : gb_N ≤ n) {Q : gb_S → Int32 → Prop} {σ : gb_S} (hT : gb_TR σ) (hret : ∀ (r : Int32), gb_iv 0 1 r → Q σ r) : ∀ (v1 : Int32) (v2 : Int32) (v3 : Int32) (t0 : Int32), gb_iv 0 0 v1 → gb_iv 0 0 v2 → gb_iv (-2147483648) 2147483647 v3 → gb_iv 1 1 t0 → gb_tc (cs_Reader_canBe_36 n σ v1 v2 v3 t0) Q := by
  intro v1 v2 v3 t0 iv1 iv2 iv3 it0
  unfold cs_Reader_canBe_36
  refine gc_if (fun c_3774 => ?_) (fun c_3774 => ?_)
  · have j_3775 : gb_iv (-2147483648) 0 v3 := (gb_rU (lo := (-2147483648)) (hi := 0) (gb_dlt c_3774) (gb_it _) it0 (by decide))
    exact gc_some (hret _ (gb_iw (lo := 0) (hi := 1) (gb_ic (a := 0) (by decide)) (by decide)))
  · have j_3776 : gb_iv 1 2147483647 v3 := (gb_rL (lo := 1) (hi := 2147483647) (gb_dnlt c_3774) (gb_it _) it0 (by decide))
    refine gc_ck (gb_iadd (lo := 0) (hi := 0) (gb_imul (lo := 0) (hi := 0) iv1 (gb_ic (a := 5) (by decide)) (by decide)) iv2 (by decide)) (by decide) ?_
    refine gc_lti (lo := (-2147483648)) (hi := 2147483647) (gb_it _) (fun x_5 ex_5 ix_5 => ?_)
    refine gc_if (fun c_3777 => ?_) (fun c_3777 => ?_)
    · have j_3778 : gb_iv (-2147483648) 2147483646 x_5 := (gb_rU (lo := (-2147483648)) (hi := 2147483646) (gb_dlt c_3777) (gb_it _) j_3776 (by decide))
      exact gc_some (hret _ (gb_iw (lo := 0) (hi := 1) (gb_ic (a := 0) (by decide)) (by decide)))
    · have j_3779 : gb_iv 1 2147483647 x_5 := (gb_rL (lo := 1) (hi := 2147483647) (gb_dnlt c_3777) (gb_it _) j_3776 (by decide))
      exact gc_some (hret _ (gb_iw (lo := 0) (hi := 1) (gb_ic (a := 1) (by decide)) (by decide)))
set_option maxHeartbeats 4000000 in
theorem cr_Reader_canBe_36_i3 {n : Nat} (hn : gb_N ≤ n) {Q : gb_S → Int32 → Prop} {σ : gb_S} (hT : gb_TR σ) (hret : ∀ (r : Int32), gb_iv 0 1 r → Q σ r) : ∀ (v1 : Int32) (v2 : Int32) (v3 : Int32) (t0 : Int32), gb_iv 0 0 v1 → gb_iv 1 4 v2 → gb_iv (-2147483648) 2147483647 v3 → gb_iv 0 0 t0 → gb_tc (cs_Reader_canBe_36 n σ v1 v2 v3 t0) Q := by
  intro v1 v2 v3 t0 iv1 iv2 iv3 it0
  unfold cs_Reader_canBe_36
  refine gc_if (fun c_3781 => ?_) (fun c_3781 => ?_)
  · have j_3782 : gb_iv (-2147483648) (-1) v3 := (gb_rU (lo := (-2147483648)) (hi := (-1)) (gb_dlt c_3781) (gb_it _) it0 (by decide))
    exact gc_some (hret _ (gb_iw (lo := 0) (hi := 1) (gb_ic (a := 0) (by decide)) (by decide)))
  · have j_3783 : gb_iv 0 2147483647 v3 := (gb_rL (lo := 0) (hi := 2147483647) (gb_dnlt c_3781) (gb_it _) it0 (by decide))
    refine gc_ck (gb_iadd (lo := 1) (hi := 4) (gb_imul (lo := 0) (hi := 0) iv1 (gb_ic (a := 5) (by decide)) (by decide)) iv2 (by decide)) (by decide) ?_
    refine gc_lti (lo := (-2147483648)) (hi := 2147483647) (gb_it _) (fun x_5 ex_5 ix_5 => ?_)
    refine gc_if (fun c_3784 => ?_) (fun c_3784 => ?_)
    · have j_3785 : gb_iv (-2147483648) 2147483646 x_5 := (gb_rU (lo := (-2147483648)) (hi := 2147483646) (gb_dlt c_3784) (gb_it _) j_3783 (by decide))
      exact gc_some (hret _ (gb_iw (lo := 0) (hi := 1) (gb_ic (a := 0) (by decide)) (by decide)))
    · have j_3786 : gb_iv 0 2147483647 x_5 := (gb_rL (lo := 0) (hi := 2147483647) (gb_dnlt c_3784) (gb_it _) j_3783 (by decide))
      exact gc_some (hret _ (gb_iw (lo := 0) (hi := 1) (gb_ic (a := 1) (by decide)) (by decide)))
set_option maxHeartbeats 4000000 in
theorem cr_Reader_canBe_35_i2 {n : Nat} (hn : gb_N ≤ n) {Q : gb_S → Int32 → Prop} {σ : gb_S} (hT : gb_TR σ) (hret : ∀ (r : Int32), gb_iv 0 1 r → Q σ r) : ∀ (v1 : Int32) (v2 : Int32) (v3 : Int32), gb_iv 0 0 v1 → gb_iv 1 4 v2 → gb_iv (-2147483648) 2147483647 v3 → gb_tc (cs_Reader_canBe_35 n σ v1 v2 v3) Q := by
  intro v1 v2 v3 iv1 iv2 iv3
  unfold cs_Reader_canBe_35
  exact cr_Reader_canBe_36_i3 hn hT hret _ _ _ _ iv1 iv2 (gb_it _) (gb_ic (a := 0) (by decide))
set_option maxHeartbeats 4000000 in
theorem cr_Reader_canBe_36_i4 {n : Nat} (hn : gb_N ≤ n) {Q : gb_S → Int32 → Prop} {σ : gb_S} (hT : gb_TR σ) (hret : ∀ (r : Int32), gb_iv 0 1 r → Q σ r) : ∀ (v1 : Int32) (v2 : Int32) (v3 : Int32) (t0 : Int32), gb_iv 1 17 v1 → gb_iv 0 4 v2 → gb_iv (-2147483648) 2147483647 v3 → gb_iv 0 0 t0 → gb_tc (cs_Reader_canBe_36 n σ v1 v2 v3 t0) Q := by
  intro v1 v2 v3 t0 iv1 iv2 iv3 it0
  unfold cs_Reader_canBe_36
  refine gc_if (fun c_3788 => ?_) (fun c_3788 => ?_)
  · have j_3789 : gb_iv (-2147483648) (-1) v3 := (gb_rU (lo := (-2147483648)) (hi := (-1)) (gb_dlt c_3788) (gb_it _) it0 (by decide))
    exact gc_some (hret _ (gb_iw (lo := 0) (hi := 1) (gb_ic (a := 0) (by decide)) (by decide)))
  · have j_3790 : gb_iv 0 2147483647 v3 := (gb_rL (lo := 0) (hi := 2147483647) (gb_dnlt c_3788) (gb_it _) it0 (by decide))
    refine gc_ck (gb_iadd (lo := 5) (hi := 89) (gb_imul (lo := 5) (hi := 85) iv1 (gb_ic (a := 5) (by decide)) (by decide)) iv2 (by decide)) (by decide) ?_
    refine gc_lti (lo := (-2147483648)) (hi := 2147483647) (gb_it _) (fun x_5 ex_5 ix_5 => ?_)
    refine gc_if (fun c_3791 => ?_) (fun c_3791 => ?_)
    · have j_3792 : gb_iv (-2147483648) 2147483646 x_5 := (gb_rU (lo := (-2147483648)) (hi := 2147483646) (gb_dlt c_3791) (gb_it _) j_3790 (by decide))
      exact gc_some (hret _ (gb_iw (lo := 0) (hi := 1) (gb_ic (a := 0) (by decide)) (by decide)))
    · have j_3793 : gb_iv 0 2147483647 x_5 := (gb_rL (lo := 0) (hi := 2147483647) (gb_dnlt c_3791) (gb_it _) j_3790 (by decide))
      exact gc_some (hret _ (gb_iw (lo := 0) (hi := 1) (gb_ic (a := 1) (by decide)) (by decide)))
set_option maxHeartbeats 4000000 in
theorem cr_Reader_canBe_35_i3 {n : Nat} (hn : gb_N ≤ n) {Q : gb_S → Int32 → Prop} {σ : gb_S} (hT : gb_TR σ) (hret : ∀ (r : Int32), gb_iv 0 1 r → Q σ r) : ∀ (v1 : Int32) (v2 : Int32) (v3 : Int32), gb_iv 1 17 v1 → gb_iv 0 4 v2 → gb_iv (-2147483648) 2147483647 v3 → gb_tc (cs_Reader_canBe_35 n σ v1 v2 v3) Q := by
  intro v1 v2 v3 iv1 iv2 iv3
  unfold cs_Reader_canBe_35
  exact cr_Reader_canBe_36_i4 hn hT hret _ _ _ _ iv1 iv2 (gb_it _) (gb_ic (a := 0) (by decide))
set_option maxHeartbeats 4000000 in
theorem cr_Reader_canBe_23_i2 {n : Nat} (hn : gb_N ≤ n) {Q : gb_S → Int32 → Prop} {σ : gb_S} (hT : gb_TR σ) (hret : ∀ (r : Int32), gb_iv 0 1 r → Q σ r) : ∀ (v1 : Int32) (v2 : Int32) (v3 : Int32), gb_iv 0 17 v1 → gb_iv 0 4 v2 → gb_iv (-2147483648) 2147483647 v3 → gb_tc (cs_Reader_canBe_23 n σ v1 v2 v3) Q := by
  intro v1 v2 v3 iv1 iv2 iv3
  unfold cs_Reader_canBe_23
  refine gc_if (fun c_3770 => ?_) (fun c_3770 => ?_)
  · have j_3771 : gb_iv 0 0 v1 := (gb_rU (lo := 0) (hi := 0) (gb_deq c_3770) iv1 (gb_ic (a := 0) (by decide)) (by decide))
    refine gc_if (fun c_3772 => ?_) (fun c_3772 => ?_)
    · have j_3773 : gb_iv 0 0 v2 := (gb_rU (lo := 0) (hi := 0) (gb_deq c_3772) iv2 (gb_ic (a := 0) (by decide)) (by decide))
      exact cr_Reader_canBe_36_i2 hn hT hret _ _ _ _ j_3771 j_3773 (gb_it _) (gb_ic (a := 1) (by decide))
    · have j_3780 : gb_iv 1 4 v2 := (gb_rN (lo := 1) (hi := 4) (v := 0) c_3772 iv2 (by decide) (by decide))
      exact cr_Reader_canBe_35_i2 hn hT hret _ _ _ j_3771 j_3780 (gb_it _)
  · have j_3787 : gb_iv 1 17 v1 := (gb_rN (lo := 1) (hi := 17) (v := 0) c_3770 iv1 (by decide) (by decide))
    exact cr_Reader_canBe_35_i3 hn hT hret _ _ _ j_3787 iv2 (gb_it _)
set_option maxHeartbeats 4000000 in
theorem cr_Reader_canBe {n : Nat} (hn : gb_N ≤ n) {σ : gb_S} {p1 : Int32} {p2 : Int32} {p3 : Int32} (hT : gb_TR σ) (ip1 : gb_iv 0 17 p1) (ip2 : gb_iv 0 4 p2) : gb_tc (cs_Reader_canBe n σ p1 p2 p3) (fun s r => s = σ ∧ gb_iv 0 1 r) := by
  unfold cs_Reader_canBe
  refine gc_if (fun c_3749 => ?_) (fun c_3749 => ?_)
  · have j_3750 : gb_iv 0 6 p1 := (gb_rU (lo := 0) (hi := 6) (gb_deq c_3749) ip1 (gb_ic (a := 6) (by decide)) (by decide))
    have j_3751 : gb_iv 6 6 p1 := (gb_rL (lo := 6) (hi := 6) (gb_deq2 c_3749) j_3750 (gb_ic (a := 6) (by decide)) (by decide))
    refine gc_if (fun c_3752 => ?_) (fun c_3752 => ?_)
    · have j_3753 : gb_iv 0 1 p2 := (gb_rU (lo := 0) (hi := 1) (gb_deq c_3752) ip2 (gb_ic (a := 1) (by decide)) (by decide))
      have j_3754 : gb_iv 1 1 p2 := (gb_rL (lo := 1) (hi := 1) (gb_deq2 c_3752) j_3753 (gb_ic (a := 1) (by decide)) (by decide))
      refine gc_lti (lo := (-2147483648)) (hi := 2147483647) (gb_it _) (fun x_9 ex_9 ix_9 => ?_)
      refine gc_if (fun c_3755 => ?_) (fun c_3755 => ?_)
      · exact gc_some ⟨rfl, (gb_iw (lo := 0) (hi := 1) (gb_ic (a := 0) (by decide)) (by decide))⟩
      · exact cr_Reader_canBe_23 hn hT (fun _ h => ⟨rfl, h⟩) _ _ _ j_3751 j_3754 (gb_it _)
    · exact cr_Reader_canBe_23_i1 hn hT (fun _ h => ⟨rfl, h⟩) _ _ _ j_3751 ip2 (gb_it _)
  · exact cr_Reader_canBe_23_i2 hn hT (fun _ h => ⟨rfl, h⟩) _ _ _ ip1 ip2 (gb_it _)
set_option maxHeartbeats 4000000 in
theorem cr_Reader_takeNumber_61 {n : Nat} (hn : gb_N ≤ n) {Q : gb_S → Int32 → Prop} (hret : ∀ (σ : gb_S) (r : Int32), gb_TR σ → gb_iv 0 1 r → Q σ r) : ∀ (σ : gb_S) (v1 : Int32) (v2 : Int32) (v3 : Int32) (v4 : Int32), gb_TR σ → gb_iv 0 17 v1 → gb_iv 0 4 v2 → gb_iv 0 600 v3 → gb_iv (-2147483648) 2147483647 v4 → gb_tc (cs_Reader_takeNumber_61 n σ v1 v2 v3 v4) Q := by
  intro σ v1 v2 v3 v4 hT iv1 iv2 iv3 iv4
  unfold cs_Reader_takeNumber_61
  refine gc_if (fun c_4555 => ?_) (fun c_4555 => ?_)
  · exact gc_some (hret _ _ hT (gb_iw (lo := 0) (hi := 1) (gb_ic (a := 0) (by decide)) (by decide)))
  · refine gc_if (fun c_4556 => ?_) (fun c_4556 => ?_)
    · have j_4557 : gb_iv (-600) 3 (v3 - (σ.1 106 3)) := (gb_rU (lo := (-600)) (hi := 3) (gb_dle c_4556) (gb_isub (lo := (-600)) (hi := 600) iv3 (gr_rd (c := 12) (lo := 0) (hi := 600) hT (rfl : gc_cat 106 = 12) (by decide)) (by decide)) (gb_ic (a := 3) (by decide)) (by decide))
      refine gc_ck iv2 (by decide) ?_
      refine gr_ltT (gr_su0 hT (rfl : gc_cat 107 = 0)) (fun s_6 es_6 hTs_6 => ?_)
      refine gc_cdP (cr_Reader_canBe hn hTs_6 iv1 iv2) (fun r_8 qr_8 h_4558 => ?_)
      refine gc_if (fun c_4559 => ?_) (fun c_4559 => ?_)
      · have j_4560 : gb_iv 0 0 r_8 := (gb_rU (lo := 0) (hi := 0) (gb_deq c_4559) h_4558 (gb_ic (a := 0) (by decide)) (by decide))
        refine gr_cdT (cr_Reader_note hn hTs_6) (fun s_13 u_4561 hTs_13 _ => ?_)
        refine gr_ltT (gr_su (c := 12) (lo := 0) (hi := 600) hTs_13 (rfl : gc_cat 106 = 12) iv3 (by decide)) (fun s_17 es_17 hTs_17 => ?_)
        exact gc_some (hret _ _ hTs_17 (gb_iw (lo := 0) (hi := 1) (gb_ic (a := 1) (by decide)) (by decide)))
      · have j_4562 : gb_iv 1 1 r_8 := (gb_rN (lo := 1) (hi := 1) (v := 0) c_4559 h_4558 (by decide) (by decide))
        refine gr_ltT (gr_su (c := 12) (lo := 0) (hi := 600) hTs_6 (rfl : gc_cat 106 = 12) iv3 (by decide)) (fun s_12 es_12 hTs_12 => ?_)
        exact gc_some (hret _ _ hTs_12 (gb_iw (lo := 0) (hi := 1) (gb_ic (a := 1) (by decide)) (by decide)))
    · have j_4563 : gb_iv 4 600 (v3 - (σ.1 106 3)) := (gb_rL (lo := 4) (hi := 600) (gb_dnle c_4556) (gb_isub (lo := (-600)) (hi := 600) iv3 (gr_rd (c := 12) (lo := 0) (hi := 600) hT (rfl : gc_cat 106 = 12) (by decide)) (by decide)) (gb_ic (a := 3) (by decide)) (by decide))
      exact gc_some (hret _ _ hT (gb_iw (lo := 0) (hi := 1) (gb_ic (a := 0) (by decide)) (by decide)))
set_option maxHeartbeats 4000000 in
theorem cr_Reader_takeNumber_61_i1 {n : Nat} (hn : gb_N ≤ n) {Q : gb_S → Int32 → Prop} (hret : ∀ (σ : gb_S) (r : Int32), gb_TR σ → gb_iv 0 1 r → Q σ r) : ∀ (σ : gb_S) (v1 : Int32) (v2 : Int32) (v3 : Int32) (v4 : Int32), gb_TR σ → gb_iv 0 17 v1 → gb_iv 0 4 v2 → gb_iv 0 599 v3 → gb_iv (-2147483648) 2147483647 v4 → gb_tc (cs_Reader_takeNumber_61 n σ v1 v2 v3 v4) Q := by
  intro σ v1 v2 v3 v4 hT iv1 iv2 iv3 iv4
  unfold cs_Reader_takeNumber_61
  refine gc_if (fun c_4568 => ?_) (fun c_4568 => ?_)
  · have j_4569 : gb_iv 0 599 (σ.1 106 3) := (gb_rU (lo := 0) (hi := 599) (gb_deq2 c_4568) (gr_rd (c := 12) (lo := 0) (hi := 600) hT (rfl : gc_cat 106 = 12) (by decide)) iv3 (by decide))
    exact gc_some (hret _ _ hT (gb_iw (lo := 0) (hi := 1) (gb_ic (a := 0) (by decide)) (by decide)))
  · refine gc_if (fun c_4570 => ?_) (fun c_4570 => ?_)
    · have j_4571 : gb_iv (-600) 3 (v3 - (σ.1 106 3)) := (gb_rU (lo := (-600)) (hi := 3) (gb_dle c_4570) (gb_isub (lo := (-600)) (hi := 599) iv3 (gr_rd (c := 12) (lo := 0) (hi := 600) hT (rfl : gc_cat 106 = 12) (by decide)) (by decide)) (gb_ic (a := 3) (by decide)) (by decide))
      refine gc_ck iv2 (by decide) ?_
      refine gr_ltT (gr_su0 hT (rfl : gc_cat 107 = 0)) (fun s_6 es_6 hTs_6 => ?_)
      refine gc_cdP (cr_Reader_canBe hn hTs_6 iv1 iv2) (fun r_8 qr_8 h_4572 => ?_)
      refine gc_if (fun c_4573 => ?_) (fun c_4573 => ?_)
      · have j_4574 : gb_iv 0 0 r_8 := (gb_rU (lo := 0) (hi := 0) (gb_deq c_4573) h_4572 (gb_ic (a := 0) (by decide)) (by decide))
        refine gr_cdT (cr_Reader_note hn hTs_6) (fun s_13 u_4575 hTs_13 _ => ?_)
        refine gr_ltT (gr_su (c := 12) (lo := 0) (hi := 600) hTs_13 (rfl : gc_cat 106 = 12) (gb_iw (lo := 0) (hi := 600) iv3 (by decide)) (by decide)) (fun s_17 es_17 hTs_17 => ?_)
        exact gc_some (hret _ _ hTs_17 (gb_iw (lo := 0) (hi := 1) (gb_ic (a := 1) (by decide)) (by decide)))
      · have j_4576 : gb_iv 1 1 r_8 := (gb_rN (lo := 1) (hi := 1) (v := 0) c_4573 h_4572 (by decide) (by decide))
        refine gr_ltT (gr_su (c := 12) (lo := 0) (hi := 600) hTs_6 (rfl : gc_cat 106 = 12) (gb_iw (lo := 0) (hi := 600) iv3 (by decide)) (by decide)) (fun s_12 es_12 hTs_12 => ?_)
        exact gc_some (hret _ _ hTs_12 (gb_iw (lo := 0) (hi := 1) (gb_ic (a := 1) (by decide)) (by decide)))
    · have j_4577 : gb_iv 4 599 (v3 - (σ.1 106 3)) := (gb_rL (lo := 4) (hi := 599) (gb_dnle c_4570) (gb_isub (lo := (-600)) (hi := 599) iv3 (gr_rd (c := 12) (lo := 0) (hi := 600) hT (rfl : gc_cat 106 = 12) (by decide)) (by decide)) (gb_ic (a := 3) (by decide)) (by decide))
      exact gc_some (hret _ _ hT (gb_iw (lo := 0) (hi := 1) (gb_ic (a := 0) (by decide)) (by decide)))
set_option maxHeartbeats 4000000 in
theorem cr_Reader_takeNumber_8 {n : Nat} (hn : gb_N ≤ n) {Q : gb_S → Int32 → Prop} (hret : ∀ (σ : gb_S) (r : Int32), gb_TR σ → gb_iv 0 1 r → Q σ r) : ∀ (mm : Nat) (σ : gb_S) (v1 : Int32) (v2 : Int32) (v3 : Int32) (v4 : Int32), gb_TR σ → gb_iv 0 17 v1 → gb_iv 0 4 v2 → gb_iv 0 600 v3 → gb_iv (-2147483648) 2147483647 v4 → (600 - v3.toInt).toNat < mm → gb_tc (cs_Reader_takeNumber_8 n mm σ v1 v2 v3 v4) Q := by
  intro mm
  induction mm with
  | zero =>
    intro σ v1 v2 v3 v4 hT iv1 iv2 iv3 iv4 hm
    exact absurd hm (Nat.not_lt_zero _)
  | succ mm ih =>
    intro σ v1 v2 v3 v4 hT iv1 iv2 iv3 iv4 hm
    rw [cs_Reader_takeNumber_8]
    refine gc_if (fun c_4554 => ?_) (fun c_4554 => ?_)
    · exact cr_Reader_takeNumber_61 hn hret _ _ _ _ _ hT iv1 iv2 iv3 (gb_it _)
    · have j_4564 : gb_iv 0 599 v3 := (gb_rU (lo := 0) (hi := 599) (gb_dnle c_4554) iv3 (gr_rd (c := 12) (lo := 0) (hi := 600) hT (rfl : gc_cat 106 = 12) (by decide)) (by decide))
      have j_4565 : gb_iv 1 600 (σ.1 106 2) := (gb_rL (lo := 1) (hi := 600) (gb_dnle c_4554) (gr_rd (c := 12) (lo := 0) (hi := 600) hT (rfl : gc_cat 106 = 12) (by decide)) j_4564 (by decide))
      refine gc_kk (gr_q0 hT) ?_
      refine gc_ck j_4564 (by decide) ?_
      refine gc_lti (lo := (-2147483648)) (hi := 2147483647) (gb_it _) (fun x_20 ex_20 ix_20 => ?_)
      refine gc_if (fun c_4566 => ?_) (fun c_4566 => ?_)
      · have j_4567 : gb_iv (-2147483648) 47 x_20 := (gb_rU (lo := (-2147483648)) (hi := 47) (gb_dlt c_4566) (gb_it _) (gb_ic (a := 48) (by decide)) (by decide))
        exact cr_Reader_takeNumber_61_i1 hn hret _ _ _ _ _ hT iv1 iv2 j_4564 (gb_it _)
      · have j_4578 : gb_iv 48 2147483647 x_20 := (gb_rL (lo := 48) (hi := 2147483647) (gb_dnlt c_4566) (gb_it _) (gb_ic (a := 48) (by decide)) (by decide))
        refine gc_kk (gr_q0 hT) ?_
        refine gc_ck j_4564 (by decide) ?_
        refine gc_lti (lo := 48) (hi := 2147483647) (gb_ie ex_20.symm j_4578) (fun x_24 ex_24 ix_24 => ?_)
        refine gc_if (fun c_4579 => ?_) (fun c_4579 => ?_)
        · have j_4580 : gb_iv 58 2147483647 x_24 := (gb_rL (lo := 58) (hi := 2147483647) (gb_dlt c_4579) ix_24 (gb_ic (a := 57) (by decide)) (by decide))
          exact cr_Reader_takeNumber_61_i1 hn hret _ _ _ _ _ hT iv1 iv2 j_4564 (gb_it _)
        · have j_4581 : gb_iv 48 57 x_24 := (gb_rU (lo := 48) (hi := 57) (gb_dnlt c_4579) ix_24 (gb_ic (a := 57) (by decide)) (by decide))
          refine gc_kk (gr_q0 hT) ?_
          refine gc_ck j_4564 (by decide) ?_
          refine gc_lti (lo := 48) (hi := 2147483647) (gb_ie ex_20.symm j_4578) (fun x_28 ex_28 ix_28 => ?_)
          refine gc_lti (lo := (-2147483648)) (hi := 2147483647) (gb_it _) (fun x_29 ex_29 ix_29 => ?_)
          refine gc_lti (lo := 1) (hi := 600) (gb_iadd (lo := 1) (hi := 600) j_4564 (gb_ic (a := 1) (by decide)) (by decide)) (fun x_30 ex_30 ix_30 => ?_)
          exact ih _ _ _ _ _ hT iv1 iv2 (gb_iw (lo := 0) (hi := 600) ix_30 (by decide)) (gb_it _) (gb_mup ex_30 j_4564 (by decide) hm)
set_option maxHeartbeats 4000000 in
theorem cr_Reader_takeNumber {n : Nat} (hn : gb_N ≤ n) {σ : gb_S} {p1 : Int32} {p2 : Int32} (hT : gb_TR σ) (ip1 : gb_iv 0 17 p1) (ip2 : gb_iv 0 4 p2) : gb_tc (cs_Reader_takeNumber n σ p1 p2) (fun s r => gb_TR s ∧ gb_iv 0 1 r) := by
  unfold cs_Reader_takeNumber
  refine gc_lti (lo := 0) (hi := 600) (gr_rd (c := 12) (lo := 0) (hi := 600) hT (rfl : gc_cat 106 = 12) (by decide)) (fun x_1 ex_1 ix_1 => ?_)
  exact cr_Reader_takeNumber_8 hn (fun _ _ hT h => ⟨hT, h⟩) n _ _ _ _ _ hT ip1 ip2 ix_1 (gb_iw (lo := (-2147483648)) (hi := 2147483647) (gb_ic (a := 0) (by decide)) (by decide)) (gb_fuu hn ix_1 (by decide))
set_option maxHeartbeats 4000000 in
theorem cr_Reader_readLine_S_38 {n : Nat} (hn : gb_N ≤ n) {Q : gb_S → Int32 → Prop} (hret : ∀ (σ : gb_S) (r : Int32), gb_TR σ → gb_iv 0 1 r → Q σ r) : ∀ (mm : Nat) (σ : gb_S) (v2 : Nat) (v4 : Int32) (v5 : Int32), gb_TR σ → gb_kS v2 = true → gb_iv 0 17 v4 → gb_iv 0 5 v5 → (5 - v5.toInt).toNat < mm → gb_tc (cs_Reader_readLine_S_38 n mm σ v2 v4 v5) Q := by
  intro mm
  induction mm with
  | zero =>
    intro σ v2 v4 v5 hT hv2 iv4 iv5 hm
    exact absurd hm (Nat.not_lt_zero _)
  | succ mm ih =>
    intro σ v2 v4 v5 hT hv2 iv4 iv5 hm
    rw [cs_Reader_readLine_S_38]
    refine gc_ck iv4 (by decide) ?_
    refine gc_lti (lo := 0) (hi := 5) (gt_b1 _) (fun x_14 ex_14 ix_14 => ?_)
    refine gc_if (fun c_7310 => ?_) (fun c_7310 => ?_)
    · refine gr_cdT (cr_Reader_skipBlanks hn hT) (fun s_16 u_7311 hTs_16 _ => ?_)
      refine gc_if (fun c_7312 => ?_) (fun c_7312 => ?_)
      · exact gc_some (hret _ _ hTs_16 (gb_iw (lo := 0) (hi := 1) (gb_ic (a := 0) (by decide)) (by decide)))
      · have j_7313 : gb_iv 0 599 (s_16.1 106 3) := (gb_rU (lo := 0) (hi := 599) (gb_dnle c_7312) (gr_rd (c := 12) (lo := 0) (hi := 600) hTs_16 (rfl : gc_cat 106 = 12) (by decide)) (gr_rd (c := 12) (lo := 0) (hi := 600) hTs_16 (rfl : gc_cat 106 = 12) (by decide)) (by decide))
        have j_7314 : gb_iv 1 600 (s_16.1 106 2) := (gb_rL (lo := 1) (hi := 600) (gb_dnle c_7312) (gr_rd (c := 12) (lo := 0) (hi := 600) hTs_16 (rfl : gc_cat 106 = 12) (by decide)) j_7313 (by decide))
        refine gc_kk (gr_q0 hTs_16) ?_
        refine gc_ck j_7313 (by decide) ?_
        refine gc_lti (lo := (-2147483648)) (hi := 2147483647) (gb_it _) (fun x_23 ex_23 ix_23 => ?_)
        refine gc_if (fun c_7315 => ?_) (fun c_7315 => ?_)
        · have j_7316 : gb_iv (-2147483648) 59 x_23 := (gb_rU (lo := (-2147483648)) (hi := 59) (gb_deq c_7315) (gb_it _) (gb_ic (a := 59) (by decide)) (by decide))
          have j_7317 : gb_iv 59 59 x_23 := (gb_rL (lo := 59) (hi := 59) (gb_deq2 c_7315) j_7316 (gb_ic (a := 59) (by decide)) (by decide))
          refine gr_ltT (gr_su (c := 12) (lo := 0) (hi := 600) hTs_16 (rfl : gc_cat 106 = 12) (gb_iw (lo := 0) (hi := 600) (gb_iadd (lo := 1) (hi := 600) j_7313 (gb_ic (a := 1) (by decide)) (by decide)) (by decide)) (by decide)) (fun s_25 es_25 hTs_25 => ?_)
          refine gc_if (fun c_7318 => ?_) (fun c_7318 => ?_)
          · refine gr_cdT (cr_Border_addLine_B_c107 hn hTs_25 c_7318) (fun s_27 u_7319 hTs_27 _ => ?_)
            exact gc_some (hret _ _ hTs_27 (gb_iw (lo := 0) (hi := 1) (gb_ic (a := 1) (by decide)) (by decide)))
          · refine gc_if (fun c_7320 => ?_) (fun c_7320 => ?_)
            · refine gr_cdT (cr_Lines_addLine_N_c107 hn hTs_25 c_7320) (fun s_32 u_7321 hTs_32 _ => ?_)
              exact gc_some (hret _ _ hTs_32 (gb_iw (lo := 0) (hi := 1) (gb_ic (a := 1) (by decide)) (by decide)))
            · refine gc_if (fun c_7322 => ?_) (fun c_7322 => ?_)
              · refine gr_cdT (cr_Lines_addLine_L_c107 hn hTs_25 c_7322) (fun s_37 u_7323 hTs_37 _ => ?_)
                exact gc_some (hret _ _ hTs_37 (gb_iw (lo := 0) (hi := 1) (gb_ic (a := 1) (by decide)) (by decide)))
              · refine gc_if (fun c_7324 => ?_) (fun c_7324 => ?_)
                · refine gr_cdT (cr_Lines_addLine_D_c107 hn hTs_25 c_7324) (fun s_42 u_7325 hTs_42 _ => ?_)
                  exact gc_some (hret _ _ hTs_42 (gb_iw (lo := 0) (hi := 1) (gb_ic (a := 1) (by decide)) (by decide)))
                · exact (gb_kS_no hv2 c_7318 c_7320 c_7322 c_7324).elim
        · exact gc_some (hret _ _ hTs_16 (gb_iw (lo := 0) (hi := 1) (gb_ic (a := 0) (by decide)) (by decide)))
    · have j_7326 : gb_iv 0 4 v5 := (gb_rU (lo := 0) (hi := 4) (gb_dnle c_7310) iv5 ix_14 (by decide))
      have j_7327 : gb_iv 1 5 x_14 := (gb_rL (lo := 1) (hi := 5) (gb_dnle c_7310) ix_14 j_7326 (by decide))
      refine gr_cdT (cr_Reader_skipBlanks hn hT) (fun s_46 u_7328 hTs_46 _ => ?_)
      refine gr_cdT (cr_Reader_takeNumber hn hTs_46 iv4 j_7326) (fun s_50 r_51 hTs_50 h_7329 => ?_)
      refine gc_if (fun c_7330 => ?_) (fun c_7330 => ?_)
      · have j_7331 : gb_iv 0 0 r_51 := (gb_rU (lo := 0) (hi := 0) (gb_deq c_7330) h_7329 (gb_ic (a := 0) (by decide)) (by decide))
        exact gc_some (hret _ _ hTs_50 (gb_iw (lo := 0) (hi := 1) (gb_ic (a := 0) (by decide)) (by decide)))
      · have j_7332 : gb_iv 1 1 r_51 := (gb_rN (lo := 1) (hi := 1) (v := 0) c_7330 h_7329 (by decide) (by decide))
        refine gc_lti (lo := 1) (hi := 5) (gb_iadd (lo := 1) (hi := 5) j_7326 (gb_ic (a := 1) (by decide)) (by decide)) (fun x_55 ex_55 ix_55 => ?_)
        exact ih _ _ _ _ hTs_50 hv2 iv4 (gb_iw (lo := 0) (hi := 5) ix_55 (by decide)) (gb_mup ex_55 j_7326 (by decide) hm)
set_option maxHeartbeats 4000000 in
theorem cr_Reader_readLine_S {n : Nat} (hn : gb_N ≤ n) {σ : gb_S} {p1 : Int32} {p2 : Nat} (hT : gb_TR σ) (hp2 : gb_kS p2 = true) (ip1 : gb_iv 0 3 p1) : gb_tc (cs_Reader_readLine_S n σ p1 p2) (fun s r => gb_TR s ∧ gb_iv 0 1 r) := by
  unfold cs_Reader_readLine_S
  refine gc_lti (lo := 0) (hi := 600) (gr_rd (c := 12) (lo := 0) (hi := 600) hT (rfl : gc_cat 106 = 12) (by decide)) (fun x_1 ex_1 ix_1 => ?_)
  refine gr_cdT (cr_Reader_takeWord hn hT ip1) (fun s_2 r_3 hTs_2 h_7002 => ?_)
  refine gc_if (fun c_7003 => ?_) (fun c_7003 => ?_)
  · have j_7004 : gb_iv (-1) (-1) r_3 := (gb_rU (lo := (-1)) (hi := (-1)) (gb_deq c_7003) h_7002 (gb_ic (a := (-1)) (by decide)) (by decide))
    exact gc_some ⟨hTs_2, (gb_iw (lo := 0) (hi := 1) (gb_ic (a := 0) (by decide)) (by decide))⟩
  · have j_7005 : gb_iv 0 17 r_3 := (gb_rN (lo := 0) (hi := 17) (v := (-1)) c_7003 h_7002 (by decide) (by decide))
    refine gc_if (fun c_7006 => ?_) (fun c_7006 => ?_)
    · refine gc_cdP (cr_Border_hasRoomFor_B hn hTs_2 c_7006) (fun r_9 qr_9 h_7007 => ?_)
      refine gc_if (fun c_7008 => ?_) (fun c_7008 => ?_)
      · have j_7009 : gb_iv 0 0 r_9 := (gb_rU (lo := 0) (hi := 0) (gb_deq c_7008) h_7007 (gb_ic (a := 0) (by decide)) (by decide))
        refine gr_cdT (cr_Reader_note hn hTs_2) (fun s_56 u_7010 hTs_56 _ => ?_)
        exact cr_Reader_readLine_S_38 hn (fun _ _ hT h => ⟨hT, h⟩) n _ _ _ _ hTs_56 hp2 j_7005 (gb_iw (lo := 0) (hi := 5) (gb_ic (a := 0) (by decide)) (by decide)) (gb_fuu hn (gb_iw (lo := 0) (hi := 5) (gb_ic (a := 0) (by decide)) (by decide)) (by decide))
      · have j_7333 : gb_iv 1 1 r_9 := (gb_rN (lo := 1) (hi := 1) (v := 0) c_7008 h_7007 (by decide) (by decide))
        exact cr_Reader_readLine_S_38 hn (fun _ _ hT h => ⟨hT, h⟩) n _ _ _ _ hTs_2 hp2 j_7005 (gb_iw (lo := 0) (hi := 5) (gb_ic (a := 0) (by decide)) (by decide)) (gb_fuu hn (gb_iw (lo := 0) (hi := 5) (gb_ic (a := 0) (by decide)) (by decide)) (by decide))
    · refine gc_if (fun c_7633 => ?_) (fun c_7633 => ?_)
      · refine gc_cdP (cr_Lines_hasRoomFor_N hn hTs_2 c_7633) (fun r_62 qr_62 h_7634 => ?_)
        refine gc_if (fun c_7635 => ?_) (fun c_7635 => ?_)
        · have j_7636 : gb_iv 0 0 r_62 := (gb_rU (lo := 0) (hi := 0) (gb_deq c_7635) h_7634 (gb_ic (a := 0) (by decide)) (by decide))
          refine gr_cdT (cr_Reader_note hn hTs_2) (fun s_66 u_7637 hTs_66 _ => ?_)
          exact cr_Reader_readLine_S_38 hn (fun _ _ hT h => ⟨hT, h⟩) n _ _ _ _ hTs_66 hp2 j_7005 (gb_iw (lo := 0) (hi := 5) (gb_ic (a := 0) (by decide)) (by decide)) (gb_fuu hn (gb_iw (lo := 0) (hi := 5) (gb_ic (a := 0) (by decide)) (by decide)) (by decide))
        · have j_7937 : gb_iv 1 1 r_62 := (gb_rN (lo := 1) (hi := 1) (v := 0) c_7635 h_7634 (by decide) (by decide))
          exact cr_Reader_readLine_S_38 hn (fun _ _ hT h => ⟨hT, h⟩) n _ _ _ _ hTs_2 hp2 j_7005 (gb_iw (lo := 0) (hi := 5) (gb_ic (a := 0) (by decide)) (by decide)) (gb_fuu hn (gb_iw (lo := 0) (hi := 5) (gb_ic (a := 0) (by decide)) (by decide)) (by decide))
      · refine gc_if (fun c_8237 => ?_) (fun c_8237 => ?_)
        · refine gc_cdP (cr_Lines_hasRoomFor_L hn hTs_2 c_8237) (fun r_72 qr_72 h_8238 => ?_)
          refine gc_if (fun c_8239 => ?_) (fun c_8239 => ?_)
          · have j_8240 : gb_iv 0 0 r_72 := (gb_rU (lo := 0) (hi := 0) (gb_deq c_8239) h_8238 (gb_ic (a := 0) (by decide)) (by decide))
            refine gr_cdT (cr_Reader_note hn hTs_2) (fun s_76 u_8241 hTs_76 _ => ?_)
            exact cr_Reader_readLine_S_38 hn (fun _ _ hT h => ⟨hT, h⟩) n _ _ _ _ hTs_76 hp2 j_7005 (gb_iw (lo := 0) (hi := 5) (gb_ic (a := 0) (by decide)) (by decide)) (gb_fuu hn (gb_iw (lo := 0) (hi := 5) (gb_ic (a := 0) (by decide)) (by decide)) (by decide))
          · have j_8541 : gb_iv 1 1 r_72 := (gb_rN (lo := 1) (hi := 1) (v := 0) c_8239 h_8238 (by decide) (by decide))
            exact cr_Reader_readLine_S_38 hn (fun _ _ hT h => ⟨hT, h⟩) n _ _ _ _ hTs_2 hp2 j_7005 (gb_iw (lo := 0) (hi := 5) (gb_ic (a := 0) (by decide)) (by decide)) (gb_fuu hn (gb_iw (lo := 0) (hi := 5) (gb_ic (a := 0) (by decide)) (by decide)) (by decide))
        · refine gc_if (fun c_8841 => ?_) (fun c_8841 => ?_)
          · refine gc_cdP (cr_Lines_hasRoomFor_D hn hTs_2 c_8841) (fun r_82 qr_82 h_8842 => ?_)
            refine gc_if (fun c_8843 => ?_) (fun c_8843 => ?_)
            · have j_8844 : gb_iv 0 0 r_82 := (gb_rU (lo := 0) (hi := 0) (gb_deq c_8843) h_8842 (gb_ic (a := 0) (by decide)) (by decide))
              refine gr_cdT (cr_Reader_note hn hTs_2) (fun s_86 u_8845 hTs_86 _ => ?_)
              exact cr_Reader_readLine_S_38 hn (fun _ _ hT h => ⟨hT, h⟩) n _ _ _ _ hTs_86 hp2 j_7005 (gb_iw (lo := 0) (hi := 5) (gb_ic (a := 0) (by decide)) (by decide)) (gb_fuu hn (gb_iw (lo := 0) (hi := 5) (gb_ic (a := 0) (by decide)) (by decide)) (by decide))
            · have j_9145 : gb_iv 1 1 r_82 := (gb_rN (lo := 1) (hi := 1) (v := 0) c_8843 h_8842 (by decide) (by decide))
              exact cr_Reader_readLine_S_38 hn (fun _ _ hT h => ⟨hT, h⟩) n _ _ _ _ hTs_2 hp2 j_7005 (gb_iw (lo := 0) (hi := 5) (gb_ic (a := 0) (by decide)) (by decide)) (gb_fuu hn (gb_iw (lo := 0) (hi := 5) (gb_ic (a := 0) (by decide)) (by decide)) (by decide))
          · exact (gb_kS_no hp2 c_7006 c_7633 c_8237 c_8841).elim
set_option maxHeartbeats 4000000 in
theorem cr_Reader_read_c23_S_42 {n : Nat} (hn : gb_N ≤ n) {Q : gb_S → Unit → Prop} (hret : ∀ (σ : gb_S) (r : Unit), gb_TR σ → True → Q σ r) : ∀ (mm : Nat) (σ : gb_S) (v3 : Int32) (v4 : Nat) (v5 : Int32), gb_TR σ → gb_kS v4 = true → gb_iv 0 3 v3 → gb_iv 0 600 v5 → (600 - v5.toInt).toNat < mm → gb_tc (cs_Reader_read_c23_S_42 n mm σ v3 v4 v5) Q := by
  intro mm
  induction mm with
  | zero =>
    intro σ v3 v4 v5 hT hv4 iv3 iv5 hm
    exact absurd hm (Nat.not_lt_zero _)
  | succ mm ih =>
    intro σ v3 v4 v5 hT hv4 iv3 iv5 hm
    rw [cs_Reader_read_c23_S_42]
    refine gc_if (fun c_10469 => ?_) (fun c_10469 => ?_)
    · have j_10470 : gb_iv 600 600 v5 := (gb_rL (lo := 600) (hi := 600) (gb_dle c_10469) iv5 (gb_ic (a := 600) (by decide)) (by decide))
      refine gc_if (fun c_10471 => ?_) (fun c_10471 => ?_)
      · have j_10472 : gb_iv (-2147483648) 0 (σ.1 106 4) := (gb_rU (lo := (-2147483648)) (hi := 0) (gb_deq c_10471) (gb_it _) (gb_ic (a := 0) (by decide)) (by decide))
        have j_10473 : gb_iv 0 0 (σ.1 106 4) := (gb_rL (lo := 0) (hi := 0) (gb_deq2 c_10471) j_10472 (gb_ic (a := 0) (by decide)) (by decide))
        refine gc_if (fun c_10474 => ?_) (fun c_10474 => ?_)
        · refine gc_cdP (cr_Border_clashes_B hn hT c_10474) (fun r_20 qr_20 h_10475 => ?_)
          refine gc_if (fun c_10476 => ?_) (fun c_10476 => ?_)
          · exact gc_some (hret _ _ hT trivial)
          · exact (gb_em (gb_rN (lo := 1) (hi := (-1)) (v := 0) c_10476 h_10475 (by decide) (by decide)) (by decide)).elim
        · refine gc_if (fun c_10477 => ?_) (fun c_10477 => ?_)
          · refine gc_cdP (cr_Lines_clashes_N hn hT c_10477) (fun r_30 qr_30 h_10478 => ?_)
            refine gc_if (fun c_10479 => ?_) (fun c_10479 => ?_)
            · exact gc_some (hret _ _ hT trivial)
            · exact (gb_em (gb_rN (lo := 1) (hi := (-1)) (v := 0) c_10479 h_10478 (by decide) (by decide)) (by decide)).elim
          · refine gc_if (fun c_10480 => ?_) (fun c_10480 => ?_)
            · refine gc_cdP (cr_Lines_clashes_L hn hT c_10480) (fun r_40 qr_40 h_10481 => ?_)
              refine gc_if (fun c_10482 => ?_) (fun c_10482 => ?_)
              · exact gc_some (hret _ _ hT trivial)
              · exact (gb_em (gb_rN (lo := 1) (hi := (-1)) (v := 0) c_10482 h_10481 (by decide) (by decide)) (by decide)).elim
            · refine gc_if (fun c_10483 => ?_) (fun c_10483 => ?_)
              · refine gc_cdP (cr_Dawn_clashes_D hn hT c_10483) (fun r_50 qr_50 h_10484 => ?_)
                refine gc_if (fun c_10485 => ?_) (fun c_10485 => ?_)
                · have j_10486 : gb_iv 0 0 r_50 := (gb_rU (lo := 0) (hi := 0) (gb_deq c_10485) h_10484 (gb_ic (a := 0) (by decide)) (by decide))
                  exact gc_some (hret _ _ hT trivial)
                · have j_10487 : gb_iv 1 1 r_50 := (gb_rN (lo := 1) (hi := 1) (v := 0) c_10485 h_10484 (by decide) (by decide))
                  refine gr_cdT (cr_Reader_note hn hT) (fun s_54 u_10488 hTs_54 _ => ?_)
                  exact gc_some (hret _ _ hTs_54 trivial)
              · exact (gb_kS_no hv4 c_10474 c_10477 c_10480 c_10483).elim
      · exact gc_some (hret _ _ hT trivial)
    · have j_10489 : gb_iv 0 599 v5 := (gb_rU (lo := 0) (hi := 599) (gb_dnle c_10469) iv5 (gb_ic (a := 600) (by decide)) (by decide))
      refine gc_if (fun c_10490 => ?_) (fun c_10490 => ?_)
      · refine gc_if (fun c_10491 => ?_) (fun c_10491 => ?_)
        · have j_10492 : gb_iv (-2147483648) 0 (σ.1 106 4) := (gb_rU (lo := (-2147483648)) (hi := 0) (gb_deq c_10491) (gb_it _) (gb_ic (a := 0) (by decide)) (by decide))
          have j_10493 : gb_iv 0 0 (σ.1 106 4) := (gb_rL (lo := 0) (hi := 0) (gb_deq2 c_10491) j_10492 (gb_ic (a := 0) (by decide)) (by decide))
          refine gc_if (fun c_10494 => ?_) (fun c_10494 => ?_)
          · refine gc_cdP (cr_Border_clashes_B hn hT c_10494) (fun r_62 qr_62 h_10495 => ?_)
            refine gc_if (fun c_10496 => ?_) (fun c_10496 => ?_)
            · exact gc_some (hret _ _ hT trivial)
            · exact (gb_em (gb_rN (lo := 1) (hi := (-1)) (v := 0) c_10496 h_10495 (by decide) (by decide)) (by decide)).elim
          · refine gc_if (fun c_10497 => ?_) (fun c_10497 => ?_)
            · refine gc_cdP (cr_Lines_clashes_N hn hT c_10497) (fun r_72 qr_72 h_10498 => ?_)
              refine gc_if (fun c_10499 => ?_) (fun c_10499 => ?_)
              · exact gc_some (hret _ _ hT trivial)
              · exact (gb_em (gb_rN (lo := 1) (hi := (-1)) (v := 0) c_10499 h_10498 (by decide) (by decide)) (by decide)).elim
            · refine gc_if (fun c_10500 => ?_) (fun c_10500 => ?_)
              · refine gc_cdP (cr_Lines_clashes_L hn hT c_10500) (fun r_82 qr_82 h_10501 => ?_)
                refine gc_if (fun c_10502 => ?_) (fun c_10502 => ?_)
                · exact gc_some (hret _ _ hT trivial)
                · exact (gb_em (gb_rN (lo := 1) (hi := (-1)) (v := 0) c_10502 h_10501 (by decide) (by decide)) (by decide)).elim
              · refine gc_if (fun c_10503 => ?_) (fun c_10503 => ?_)
                · refine gc_cdP (cr_Dawn_clashes_D hn hT c_10503) (fun r_92 qr_92 h_10504 => ?_)
                  refine gc_if (fun c_10505 => ?_) (fun c_10505 => ?_)
                  · have j_10506 : gb_iv 0 0 r_92 := (gb_rU (lo := 0) (hi := 0) (gb_deq c_10505) h_10504 (gb_ic (a := 0) (by decide)) (by decide))
                    exact gc_some (hret _ _ hT trivial)
                  · have j_10507 : gb_iv 1 1 r_92 := (gb_rN (lo := 1) (hi := 1) (v := 0) c_10505 h_10504 (by decide) (by decide))
                    refine gr_cdT (cr_Reader_note hn hT) (fun s_96 u_10508 hTs_96 _ => ?_)
                    exact gc_some (hret _ _ hTs_96 trivial)
                · exact (gb_kS_no hv4 c_10494 c_10497 c_10500 c_10503).elim
        · exact gc_some (hret _ _ hT trivial)
      · have j_10509 : gb_iv 0 599 (σ.1 106 3) := (gb_rU (lo := 0) (hi := 599) (gb_dnle c_10490) (gr_rd (c := 12) (lo := 0) (hi := 600) hT (rfl : gc_cat 106 = 12) (by decide)) (gr_rd (c := 12) (lo := 0) (hi := 600) hT (rfl : gc_cat 106 = 12) (by decide)) (by decide))
        have j_10510 : gb_iv 1 600 (σ.1 106 2) := (gb_rL (lo := 1) (hi := 600) (gb_dnle c_10490) (gr_rd (c := 12) (lo := 0) (hi := 600) hT (rfl : gc_cat 106 = 12) (by decide)) j_10509 (by decide))
        refine gr_cdT (cr_Reader_readLine_S hn hT hv4 iv3) (fun s_100 r_101 hTs_100 h_10511 => ?_)
        refine gc_if (fun c_10512 => ?_) (fun c_10512 => ?_)
        · have j_10513 : gb_iv 0 0 r_101 := (gb_rU (lo := 0) (hi := 0) (gb_deq c_10512) h_10511 (gb_ic (a := 0) (by decide)) (by decide))
          refine gr_ltT (gr_su (c := 12) (lo := (-2147483648)) (hi := 2147483647) hTs_100 (rfl : gc_cat 106 = 12) (gb_iw (lo := (-2147483648)) (hi := 2147483647) (gb_ic (a := 1) (by decide)) (by decide)) (by decide)) (fun s_110 es_110 hTs_110 => ?_)
          refine gr_ltT (gr_su (c := 12) (lo := (-2147483648)) (hi := 2147483647) hTs_110 (rfl : gc_cat 106 = 12) (gb_iw (lo := (-2147483648)) (hi := 2147483647) (gr_rd (c := 12) (lo := 0) (hi := 600) hTs_110 (rfl : gc_cat 106 = 12) (by decide)) (by decide)) (by decide)) (fun s_111 es_111 hTs_111 => ?_)
          exact gc_some (hret _ _ hTs_111 trivial)
        · have j_10514 : gb_iv 1 1 r_101 := (gb_rN (lo := 1) (hi := 1) (v := 0) c_10512 h_10511 (by decide) (by decide))
          refine gr_cdT (cr_Reader_skipBlanks hn hTs_100) (fun s_105 u_10515 hTs_105 _ => ?_)
          refine gc_lti (lo := 1) (hi := 600) (gb_iadd (lo := 1) (hi := 600) j_10489 (gb_ic (a := 1) (by decide)) (by decide)) (fun x_109 ex_109 ix_109 => ?_)
          exact ih _ _ _ _ hTs_105 hv4 iv3 (gb_iw (lo := 0) (hi := 600) ix_109 (by decide)) (gb_mup ex_109 j_10489 (by decide) hm)
set_option maxHeartbeats 4000000 in
theorem cr_readAll {n : Nat} (hn : gb_N ≤ n) {σ : gb_S} {v3 : Int32} {v4 : Nat} (hT : gb_TR σ) (hv4 : gb_kS v4 = true) (iv3 : gb_iv 0 3 v3) : gb_tc (cs_Reader_read_c23_S_42 n n σ v3 v4 0) (fun s _ => gb_TR s ∧ True) := by
  exact cr_Reader_read_c23_S_42 hn (fun _ _ hT h => ⟨hT, h⟩) n _ _ _ _ hT hv4 iv3 (gb_iw (lo := 0) (hi := 600) (gb_ic (a := 0) (by decide)) (by decide)) (gb_fuu hn (gb_iw (lo := 0) (hi := 600) (gb_ic (a := 0) (by decide)) (by decide)) (by decide))
