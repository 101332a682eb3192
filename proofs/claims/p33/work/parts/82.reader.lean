/-! THE CLASS: the Reader, by hand -/
def gb_TR (σ : gb_S) : Prop := gb_TC σ ∧ gb_kY (σ.2.1 0) = true
theorem gr_q0 {σ : gb_S} (h : gb_TR σ) : gb_kY (σ.2.1 0) = true := h.2
theorem gr_rd {σ : gb_S} {k j c : Nat} {lo hi : Int} (h : gb_TR σ) (e : gc_cat k = c) (q : lo ≤ (gc_ty c j).1 ∧ (gc_ty c j).2 ≤ hi) : gb_iv lo hi (σ.1 k j) := gc_rd h.1 e q
theorem gr_su {σ : gb_S} {k i c : Nat} {v : Int32} {lo hi : Int} (h : gb_TR σ) (e : gc_cat k = c) (hv : gb_iv lo hi v) (q : (gc_ty c i).1 ≤ lo ∧ hi ≤ (gc_ty c i).2) : gb_TR (gb_su σ k (upd (σ.1 k) i v)) := ⟨gc_su h.1 e hv q, h.2⟩
theorem gr_su0 {σ : gb_S} {k i : Nat} {v : Int32} (h : gb_TR σ) (e : gc_cat k = 0) : gb_TR (gb_su σ k (upd (σ.1 k) i v)) := ⟨gc_su0 h.1 e, h.2⟩
theorem gr_ltT {ρ : Type} {v : gb_S} {k : gb_S → gb_CR ρ} {Q : gb_S → ρ → Prop} (h : gb_TR v) (H : ∀ s, s = v → gb_TR s → gb_tc (k s) Q) : gb_tc (gb_lt v k) Q := H v rfl h
theorem gr_cdT {ρ τ : Type} {x : gb_CR ρ} {k : gb_S → ρ → gb_CR τ} {R : ρ → Prop} {Q : gb_S → τ → Prop} (h : gb_tc x (fun s r => gb_TR s ∧ R r)) (H : ∀ s r, gb_TR s → R r → gb_tc (k s r) Q) : gb_tc (gb_cd x k) Q := by
  obtain ⟨s, r, e, hf, hp⟩ := h
  rw [e]
  exact H s r hf hp
def gb_kS (k : Nat) : Bool := gb_kB k || gb_kN k || gb_kL k || gb_kD k
theorem gb_kS_no {k : Nat} (h : gb_kS k = true) (h1 : ¬ gb_kB k = true) (h2 : ¬ gb_kN k = true) (h3 : ¬ gb_kL k = true) (h4 : ¬ gb_kD k = true) : False := by
  unfold gb_kS at h
  rw [Bool.eq_false_iff.mpr h1, Bool.eq_false_iff.mpr h2, Bool.eq_false_iff.mpr h3, Bool.eq_false_iff.mpr h4] at h
  cases h
theorem gt_b0 (k : Nat) : gb_iv 0 18 (gb_tb0 k) := by
  unfold gb_tb0
  match k with
  | 0 => exact ⟨by decide, by decide⟩
  | 1 => exact ⟨by decide, by decide⟩
  | 2 => exact ⟨by decide, by decide⟩
  | 3 => exact ⟨by decide, by decide⟩
  | 4 => exact ⟨by decide, by decide⟩
  | k + 5 =>
    show gb_iv 0 18 (0 : Int32)
    exact ⟨by decide, by decide⟩
theorem gt_b1 (k : Nat) : gb_iv 0 5 (gb_tb1 k) := by
  unfold gb_tb1
  match k with
  | 0 => exact ⟨by decide, by decide⟩
  | 1 => exact ⟨by decide, by decide⟩
  | 2 => exact ⟨by decide, by decide⟩
  | 3 => exact ⟨by decide, by decide⟩
  | 4 => exact ⟨by decide, by decide⟩
  | 5 => exact ⟨by decide, by decide⟩
  | 6 => exact ⟨by decide, by decide⟩
  | 7 => exact ⟨by decide, by decide⟩
  | 8 => exact ⟨by decide, by decide⟩
  | 9 => exact ⟨by decide, by decide⟩
  | 10 => exact ⟨by decide, by decide⟩
  | 11 => exact ⟨by decide, by decide⟩
  | 12 => exact ⟨by decide, by decide⟩
  | 13 => exact ⟨by decide, by decide⟩
  | 14 => exact ⟨by decide, by decide⟩
  | 15 => exact ⟨by decide, by decide⟩
  | 16 => exact ⟨by decide, by decide⟩
  | 17 => exact ⟨by decide, by decide⟩
  | k + 18 =>
    show gb_iv 0 5 (0 : Int32)
    exact ⟨by decide, by decide⟩
/-! words -/
theorem ct_wordOf {n : Nat} {σ : gb_S} {p1 : Int32} : gb_tc (cs_Reader_wordOf n σ p1) (fun s r => s = σ ∧ gb_kW r = true) := by
  unfold cs_Reader_wordOf
  refine gc_if (fun _ => gc_some ⟨rfl, rfl⟩) (fun _ => ?_)
  refine gc_if (fun _ => gc_some ⟨rfl, rfl⟩) (fun _ => ?_)
  refine gc_if (fun _ => gc_some ⟨rfl, rfl⟩) (fun _ => ?_)
  refine gc_if (fun _ => gc_some ⟨rfl, rfl⟩) (fun _ => ?_)
  refine gc_if (fun _ => gc_some ⟨rfl, rfl⟩) (fun _ => ?_)
  refine gc_if (fun _ => gc_some ⟨rfl, rfl⟩) (fun _ => ?_)
  refine gc_if (fun _ => gc_some ⟨rfl, rfl⟩) (fun _ => ?_)
  refine gc_if (fun _ => gc_some ⟨rfl, rfl⟩) (fun _ => ?_)
  refine gc_if (fun _ => gc_some ⟨rfl, rfl⟩) (fun _ => ?_)
  refine gc_if (fun _ => gc_some ⟨rfl, rfl⟩) (fun _ => ?_)
  refine gc_if (fun _ => gc_some ⟨rfl, rfl⟩) (fun _ => ?_)
  refine gc_if (fun _ => gc_some ⟨rfl, rfl⟩) (fun _ => ?_)
  refine gc_if (fun _ => gc_some ⟨rfl, rfl⟩) (fun _ => ?_)
  refine gc_if (fun _ => gc_some ⟨rfl, rfl⟩) (fun _ => ?_)
  refine gc_if (fun _ => gc_some ⟨rfl, rfl⟩) (fun _ => ?_)
  refine gc_if (fun _ => gc_some ⟨rfl, rfl⟩) (fun _ => ?_)
  refine gc_if (fun _ => gc_some ⟨rfl, rfl⟩) (fun _ => ?_)
  exact gc_some ⟨rfl, rfl⟩
def gb_ln (k : Nat) : Nat := gb_slen.getD k 0
theorem gb_ln_le : ∀ k, k < 18 → 1 ≤ gb_ln k ∧ gb_ln k ≤ 6 := by decide +kernel
theorem gb_ofN {m : Nat} (h : m ≤ 6) : (Int32.ofNat m).toInt = m := Int32.toInt_ofNat_of_lt (by omega)
theorem ct_strlen {n : Nat} {σ : gb_S} {k : Nat} (hk : gb_kW k = true) : gb_tc (cs_java_lang_String_length_W n σ k) (fun s r => s = σ ∧ r.toInt = gb_ln k) := by
  unfold cs_java_lang_String_length_W cs_java_lang_String_coder_W
  have h := gb_ln_le k (gb_kW_lt hk)
  refine gc_kk hk ?_
  refine gc_cdP (σ := σ) (R := fun r => r = 0) ?_ (fun r _ hr => gc_some ⟨rfl, ?_⟩)
  · refine gc_kk hk ?_
    rw [if_neg (by decide)]
    exact gc_some ⟨rfl, rfl⟩
  · rw [hr]
    have e : (Int32.ofNat (gb_slen.getD k 0)) >>> ((0 : Int32) &&& 31) = Int32.ofNat (gb_ln k) := sc_shr0 (n := gb_ln k) (by omega)
    rw [e]
    exact gb_ofN h.2
theorem ct_charAt {n : Nat} {σ : gb_S} {k : Nat} {p : Int32} (hk : gb_kW k = true) (h0 : 0 ≤ p.toInt) (hl : p.toInt < gb_ln k) : gb_tc (cs_java_lang_String_charAt_W n σ k p) (fun s r => s = σ ∧ True) := by
  have h := gb_ln_le k (gb_kW_lt hk)
  have z0 : (0 : Int32).toInt = 0 := by decide
  have el : (Int32.ofNat (gb_slen.getD k 0)).toInt = gb_ln k := gb_ofN h.2
  have hv : gb_kV k = true := hk
  unfold cs_java_lang_String_charAt_W cs_java_lang_String_isLatin1_W
  refine gc_kk hk ?_
  refine gc_cdP (σ := σ) (R := fun r => r = 1) ?_ (fun r _ hr => ?_)
  · refine gc_kk hk ?_
    rw [if_neg (by decide), if_pos rfl]
    exact gc_some ⟨rfl, rfl⟩
  rw [if_neg (by rw [hr]; decide)]
  unfold cs_java_lang_StringLatin1_charAt_V cs_java_lang_String_checkIndex cs_jdk_internal_util_Preconditions_checkIndex_n
  rw [if_neg (fun q => by have := gb_dlt q; omega), if_pos (Int32.lt_iff_toInt_lt.mpr (by rw [el]; exact hl))]
  refine gc_cdP (σ := σ) (R := fun r => (r.toUInt32 % 65536).toInt32 = r) ?_ (fun r2 _ hr2 => ?_)
  · refine gc_kk hv ?_
    refine gc_ck (a := 0) (b := (gb_ln k : Int) - 1) ⟨h0, by omega⟩ ⟨Int.le_refl _, by show (gb_ln k : Int) - 1 < ((gb_slen.getD k 0 : Nat) : Int); unfold gb_ln; omega⟩ (gc_some ⟨rfl, ?_⟩)
    rw [sc_c2, sc_c2]
  · unfold gb_cc
    rw [if_pos hr2]
    exact gc_some ⟨rfl, trivial⟩
set_option maxHeartbeats 4000000 in
theorem ct_isWord_17 {n : Nat} {σ : gb_S} {k : Nat} (hT : gb_TR σ) (hk : gb_kW k = true) (hl : (σ.1 106 3).toInt + gb_ln k ≤ 600) : ∀ (mm : Nat) (v3 : Int32), gb_iv 0 6 v3 → (6 - v3.toInt).toNat < mm → gb_tc (cs_Reader_isWord_W_17 n mm σ k v3) (fun s r => s = σ ∧ gb_iv 0 1 r) := by
  have h := gb_ln_le k (gb_kW_lt hk)
  have ia : gb_iv 0 600 (σ.1 106 3) := gr_rd (c := 12) hT rfl (by decide)
  intro mm
  induction mm with
  | zero =>
    intro v3 i3 hm
    exact absurd hm (Nat.not_lt_zero _)
  | succ mm ih =>
    intro v3 i3 hm
    rw [cs_Reader_isWord_W_17]
    refine gc_kk hk (gc_cdP (ct_strlen hk) (fun r _ hr => gc_if (fun _ => gc_some ⟨rfl, by decide, by decide⟩) (fun c => ?_)))
    have hc := gb_dnle c
    have h3 := i3.1
    have h4 := ia.1
    have i3' : gb_iv 0 5 v3 := ⟨h3, by omega⟩
    have ei : ((σ.1 106 3) + v3).toInt = (σ.1 106 3).toInt + v3.toInt := gb_tadd (by omega) (by omega)
    refine gc_kk hT.2 (gc_ck (a := 0) (b := 599) ⟨by omega, by omega⟩ (by decide) (gc_lt (fun x ex => ?_)))
    refine gc_cdP (ct_charAt hk h3 (by omega)) (fun r2 _ _ => gc_if (fun _ => gc_lt (fun y ey => ih y ?_ (gb_mup ey i3' (by decide) hm))) (fun _ => gc_some ⟨rfl, by decide, by decide⟩))
    rw [ey]
    exact gb_iw (gb_iadd (lo := 1) (hi := 6) i3' (gb_ic (a := 1) (by decide)) (by decide)) (by decide)
theorem ct_isWord {n : Nat} (hn : gb_N ≤ n) {σ : gb_S} {k : Nat} {p2 : Int32} (hT : gb_TR σ) (hk : gb_kW k = true) (i2 : gb_iv 0 600 p2) : gb_tc (cs_Reader_isWord_W n σ k p2) (fun s r => s = σ ∧ gb_iv 0 1 r) := by
  unfold cs_Reader_isWord_W
  have ia : gb_iv 0 600 (σ.1 106 3) := gr_rd (c := 12) hT rfl (by decide)
  refine gc_kk hk (gc_cdP (ct_strlen hk) (fun r _ hr => gc_if (fun c => ?_) (fun _ => gc_some ⟨rfl, by decide, by decide⟩)))
  have e1 : (p2 - (σ.1 106 3)).toInt = p2.toInt - (σ.1 106 3).toInt := gb_tsub (by have := ia.2; have := i2.1; omega) (by have := ia.1; have := i2.2; omega)
  rw [c, hr] at e1
  have i0 : gb_iv 0 6 (0 : Int32) := gb_iw (gb_ic (a := 0) (by decide)) (by decide)
  have h2 := i2.2
  exact ct_isWord_17 hT hk (by omega) n 0 i0 (gb_fuu hn i0 (by decide))
/-! lines -/
theorem gr_suI {σ : gb_S} {k c : Nat} {i v : Int32} {a b : Int} (h : gb_TR σ) (e : gc_cat k = c) (hc : c = 2 ∨ c = 3 ∨ c = 4) (hi : gb_iv a b i) (ha : 1 ≤ a) : gb_TR (gb_su σ k (upd (σ.1 k) (Int32.toNatClampNeg i) v)) := by
  refine gr_su (c := c) (lo := -2147483648) (hi := 2147483647) h e (gb_it v) ?_
  have hz : ¬ Int32.toNatClampNeg i = 0 := by
    have := gb_cl hi (by omega)
    have := hi.1
    omega
  rcases hc with rfl | rfl | rfl
  · show (if Int32.toNatClampNeg i = 0 then ((0, 24) : Int × Int) else (-2147483648, 2147483647)).1 ≤ _ ∧ _ ≤ (if Int32.toNatClampNeg i = 0 then ((0, 24) : Int × Int) else (-2147483648, 2147483647)).2
    rw [if_neg hz]
    exact ⟨Int.le_refl _, Int.le_refl _⟩
  · show (if Int32.toNatClampNeg i = 0 then ((0, 8) : Int × Int) else (-2147483648, 2147483647)).1 ≤ _ ∧ _ ≤ (if Int32.toNatClampNeg i = 0 then ((0, 8) : Int × Int) else (-2147483648, 2147483647)).2
    rw [if_neg hz]
    exact ⟨Int.le_refl _, Int.le_refl _⟩
  · show (if Int32.toNatClampNeg i = 0 then ((0, 5) : Int × Int) else (-2147483648, 2147483647)).1 ≤ _ ∧ _ ≤ (if Int32.toNatClampNeg i = 0 then ((0, 5) : Int × Int) else (-2147483648, 2147483647)).2
    rw [if_neg hz]
    exact ⟨Int.le_refl _, Int.le_refl _⟩
theorem gr_cpyB {σ : gb_S} {k d m : Nat} {p : Int32} {a b : Int} (h : gb_TR σ) (e : gc_cat k = 1) (hi : gb_iv a b p) (ha : 2 ≤ a) : gb_TR (gb_su σ k (va_cpy (σ.1 107) (σ.1 k) d (Int32.toNatClampNeg p) m)) ∧ (∀ j, j < 2 → (gb_su σ k (va_cpy (σ.1 107) (σ.1 k) d (Int32.toNatClampNeg p) m)).1 k j = σ.1 k j) := by
  have hz : 2 ≤ Int32.toNatClampNeg p := by
    have := gb_cl hi (by omega)
    have := hi.1
    omega
  have hq : ∀ j, j < 2 → (gb_su σ k (va_cpy (σ.1 107) (σ.1 k) d (Int32.toNatClampNeg p) m)).1 k j = σ.1 k j := fun j hj => by
    show gb_u σ.1 k (va_cpy (σ.1 107) (σ.1 k) d (Int32.toNatClampNeg p) m) k j = _
    unfold gb_u va_cpy
    rw [if_pos rfl, if_neg (by omega)]
  refine ⟨⟨⟨fun k3 j => ?_, h.1.2⟩, h.2⟩, hq⟩
  by_cases c2 : k3 = k
  · rw [c2, e]
    by_cases hj : j < 2
    · rw [hq j hj]
      have := h.1.1 k j
      rw [e] at this
      exact this
    · show gb_iv (if j = 0 then ((0, 5) : Int × Int) else if j = 1 then (0, 8) else (-2147483648, 2147483647)).1 (if j = 0 then ((0, 5) : Int × Int) else if j = 1 then (0, 8) else (-2147483648, 2147483647)).2 _
      rw [if_neg (by omega), if_neg (by omega)]
      exact gb_it _
  · show gb_iv _ _ (gb_u σ.1 k _ k3 j)
    unfold gb_u
    rw [if_neg c2]
    exact h.1.1 k3 j
set_option maxHeartbeats 4000000 in
theorem cr_Border_addLine_B_c107 {n : Nat} (hn : gb_N ≤ n) {σ : gb_S} {k0 : Nat} {p1 : Int32} (hT : gb_TR σ) (hk0 : gb_kB k0 = true) : gb_tc (cs_Border_addLine_B_c107 n σ k0 p1) (fun s _ => gb_TR s ∧ True) := by
  have ok : ∀ {s : gb_S}, gb_TR s → gb_tc (some (s, ()) : gb_CR Unit) (fun s _ => gb_TR s ∧ True) := fun h => gc_some ⟨h, trivial⟩
  have cB := gc_catB hk0
  have i0 : gb_iv 0 5 (σ.1 (k0 + 1) 0) := gr_rd (c := 1) hT cB (by decide)
  have i1 : gb_iv 0 8 (σ.1 (k0 + 1) 1) := gr_rd (c := 1) hT cB (by decide)
  have c5 : (5 : Int32).toInt = 5 := by decide
  have c8 : (8 : Int32).toInt = 8 := by decide
  have pE : gb_tc (cs_Border_paths_B n σ k0) (fun s r => s = σ ∧ r = σ.1 (k0 + 1) 0) := by
    unfold cs_Border_paths_B
    exact gc_kk hk0 (gc_lt (fun x e => gc_some ⟨rfl, e⟩))
  have gE : gb_tc (cs_Border_geese_B n σ k0) (fun s r => s = σ ∧ r = σ.1 (k0 + 1) 1) := by
    unfold cs_Border_geese_B
    exact gc_kk hk0 (gc_lt (fun x e => gc_some ⟨rfl, e⟩))
  have room : gb_tc (cs_Border_hasRoomFor_B n σ k0 p1) (fun s r => s = σ ∧ (¬ r = 0 → (p1 = 0 → (σ.1 (k0 + 1) 0).toInt ≤ 4) ∧ (p1 = 1 → (σ.1 (k0 + 1) 1).toInt ≤ 7))) := by
    unfold cs_Border_hasRoomFor_B
    refine gc_kk hk0 (gc_if (fun c => gc_some ⟨rfl, fun _ => ⟨fun q => absurd (q.symm.trans c) (by decide), fun q => absurd (q.symm.trans c) (by decide)⟩⟩) (fun c => gc_if (fun c2 => ?_) (fun c2 => ?_)))
    · refine gc_cdP pE (fun r _ hr => gc_if (fun _ => gc_some ⟨rfl, fun q => absurd rfl q⟩) (fun c3 => gc_some ⟨rfl, fun _ => ⟨fun _ => ?_, fun q => absurd (q.symm.trans c2) (by decide)⟩⟩))
      have := gb_dnle c3
      rw [hr] at this
      omega
    · refine gc_cdP gE (fun r _ hr => gc_if (fun _ => gc_some ⟨rfl, fun q => absurd rfl q⟩) (fun c3 => gc_some ⟨rfl, fun _ => ⟨fun q => absurd q c2, fun _ => ?_⟩⟩))
      have := gb_dnle c3
      rw [hr] at this
      omega
  unfold cs_Border_addLine_B_c107
  refine gc_kk hk0 (gc_cdP room (fun r _ hr => gc_if (fun _ => ok hT) (fun c => ?_)))
  have hr2 := hr c
  refine gc_if (fun _ => gc_lt (fun x ex => gr_ltT (gr_su (c := 1) (lo := -2147483648) (hi := 2147483647) hT cB (gb_it _) (by decide)) (fun s2 e2 hT2 => ok hT2))) (fun _ => ?_)
  refine gc_if (fun cp => ?_) (fun _ => gc_if (fun cp => ?_) (fun _ => ok hT))
  · have hl := hr2.1 cp
    refine gc_cdP pE (fun q _ hq => ?_)
    have iq : gb_iv 0 4 q := by
      rw [hq]
      exact ⟨i0.1, hl⟩
    have id := gb_iadd (lo := 3) (hi := 15) (gb_ic (x := 3) (a := 3) (by decide)) (gb_imul (lo := 0) (hi := 12) iq (gb_ic (x := 3) (a := 3) (by decide)) (by decide)) (by decide)
    refine gc_ac (gb_ic (a := 0) (by decide)) id (gb_ic (a := 3) (by decide)) (by decide) ?_
    obtain ⟨hT2, he⟩ := gr_cpyB (d := Int32.toNatClampNeg 0) (m := Int32.toNatClampNeg 3) hT cB id (by decide)
    refine gr_ltT hT2 (fun s2 e2 hT2 => gc_lt (fun x ex => ?_))
    have ix : gb_iv 0 4 x := by
      rw [ex, e2]
      have := he 0 (by decide)
      show gb_iv 0 4 ((gb_su σ (k0 + 1) _).1 (k0 + 1) 0)
      rw [this, ← hq]
      exact iq
    exact gr_ltT (gr_su (c := 1) (lo := 1) (hi := 5) hT2 cB (gb_iadd (lo := 1) (hi := 5) ix (gb_ic (a := 1) (by decide)) (by decide)) (by decide)) (fun s3 e3 hT3 => ok hT3)
  · have hl := hr2.2 cp
    refine gc_cdP gE (fun q _ hq => ?_)
    have iq : gb_iv 0 7 q := by
      rw [hq]
      exact ⟨i1.1, hl⟩
    have id := gb_iadd (lo := 18) (hi := 53) (gb_ic (x := 18) (a := 18) (by decide)) (gb_imul (lo := 0) (hi := 35) iq (gb_ic (x := 5) (a := 5) (by decide)) (by decide)) (by decide)
    refine gc_ac (gb_ic (a := 0) (by decide)) id (gb_ic (a := 5) (by decide)) (by decide) ?_
    obtain ⟨hT2, he⟩ := gr_cpyB (d := Int32.toNatClampNeg 0) (m := Int32.toNatClampNeg 5) hT cB id (by decide)
    refine gr_ltT hT2 (fun s2 e2 hT2 => gc_lt (fun x ex => ?_))
    have ix : gb_iv 0 7 x := by
      rw [ex, e2]
      have := he 1 (by decide)
      show gb_iv 0 7 ((gb_su σ (k0 + 1) _).1 (k0 + 1) 1)
      rw [this, ← hq]
      exact iq
    exact gr_ltT (gr_su (c := 1) (lo := 1) (hi := 8) hT2 cB (gb_iadd (lo := 1) (hi := 8) ix (gb_ic (a := 1) (by decide)) (by decide)) (by decide)) (fun s3 e3 hT3 => ok hT3)
set_option maxHeartbeats 4000000 in
theorem cr_addLine48_N {n : Nat} {k0 : Nat} (hk0 : gb_kN k0 = true) {v1 v3 : Int32} (i1 : gb_iv 0 17 v1) (i3 : gb_iv 1 93 v3) : ∀ (mm : Nat) (σ : gb_S) (v4 : Int32), gb_TR σ → (σ.1 (k0 + 1) 0).toInt ≤ 23 → gb_iv 0 3 v4 → (3 - v4.toInt).toNat < mm → gb_tc (cs_Lines_addLine_N_c107_48 n mm σ k0 v1 v3 v4) (fun s _ => gb_TR s ∧ True) := by
  have cN := gc_catN hk0
  intro mm
  induction mm with
  | zero =>
    intro σ v4 hT hl i4 hm
    exact absurd hm (Nat.not_lt_zero _)
  | succ mm ih =>
    intro σ v4 hT hl i4 hm
    rw [cs_Lines_addLine_N_c107_48]
    have i0 : gb_iv 0 24 (σ.1 (k0 + 1) 0) := gr_rd (c := 2) hT cN (by decide)
    refine gc_kk hk0 (gc_if (fun _ => gc_lt (fun x ex => ?_)) (fun c => ?_))
    · have ix : gb_iv 0 23 x := by
        rw [ex]
        exact ⟨i0.1, hl⟩
      exact gr_ltT (gr_su (c := 2) (lo := 1) (hi := 24) hT cN (gb_iadd (lo := 1) (hi := 24) ix (gb_ic (a := 1) (by decide)) (by decide)) (by decide)) (fun s3 e3 hT3 => gc_some ⟨hT3, trivial⟩)
    · have i4' : gb_iv 0 2 v4 := gb_rU (s := 1) (gb_dnle c) i4 (gb_ic (a := 3) (by decide)) (by decide)
      have st : ∀ x : Int32, x = v4 + 1 → gb_iv 0 3 x := fun x e => by
        rw [e]
        exact gb_iw (gb_iadd (lo := 1) (hi := 3) i4' (gb_ic (a := 1) (by decide)) (by decide)) (by decide)
      have ia := gb_iadd (lo := 2) (hi := 96) (gb_iadd (lo := 2) (hi := 94) i3 (gb_ic (x := 1) (a := 1) (by decide)) (by decide)) i4' (by decide)
      have keep : ∀ v : Int32, (gb_su σ (k0 + 1) (upd (σ.1 (k0 + 1)) (Int32.toNatClampNeg ((v3 + 1) + v4)) v)).1 (k0 + 1) 0 = σ.1 (k0 + 1) 0 := fun v => by
        have hz : (0 : Nat) ≠ Int32.toNatClampNeg ((v3 + 1) + v4) := by
          have := gb_cl ia (by decide)
          have := ia.1
          omega
        show gb_u σ.1 (k0 + 1) _ (k0 + 1) 0 = _
        unfold gb_u
        rw [if_pos rfl, pk_un hz]
      have go : ∀ v : Int32, gb_tc (gb_ck ((v3 + 1) + v4) 97 (gb_lt (gb_su σ (k0 + 1) (upd (σ.1 (k0 + 1)) (Int32.toNatClampNeg ((v3 + 1) + v4)) v)) (fun s_29 => gb_lt (v4 + 1) (fun x_30 => cs_Lines_addLine_N_c107_48 n mm s_29 k0 v1 v3 x_30)))) (fun s _ => gb_TR s ∧ True) := fun v => by
        refine gc_ck ia (by decide) (gr_ltT (gr_suI (c := 2) hT cN (by decide) ia (by decide)) (fun s2 e2 hT2 => gc_lt (fun y ey => ?_)))
        exact ih s2 y hT2 (by rw [e2, keep]; exact hl) (st y ey) (gb_mup ey i4' (by decide) hm)
      refine gc_ck i1 (by decide) (gc_lt (fun x ex => gc_if (fun _ => go (-1)) (fun _ => gc_ck (gb_iw (lo := 0) (hi := 4) i4' (by decide)) (by decide) (gc_lt (fun y ey => go y)))))
set_option maxHeartbeats 4000000 in
theorem cr_Lines_addLine_N_c107 {n : Nat} (hn : gb_N ≤ n) {σ : gb_S} {k0 : Nat} {p1 : Int32} (hT : gb_TR σ) (hk0 : gb_kN k0 = true) : gb_tc (cs_Lines_addLine_N_c107 n σ k0 p1) (fun s _ => gb_TR s ∧ True) := by
  have ok : ∀ {s : gb_S}, gb_TR s → gb_tc (some (s, ()) : gb_CR Unit) (fun s _ => gb_TR s ∧ True) := fun h => gc_some ⟨h, trivial⟩
  have cN := gc_catN hk0
  have i0 : gb_iv 0 24 (σ.1 (k0 + 1) 0) := gr_rd (c := 2) hT cN (by decide)
  have sE : gb_tc (cs_Lines_size_N n σ k0) (fun s r => s = σ ∧ r = σ.1 (k0 + 1) 0) := by
    unfold cs_Lines_size_N
    exact gc_kk hk0 (gc_lt (fun x e => gc_some ⟨rfl, e⟩))
  have room : gb_tc (cs_Lines_hasRoomFor_N n σ k0 p1) (fun s r => s = σ ∧ (¬ r = 0 → (σ.1 (k0 + 1) 0).toInt ≤ 23)) := by
    unfold cs_Lines_hasRoomFor_N
    refine gc_kk hk0 (gc_cdP sE (fun r _ hr => gc_if (fun _ => gc_some ⟨rfl, fun q => absurd rfl q⟩) (fun c => gc_some ⟨rfl, fun _ => ?_⟩)))
    have := gb_dnle c
    have z : (24 : Int32).toInt = 24 := by decide
    rw [hr] at this
    omega
  unfold cs_Lines_addLine_N_c107
  refine gc_kk hk0 (gc_cdP room (fun r _ hr => gc_if (fun _ => ok hT) (fun c => gc_if (fun _ => ok hT) (fun c2 => gc_if (fun c3 => ?_) (fun _ => ok hT)))))
  have hl := hr c
  have i1 : gb_iv 0 17 p1 := by
    have h1 := gb_dnlt c2
    have h2 := gb_dlt c3
    have z0 : (0 : Int32).toInt = 0 := by decide
    have z1 : (18 : Int32).toInt = 18 := by decide
    exact ⟨by omega, by omega⟩
  refine gc_cdP sE (fun q _ hq => ?_)
  have iq : gb_iv 0 23 q := by
    rw [hq]
    exact ⟨i0.1, hl⟩
  have ix := gb_iadd (lo := 1) (hi := 93) (gb_ic (x := 1) (a := 1) (by decide)) (gb_imul (lo := 0) (hi := 92) iq (gb_ic (x := (3 : Int32) + 1) (a := 4) (by decide)) (by decide)) (by decide)
  refine gc_lti ix (fun x ex ix => gc_ck ix (by decide) (gr_ltT (gr_suI (c := 2) hT cN (by decide) ix (by decide)) (fun s2 e2 hT2 => ?_)))
  have i00 : gb_iv 0 3 (0 : Int32) := gb_iw (gb_ic (a := 0) (by decide)) (by decide)
  refine cr_addLine48_N hk0 i1 ix n s2 0 hT2 ?_ i00 (gb_fuu hn i00 (by decide))
  have hz : (0 : Nat) ≠ Int32.toNatClampNeg x := by
    have := gb_cl ix (by decide)
    have := ix.1
    omega
  have e0 : s2.1 (k0 + 1) 0 = σ.1 (k0 + 1) 0 := by
    rw [e2]
    show gb_u σ.1 (k0 + 1) _ (k0 + 1) 0 = _
    unfold gb_u
    rw [if_pos rfl, pk_un hz]
  rw [e0]
  exact hl
set_option maxHeartbeats 4000000 in
theorem cr_addLine48_L {n : Nat} {k0 : Nat} (hk0 : gb_kL k0 = true) {v1 v3 : Int32} (i1 : gb_iv 0 17 v1) (i3 : gb_iv 1 22 v3) : ∀ (mm : Nat) (σ : gb_S) (v4 : Int32), gb_TR σ → (σ.1 (k0 + 1) 0).toInt ≤ 7 → gb_iv 0 2 v4 → (2 - v4.toInt).toNat < mm → gb_tc (cs_Lines_addLine_L_c107_48 n mm σ k0 v1 v3 v4) (fun s _ => gb_TR s ∧ True) := by
  have cN := gc_catL hk0
  intro mm
  induction mm with
  | zero =>
    intro σ v4 hT hl i4 hm
    exact absurd hm (Nat.not_lt_zero _)
  | succ mm ih =>
    intro σ v4 hT hl i4 hm
    rw [cs_Lines_addLine_L_c107_48]
    have i0 : gb_iv 0 8 (σ.1 (k0 + 1) 0) := gr_rd (c := 3) hT cN (by decide)
    refine gc_kk hk0 (gc_if (fun _ => gc_lt (fun x ex => ?_)) (fun c => ?_))
    · have ix : gb_iv 0 7 x := by
        rw [ex]
        exact ⟨i0.1, hl⟩
      exact gr_ltT (gr_su (c := 3) (lo := 1) (hi := 8) hT cN (gb_iadd (lo := 1) (hi := 8) ix (gb_ic (a := 1) (by decide)) (by decide)) (by decide)) (fun s3 e3 hT3 => gc_some ⟨hT3, trivial⟩)
    · have i4' : gb_iv 0 1 v4 := gb_rU (s := 1) (gb_dnle c) i4 (gb_ic (a := 2) (by decide)) (by decide)
      have st : ∀ x : Int32, x = v4 + 1 → gb_iv 0 2 x := fun x e => by
        rw [e]
        exact gb_iw (gb_iadd (lo := 1) (hi := 2) i4' (gb_ic (a := 1) (by decide)) (by decide)) (by decide)
      have ia := gb_iadd (lo := 2) (hi := 24) (gb_iadd (lo := 2) (hi := 23) i3 (gb_ic (x := 1) (a := 1) (by decide)) (by decide)) i4' (by decide)
      have keep : ∀ v : Int32, (gb_su σ (k0 + 1) (upd (σ.1 (k0 + 1)) (Int32.toNatClampNeg ((v3 + 1) + v4)) v)).1 (k0 + 1) 0 = σ.1 (k0 + 1) 0 := fun v => by
        have hz : (0 : Nat) ≠ Int32.toNatClampNeg ((v3 + 1) + v4) := by
          have := gb_cl ia (by decide)
          have := ia.1
          omega
        show gb_u σ.1 (k0 + 1) _ (k0 + 1) 0 = _
        unfold gb_u
        rw [if_pos rfl, pk_un hz]
      have go : ∀ v : Int32, gb_tc (gb_ck ((v3 + 1) + v4) 25 (gb_lt (gb_su σ (k0 + 1) (upd (σ.1 (k0 + 1)) (Int32.toNatClampNeg ((v3 + 1) + v4)) v)) (fun s_29 => gb_lt (v4 + 1) (fun x_30 => cs_Lines_addLine_L_c107_48 n mm s_29 k0 v1 v3 x_30)))) (fun s _ => gb_TR s ∧ True) := fun v => by
        refine gc_ck ia (by decide) (gr_ltT (gr_suI (c := 3) hT cN (by decide) ia (by decide)) (fun s2 e2 hT2 => gc_lt (fun y ey => ?_)))
        exact ih s2 y hT2 (by rw [e2, keep]; exact hl) (st y ey) (gb_mup ey i4' (by decide) hm)
      refine gc_ck i1 (by decide) (gc_lt (fun x ex => gc_if (fun _ => go (-1)) (fun _ => gc_ck (gb_iw (lo := 0) (hi := 4) i4' (by decide)) (by decide) (gc_lt (fun y ey => go y)))))
set_option maxHeartbeats 4000000 in
theorem cr_Lines_addLine_L_c107 {n : Nat} (hn : gb_N ≤ n) {σ : gb_S} {k0 : Nat} {p1 : Int32} (hT : gb_TR σ) (hk0 : gb_kL k0 = true) : gb_tc (cs_Lines_addLine_L_c107 n σ k0 p1) (fun s _ => gb_TR s ∧ True) := by
  have ok : ∀ {s : gb_S}, gb_TR s → gb_tc (some (s, ()) : gb_CR Unit) (fun s _ => gb_TR s ∧ True) := fun h => gc_some ⟨h, trivial⟩
  have cN := gc_catL hk0
  have i0 : gb_iv 0 8 (σ.1 (k0 + 1) 0) := gr_rd (c := 3) hT cN (by decide)
  have sE : gb_tc (cs_Lines_size_L n σ k0) (fun s r => s = σ ∧ r = σ.1 (k0 + 1) 0) := by
    unfold cs_Lines_size_L
    exact gc_kk hk0 (gc_lt (fun x e => gc_some ⟨rfl, e⟩))
  have room : gb_tc (cs_Lines_hasRoomFor_L n σ k0 p1) (fun s r => s = σ ∧ (¬ r = 0 → (σ.1 (k0 + 1) 0).toInt ≤ 7)) := by
    unfold cs_Lines_hasRoomFor_L
    refine gc_kk hk0 (gc_cdP sE (fun r _ hr => gc_if (fun _ => gc_some ⟨rfl, fun q => absurd rfl q⟩) (fun c => gc_some ⟨rfl, fun _ => ?_⟩)))
    have := gb_dnle c
    have z : (8 : Int32).toInt = 8 := by decide
    rw [hr] at this
    omega
  unfold cs_Lines_addLine_L_c107
  refine gc_kk hk0 (gc_cdP room (fun r _ hr => gc_if (fun _ => ok hT) (fun c => gc_if (fun _ => ok hT) (fun c2 => gc_if (fun c3 => ?_) (fun _ => ok hT)))))
  have hl := hr c
  have i1 : gb_iv 0 17 p1 := by
    have h1 := gb_dnlt c2
    have h2 := gb_dlt c3
    have z0 : (0 : Int32).toInt = 0 := by decide
    have z1 : (18 : Int32).toInt = 18 := by decide
    exact ⟨by omega, by omega⟩
  refine gc_cdP sE (fun q _ hq => ?_)
  have iq : gb_iv 0 7 q := by
    rw [hq]
    exact ⟨i0.1, hl⟩
  have ix := gb_iadd (lo := 1) (hi := 22) (gb_ic (x := 1) (a := 1) (by decide)) (gb_imul (lo := 0) (hi := 21) iq (gb_ic (x := (2 : Int32) + 1) (a := 3) (by decide)) (by decide)) (by decide)
  refine gc_lti ix (fun x ex ix => gc_ck ix (by decide) (gr_ltT (gr_suI (c := 3) hT cN (by decide) ix (by decide)) (fun s2 e2 hT2 => ?_)))
  have i00 : gb_iv 0 2 (0 : Int32) := gb_iw (gb_ic (a := 0) (by decide)) (by decide)
  refine cr_addLine48_L hk0 i1 ix n s2 0 hT2 ?_ i00 (gb_fuu hn i00 (by decide))
  have hz : (0 : Nat) ≠ Int32.toNatClampNeg x := by
    have := gb_cl ix (by decide)
    have := ix.1
    omega
  have e0 : s2.1 (k0 + 1) 0 = σ.1 (k0 + 1) 0 := by
    rw [e2]
    show gb_u σ.1 (k0 + 1) _ (k0 + 1) 0 = _
    unfold gb_u
    rw [if_pos rfl, pk_un hz]
  rw [e0]
  exact hl
set_option maxHeartbeats 4000000 in
theorem cr_addLine48_D {n : Nat} {k0 : Nat} (hk0 : gb_kD k0 = true) {v1 v3 : Int32} (i1 : gb_iv 0 17 v1) (i3 : gb_iv 1 13 v3) : ∀ (mm : Nat) (σ : gb_S) (v4 : Int32), gb_TR σ → (σ.1 (k0 + 1) 0).toInt ≤ 4 → gb_iv 0 2 v4 → (2 - v4.toInt).toNat < mm → gb_tc (cs_Lines_addLine_D_c107_48 n mm σ k0 v1 v3 v4) (fun s _ => gb_TR s ∧ True) := by
  have cN := gc_catD hk0
  intro mm
  induction mm with
  | zero =>
    intro σ v4 hT hl i4 hm
    exact absurd hm (Nat.not_lt_zero _)
  | succ mm ih =>
    intro σ v4 hT hl i4 hm
    rw [cs_Lines_addLine_D_c107_48]
    have i0 : gb_iv 0 5 (σ.1 (k0 + 1) 0) := gr_rd (c := 4) hT cN (by decide)
    refine gc_kk hk0 (gc_if (fun _ => gc_lt (fun x ex => ?_)) (fun c => ?_))
    · have ix : gb_iv 0 4 x := by
        rw [ex]
        exact ⟨i0.1, hl⟩
      exact gr_ltT (gr_su (c := 4) (lo := 1) (hi := 5) hT cN (gb_iadd (lo := 1) (hi := 5) ix (gb_ic (a := 1) (by decide)) (by decide)) (by decide)) (fun s3 e3 hT3 => gc_some ⟨hT3, trivial⟩)
    · have i4' : gb_iv 0 1 v4 := gb_rU (s := 1) (gb_dnle c) i4 (gb_ic (a := 2) (by decide)) (by decide)
      have st : ∀ x : Int32, x = v4 + 1 → gb_iv 0 2 x := fun x e => by
        rw [e]
        exact gb_iw (gb_iadd (lo := 1) (hi := 2) i4' (gb_ic (a := 1) (by decide)) (by decide)) (by decide)
      have ia := gb_iadd (lo := 2) (hi := 15) (gb_iadd (lo := 2) (hi := 14) i3 (gb_ic (x := 1) (a := 1) (by decide)) (by decide)) i4' (by decide)
      have keep : ∀ v : Int32, (gb_su σ (k0 + 1) (upd (σ.1 (k0 + 1)) (Int32.toNatClampNeg ((v3 + 1) + v4)) v)).1 (k0 + 1) 0 = σ.1 (k0 + 1) 0 := fun v => by
        have hz : (0 : Nat) ≠ Int32.toNatClampNeg ((v3 + 1) + v4) := by
          have := gb_cl ia (by decide)
          have := ia.1
          omega
        show gb_u σ.1 (k0 + 1) _ (k0 + 1) 0 = _
        unfold gb_u
        rw [if_pos rfl, pk_un hz]
      have go : ∀ v : Int32, gb_tc (gb_ck ((v3 + 1) + v4) 16 (gb_lt (gb_su σ (k0 + 1) (upd (σ.1 (k0 + 1)) (Int32.toNatClampNeg ((v3 + 1) + v4)) v)) (fun s_29 => gb_lt (v4 + 1) (fun x_30 => cs_Lines_addLine_D_c107_48 n mm s_29 k0 v1 v3 x_30)))) (fun s _ => gb_TR s ∧ True) := fun v => by
        refine gc_ck ia (by decide) (gr_ltT (gr_suI (c := 4) hT cN (by decide) ia (by decide)) (fun s2 e2 hT2 => gc_lt (fun y ey => ?_)))
        exact ih s2 y hT2 (by rw [e2, keep]; exact hl) (st y ey) (gb_mup ey i4' (by decide) hm)
      refine gc_ck i1 (by decide) (gc_lt (fun x ex => gc_if (fun _ => go (-1)) (fun _ => gc_ck (gb_iw (lo := 0) (hi := 4) i4' (by decide)) (by decide) (gc_lt (fun y ey => go y)))))
set_option maxHeartbeats 4000000 in
theorem cr_Lines_addLine_D_c107 {n : Nat} (hn : gb_N ≤ n) {σ : gb_S} {k0 : Nat} {p1 : Int32} (hT : gb_TR σ) (hk0 : gb_kD k0 = true) : gb_tc (cs_Lines_addLine_D_c107 n σ k0 p1) (fun s _ => gb_TR s ∧ True) := by
  have ok : ∀ {s : gb_S}, gb_TR s → gb_tc (some (s, ()) : gb_CR Unit) (fun s _ => gb_TR s ∧ True) := fun h => gc_some ⟨h, trivial⟩
  have cN := gc_catD hk0
  have i0 : gb_iv 0 5 (σ.1 (k0 + 1) 0) := gr_rd (c := 4) hT cN (by decide)
  have sE : gb_tc (cs_Lines_size_D n σ k0) (fun s r => s = σ ∧ r = σ.1 (k0 + 1) 0) := by
    unfold cs_Lines_size_D
    exact gc_kk hk0 (gc_lt (fun x e => gc_some ⟨rfl, e⟩))
  have room : gb_tc (cs_Lines_hasRoomFor_D n σ k0 p1) (fun s r => s = σ ∧ (¬ r = 0 → (σ.1 (k0 + 1) 0).toInt ≤ 4)) := by
    unfold cs_Lines_hasRoomFor_D
    refine gc_kk hk0 (gc_cdP sE (fun r _ hr => gc_if (fun _ => gc_some ⟨rfl, fun q => absurd rfl q⟩) (fun c => gc_some ⟨rfl, fun _ => ?_⟩)))
    have := gb_dnle c
    have z : (5 : Int32).toInt = 5 := by decide
    rw [hr] at this
    omega
  unfold cs_Lines_addLine_D_c107
  refine gc_kk hk0 (gc_cdP room (fun r _ hr => gc_if (fun _ => ok hT) (fun c => gc_if (fun _ => ok hT) (fun c2 => gc_if (fun c3 => ?_) (fun _ => ok hT)))))
  have hl := hr c
  have i1 : gb_iv 0 17 p1 := by
    have h1 := gb_dnlt c2
    have h2 := gb_dlt c3
    have z0 : (0 : Int32).toInt = 0 := by decide
    have z1 : (18 : Int32).toInt = 18 := by decide
    exact ⟨by omega, by omega⟩
  refine gc_cdP sE (fun q _ hq => ?_)
  have iq : gb_iv 0 4 q := by
    rw [hq]
    exact ⟨i0.1, hl⟩
  have ix := gb_iadd (lo := 1) (hi := 13) (gb_ic (x := 1) (a := 1) (by decide)) (gb_imul (lo := 0) (hi := 12) iq (gb_ic (x := (2 : Int32) + 1) (a := 3) (by decide)) (by decide)) (by decide)
  refine gc_lti ix (fun x ex ix => gc_ck ix (by decide) (gr_ltT (gr_suI (c := 4) hT cN (by decide) ix (by decide)) (fun s2 e2 hT2 => ?_)))
  have i00 : gb_iv 0 2 (0 : Int32) := gb_iw (gb_ic (a := 0) (by decide)) (by decide)
  refine cr_addLine48_D hk0 i1 ix n s2 0 hT2 ?_ i00 (gb_fuu hn i00 (by decide))
  have hz : (0 : Nat) ≠ Int32.toNatClampNeg x := by
    have := gb_cl ix (by decide)
    have := ix.1
    omega
  have e0 : s2.1 (k0 + 1) 0 = σ.1 (k0 + 1) 0 := by
    rw [e2]
    show gb_u σ.1 (k0 + 1) _ (k0 + 1) 0 = _
    unfold gb_u
    rw [if_pos rfl, pk_un hz]
  rw [e0]
  exact hl
set_option maxHeartbeats 4000000 in
theorem cr_skip0 {n : Nat} : ∀ (mm : Nat) (σ : gb_S), gb_TR σ → (600 - (σ.1 106 3).toInt).toNat < mm → gb_tc (cs_Reader_skipBlanks_0 n mm σ) (fun s _ => gb_TR s ∧ True) := by
  intro mm
  induction mm with
  | zero =>
    intro σ hT hm
    exact absurd hm (Nat.not_lt_zero _)
  | succ mm ih =>
    intro σ hT hm
    rw [cs_Reader_skipBlanks_0]
    have ia : gb_iv 0 600 (σ.1 106 3) := gr_rd (c := 12) hT rfl (by decide)
    have il : gb_iv 0 600 (σ.1 106 2) := gr_rd (c := 12) hT rfl (by decide)
    refine gc_if (fun _ => gc_some ⟨hT, trivial⟩) (fun c => ?_)
    have hc := gb_dnle c
    have h2 := il.2
    have ia' : gb_iv 0 599 (σ.1 106 3) := ⟨ia.1, by omega⟩
    obtain ⟨j1, j2⟩ := gb_inc ia'
    have h5 := ia'.2
    have go : ∀ s2 : gb_S, s2 = gb_su σ 106 (upd (σ.1 106) 3 ((σ.1 106 3) + 1)) → gb_tc (cs_Reader_skipBlanks_0 n mm s2) (fun s _ => gb_TR s ∧ True) := fun s2 e2 => by
      have e3 : s2.1 106 3 = σ.1 106 3 + 1 := by
        rw [e2]
        rfl
      refine ih s2 (by rw [e2]; exact gr_su (c := 12) (lo := 0) (hi := 600) hT rfl j1 (by decide)) ?_
      rw [e3, j2]
      omega
    refine gc_kk hT.2 (gc_ck ia' (by decide) (gc_lt (fun x ex => gc_if (fun _ => gc_lt (fun s2 e2 => go s2 e2)) (fun _ => gc_kk hT.2 (gc_ck ia' (by decide) (gc_lt (fun y ey => gc_if (fun _ => gc_lt (fun s2 e2 => go s2 e2)) (fun _ => gc_some ⟨hT, trivial⟩))))))))
theorem cr_Reader_skipBlanks {n : Nat} (hn : gb_N ≤ n) {σ : gb_S} (hT : gb_TR σ) : gb_tc (cs_Reader_skipBlanks n σ) (fun s _ => gb_TR s ∧ True) := by
  have ia : gb_iv 0 600 (σ.1 106 3) := gr_rd (c := 12) hT rfl (by decide)
  show gb_tc (cs_Reader_skipBlanks_0 n (n + 1) σ) _
  exact cr_skip0 (n + 1) σ hT (Nat.lt_succ_of_lt (gb_fuu (lo := 0) hn ia (by decide)))
/-! THE CLASS: the Reader (written by wip/tot) -/
set_option maxHeartbeats 4000000 in
theorem cr_Reader_note {n : Nat} (hn : gb_N ≤ n) {σ : gb_S} {p1 : Int32} {p2 : Int32} (hT : gb_TR σ) : gb_tc (cs_Reader_note n σ p1 p2) (fun s _ => gb_TR s ∧ True) := by
  unfold cs_Reader_note
  refine gc_if (fun c_4 => ?_) (fun c_4 => ?_)
  · have j_5 : gb_iv (-2147483648) 0 (σ.1 106 4) := (gb_rU (lo := (-2147483648)) (hi := 0) (gb_deq c_4) (gb_it _) (gb_ic (a := 0) (by decide)) (by decide))
    have j_6 : gb_iv 0 0 (σ.1 106 4) := (gb_rL (lo := 0) (hi := 0) (gb_deq2 c_4) j_5 (gb_ic (a := 0) (by decide)) (by decide))
    refine gr_ltT (gr_su (c := 12) (lo := (-2147483648)) (hi := 2147483647) hT (rfl : gc_cat 106 = 12) (gb_it _) (by decide)) (fun s_2 es_2 hTs_2 => ?_)
    refine gr_ltT (gr_su (c := 12) (lo := (-2147483648)) (hi := 2147483647) hTs_2 (rfl : gc_cat 106 = 12) (gb_it _) (by decide)) (fun s_3 es_3 hTs_3 => ?_)
    exact gc_some ⟨hTs_3, trivial⟩
  · exact gc_some ⟨hT, trivial⟩
set_option maxHeartbeats 4000000 in
theorem cr_Border_hasRoomFor_B {n : Nat} (hn : gb_N ≤ n) {σ : gb_S} {k0 : Nat} {p1 : Int32} (hT : gb_TR σ) (hk0 : gb_kB k0 = true) : gb_tc (cs_Border_hasRoomFor_B n σ k0 p1) (fun s r => s = σ ∧ gb_iv 0 1 r) := by
  unfold cs_Border_hasRoomFor_B
  refine gc_kk hk0 ?_
  refine gc_if (fun c_21 => ?_) (fun c_21 => ?_)
  · have j_22 : gb_iv (-2147483648) 2 p1 := (gb_rU (lo := (-2147483648)) (hi := 2) (gb_deq c_21) (gb_it _) (gb_ic (a := 2) (by decide)) (by decide))
    have j_23 : gb_iv 2 2 p1 := (gb_rL (lo := 2) (hi := 2) (gb_deq2 c_21) j_22 (gb_ic (a := 2) (by decide)) (by decide))
    exact gc_some ⟨rfl, (gb_iw (lo := 0) (hi := 1) (gb_ic (a := 1) (by decide)) (by decide))⟩
  · refine gc_if (fun c_24 => ?_) (fun c_24 => ?_)
    · have j_25 : gb_iv (-2147483648) 0 p1 := (gb_rU (lo := (-2147483648)) (hi := 0) (gb_deq c_24) (gb_it _) (gb_ic (a := 0) (by decide)) (by decide))
      have j_26 : gb_iv 0 0 p1 := (gb_rL (lo := 0) (hi := 0) (gb_deq2 c_24) j_25 (gb_ic (a := 0) (by decide)) (by decide))
      refine gc_cdP (ct_Border_paths_B hn hT.1 hk0) (fun r_10 qr_10 h_27 => ?_)
      refine gc_if (fun c_28 => ?_) (fun c_28 => ?_)
      · have j_29 : gb_iv 5 5 r_10 := (gb_rL (lo := 5) (hi := 5) (gb_dle c_28) h_27 (gb_ic (a := 5) (by decide)) (by decide))
        exact gc_some ⟨rfl, (gb_iw (lo := 0) (hi := 1) (gb_ic (a := 0) (by decide)) (by decide))⟩
      · have j_30 : gb_iv 0 4 r_10 := (gb_rU (lo := 0) (hi := 4) (gb_dnle c_28) h_27 (gb_ic (a := 5) (by decide)) (by decide))
        exact gc_some ⟨rfl, (gb_iw (lo := 0) (hi := 1) (gb_ic (a := 1) (by decide)) (by decide))⟩
    · refine gc_cdP (ct_Border_geese_B hn hT.1 hk0) (fun r_5 qr_5 h_31 => ?_)
      refine gc_if (fun c_32 => ?_) (fun c_32 => ?_)
      · have j_33 : gb_iv 8 8 r_5 := (gb_rL (lo := 8) (hi := 8) (gb_dle c_32) h_31 (gb_ic (a := 8) (by decide)) (by decide))
        exact gc_some ⟨rfl, (gb_iw (lo := 0) (hi := 1) (gb_ic (a := 0) (by decide)) (by decide))⟩
      · have j_34 : gb_iv 0 7 r_5 := (gb_rU (lo := 0) (hi := 7) (gb_dnle c_32) h_31 (gb_ic (a := 8) (by decide)) (by decide))
        exact gc_some ⟨rfl, (gb_iw (lo := 0) (hi := 1) (gb_ic (a := 1) (by decide)) (by decide))⟩
set_option maxHeartbeats 4000000 in
theorem cr_Lines_hasRoomFor_N {n : Nat} (hn : gb_N ≤ n) {σ : gb_S} {k0 : Nat} {p1 : Int32} (hT : gb_TR σ) (hk0 : gb_kN k0 = true) : gb_tc (cs_Lines_hasRoomFor_N n σ k0 p1) (fun s r => s = σ ∧ gb_iv 0 1 r) := by
  unfold cs_Lines_hasRoomFor_N
  refine gc_kk hk0 ?_
  refine gc_cdP (ct_Lines_size_N hn hT.1 hk0) (fun r_3 qr_3 h_39 => ?_)
  refine gc_if (fun c_40 => ?_) (fun c_40 => ?_)
  · have j_41 : gb_iv 24 24 r_3 := (gb_rL (lo := 24) (hi := 24) (gb_dle c_40) h_39 (gb_ic (a := 24) (by decide)) (by decide))
    exact gc_some ⟨rfl, (gb_iw (lo := 0) (hi := 1) (gb_ic (a := 0) (by decide)) (by decide))⟩
  · have j_42 : gb_iv 0 23 r_3 := (gb_rU (lo := 0) (hi := 23) (gb_dnle c_40) h_39 (gb_ic (a := 24) (by decide)) (by decide))
    exact gc_some ⟨rfl, (gb_iw (lo := 0) (hi := 1) (gb_ic (a := 1) (by decide)) (by decide))⟩
set_option maxHeartbeats 4000000 in
theorem cr_Lines_hasRoomFor_L {n : Nat} (hn : gb_N ≤ n) {σ : gb_S} {k0 : Nat} {p1 : Int32} (hT : gb_TR σ) (hk0 : gb_kL k0 = true) : gb_tc (cs_Lines_hasRoomFor_L n σ k0 p1) (fun s r => s = σ ∧ gb_iv 0 1 r) := by
  unfold cs_Lines_hasRoomFor_L
  refine gc_kk hk0 ?_
  refine gc_cdP (ct_Lines_size_L hn hT.1 hk0) (fun r_3 qr_3 h_47 => ?_)
  refine gc_if (fun c_48 => ?_) (fun c_48 => ?_)
  · have j_49 : gb_iv 8 8 r_3 := (gb_rL (lo := 8) (hi := 8) (gb_dle c_48) h_47 (gb_ic (a := 8) (by decide)) (by decide))
    exact gc_some ⟨rfl, (gb_iw (lo := 0) (hi := 1) (gb_ic (a := 0) (by decide)) (by decide))⟩
  · have j_50 : gb_iv 0 7 r_3 := (gb_rU (lo := 0) (hi := 7) (gb_dnle c_48) h_47 (gb_ic (a := 8) (by decide)) (by decide))
    exact gc_some ⟨rfl, (gb_iw (lo := 0) (hi := 1) (gb_ic (a := 1) (by decide)) (by decide))⟩
set_option maxHeartbeats 4000000 in
theorem cr_Lines_hasRoomFor_D {n : Nat} (hn : gb_N ≤ n) {σ : gb_S} {k0 : Nat} {p1 : Int32} (hT : gb_TR σ) (hk0 : gb_kD k0 = true) : gb_tc (cs_Lines_hasRoomFor_D n σ k0 p1) (fun s r => s = σ ∧ gb_iv 0 1 r) := by
  unfold cs_Lines_hasRoomFor_D
  refine gc_kk hk0 ?_
  refine gc_cdP (ct_Lines_size_D hn hT.1 hk0) (fun r_3 qr_3 h_55 => ?_)
  refine gc_if (fun c_56 => ?_) (fun c_56 => ?_)
  · have j_57 : gb_iv 5 5 r_3 := (gb_rL (lo := 5) (hi := 5) (gb_dle c_56) h_55 (gb_ic (a := 5) (by decide)) (by decide))
    exact gc_some ⟨rfl, (gb_iw (lo := 0) (hi := 1) (gb_ic (a := 0) (by decide)) (by decide))⟩
  · have j_58 : gb_iv 0 4 r_3 := (gb_rU (lo := 0) (hi := 4) (gb_dnle c_56) h_55 (gb_ic (a := 5) (by decide)) (by decide))
    exact gc_some ⟨rfl, (gb_iw (lo := 0) (hi := 1) (gb_ic (a := 1) (by decide)) (by decide))⟩
set_option maxHeartbeats 4000000 in
theorem cr_Border_clear_B {n : Nat} (hn : gb_N ≤ n) {σ : gb_S} {k0 : Nat} (hT : gb_TR σ) (hk0 : gb_kB k0 = true) : gb_tc (cs_Border_clear_B n σ k0) (fun s _ => gb_TR s ∧ True) := by
  unfold cs_Border_clear_B
  refine gc_kk hk0 ?_
  refine gr_ltT (gr_su (c := 1) (lo := 0) (hi := 5) hT (gc_catB hk0) (gb_iw (lo := 0) (hi := 5) (gb_ic (a := 0) (by decide)) (by decide)) (by decide)) (fun s_2 es_2 hTs_2 => ?_)
  refine gr_ltT (gr_su (c := 1) (lo := 0) (hi := 8) hTs_2 (gc_catB hk0) (gb_iw (lo := 0) (hi := 8) (gb_ic (a := 0) (by decide)) (by decide)) (by decide)) (fun s_3 es_3 hTs_3 => ?_)
  refine gr_ltT (gr_su (c := 1) (lo := (-2147483648)) (hi := 2147483647) hTs_3 (gc_catB hk0) (gb_iw (lo := (-2147483648)) (hi := 2147483647) (gb_ic (a := (-1)) (by decide)) (by decide)) (by decide)) (fun s_4 es_4 hTs_4 => ?_)
  exact gc_some ⟨hTs_4, trivial⟩
set_option maxHeartbeats 4000000 in
theorem cr_Lines_clear_N {n : Nat} (hn : gb_N ≤ n) {σ : gb_S} {k0 : Nat} (hT : gb_TR σ) (hk0 : gb_kN k0 = true) : gb_tc (cs_Lines_clear_N n σ k0) (fun s _ => gb_TR s ∧ True) := by
  unfold cs_Lines_clear_N
  refine gc_kk hk0 ?_
  refine gr_ltT (gr_su (c := 2) (lo := 0) (hi := 24) hT (gc_catN hk0) (gb_iw (lo := 0) (hi := 24) (gb_ic (a := 0) (by decide)) (by decide)) (by decide)) (fun s_2 es_2 hTs_2 => ?_)
  exact gc_some ⟨hTs_2, trivial⟩
set_option maxHeartbeats 4000000 in
theorem cr_Lines_clear_L {n : Nat} (hn : gb_N ≤ n) {σ : gb_S} {k0 : Nat} (hT : gb_TR σ) (hk0 : gb_kL k0 = true) : gb_tc (cs_Lines_clear_L n σ k0) (fun s _ => gb_TR s ∧ True) := by
  unfold cs_Lines_clear_L
  refine gc_kk hk0 ?_
  refine gr_ltT (gr_su (c := 3) (lo := 0) (hi := 8) hT (gc_catL hk0) (gb_iw (lo := 0) (hi := 8) (gb_ic (a := 0) (by decide)) (by decide)) (by decide)) (fun s_2 es_2 hTs_2 => ?_)
  exact gc_some ⟨hTs_2, trivial⟩
set_option maxHeartbeats 4000000 in
theorem cr_Lines_clear_D {n : Nat} (hn : gb_N ≤ n) {σ : gb_S} {k0 : Nat} (hT : gb_TR σ) (hk0 : gb_kD k0 = true) : gb_tc (cs_Lines_clear_D n σ k0) (fun s _ => gb_TR s ∧ True) := by
  unfold cs_Lines_clear_D
  refine gc_kk hk0 ?_
  refine gr_ltT (gr_su (c := 4) (lo := 0) (hi := 5) hT (gc_catD hk0) (gb_iw (lo := 0) (hi := 5) (gb_ic (a := 0) (by decide)) (by decide)) (by decide)) (fun s_2 es_2 hTs_2 => ?_)
  exact gc_some ⟨hTs_2, trivial⟩
set_option maxHeartbeats 4000000 in
theorem cr_Border_clashes_B {n : Nat} (hn : gb_N ≤ n) {σ : gb_S} {k0 : Nat} (hT : gb_TR σ) (hk0 : gb_kB k0 = true) : gb_tc (cs_Border_clashes_B n σ k0) (fun s r => s = σ ∧ gb_iv 0 0 r) := by
  unfold cs_Border_clashes_B
  refine gc_kk hk0 ?_
  exact gc_some ⟨rfl, (gb_ic (a := 0) (by decide))⟩
set_option maxHeartbeats 4000000 in
theorem cr_Lines_clashes_N {n : Nat} (hn : gb_N ≤ n) {σ : gb_S} {k0 : Nat} (hT : gb_TR σ) (hk0 : gb_kN k0 = true) : gb_tc (cs_Lines_clashes_N n σ k0) (fun s r => s = σ ∧ gb_iv 0 0 r) := by
  unfold cs_Lines_clashes_N
  refine gc_kk hk0 ?_
  exact gc_some ⟨rfl, (gb_ic (a := 0) (by decide))⟩
set_option maxHeartbeats 4000000 in
theorem cr_Lines_clashes_L {n : Nat} (hn : gb_N ≤ n) {σ : gb_S} {k0 : Nat} (hT : gb_TR σ) (hk0 : gb_kL k0 = true) : gb_tc (cs_Lines_clashes_L n σ k0) (fun s r => s = σ ∧ gb_iv 0 0 r) := by
  unfold cs_Lines_clashes_L
  refine gc_kk hk0 ?_
  exact gc_some ⟨rfl, (gb_ic (a := 0) (by decide))⟩
set_option maxHeartbeats 4000000 in
theorem cr_Dawn_clashes_D_4 {n : Nat} (hn : gb_N ≤ n) {Q : gb_S → Int32 → Prop} {σ : gb_S} (hT : gb_TR σ) (hret : ∀ (r : Int32), gb_iv 0 1 r → Q σ r) : ∀ (mm : Nat) (v0 : Nat) (v1 : Int32) (v2 : Int32), gb_kD v0 = true → gb_iv (-2147483648) 2147483647 v1 → gb_iv 0 5 v2 → (5 - v2.toInt).toNat < mm → gb_tc (cs_Dawn_clashes_D_4 n mm σ v0 v1 v2) Q := by
  intro mm
  induction mm with
  | zero =>
    intro v0 v1 v2 hv0 iv1 iv2 hm
    exact absurd hm (Nat.not_lt_zero _)
  | succ mm ih =>
    intro v0 v1 v2 hv0 iv1 iv2 hm
    rw [cs_Dawn_clashes_D_4]
    refine gc_kk hv0 ?_
    refine gc_cdP (ct_Lines_size_D hn hT.1 hv0) (fun r_4 qr_4 h_263 => ?_)
    refine gc_if (fun c_264 => ?_) (fun c_264 => ?_)
    · exact gc_some (hret _ (gb_iw (lo := 0) (hi := 1) (gb_ic (a := 0) (by decide)) (by decide)))
    · have j_265 : gb_iv 0 4 v2 := (gb_rU (lo := 0) (hi := 4) (gb_dnle c_264) iv2 h_263 (by decide))
      have j_266 : gb_iv 1 5 r_4 := (gb_rL (lo := 1) (hi := 5) (gb_dnle c_264) h_263 j_265 (by decide))
      refine gc_cdP (ct_Dawn_pathSeen_D hn hT.1 hv0 j_265) (fun r_9 qr_9 h_267 => ?_)
      refine gc_lti (lo := (-2147483648)) (hi := 2147483647) (gb_it _) (fun x_12 ex_12 ix_12 => ?_)
      refine gc_if (fun c_268 => ?_) (fun c_268 => ?_)
      · have j_269 : gb_iv (-2147483648) 0 (v1 &&& x_12) := (gb_rU (lo := (-2147483648)) (hi := 0) (gb_deq c_268) (gb_it _) (gb_ic (a := 0) (by decide)) (by decide))
        have j_270 : gb_iv 0 0 (v1 &&& x_12) := (gb_rL (lo := 0) (hi := 0) (gb_deq2 c_268) j_269 (gb_ic (a := 0) (by decide)) (by decide))
        refine gc_lti (lo := (-2147483648)) (hi := 2147483647) (gb_it _) (fun x_14 ex_14 ix_14 => ?_)
        refine gc_lti (lo := 1) (hi := 5) (gb_iadd (lo := 1) (hi := 5) j_265 (gb_ic (a := 1) (by decide)) (by decide)) (fun x_15 ex_15 ix_15 => ?_)
        exact ih _ _ _ hv0 (gb_it _) (gb_iw (lo := 0) (hi := 5) ix_15 (by decide)) (gb_mup ex_15 j_265 (by decide) hm)
      · exact gc_some (hret _ (gb_iw (lo := 0) (hi := 1) (gb_ic (a := 1) (by decide)) (by decide)))
set_option maxHeartbeats 4000000 in
theorem cr_Dawn_clashes_D {n : Nat} (hn : gb_N ≤ n) {σ : gb_S} {k0 : Nat} (hT : gb_TR σ) (hk0 : gb_kD k0 = true) : gb_tc (cs_Dawn_clashes_D n σ k0) (fun s r => s = σ ∧ gb_iv 0 1 r) := by
  unfold cs_Dawn_clashes_D
  refine gc_kk hk0 ?_
  exact cr_Dawn_clashes_D_4 hn hT (fun _ h => ⟨rfl, h⟩) n _ _ _ hk0 (gb_iw (lo := (-2147483648)) (hi := 2147483647) (gb_ic (a := 0) (by decide)) (by decide)) (gb_iw (lo := 0) (hi := 5) (gb_ic (a := 0) (by decide)) (by decide)) (gb_fuu hn (gb_iw (lo := 0) (hi := 5) (gb_ic (a := 0) (by decide)) (by decide)) (by decide))
set_option maxHeartbeats 4000000 in
theorem cr_Reader_takeWord_47 {n : Nat} (hn : gb_N ≤ n) {Q : gb_S → Int32 → Prop} (hret : ∀ (σ : gb_S) (r : Int32), gb_TR σ → gb_iv (-1) 17 r → Q σ r) : ∀ (mm : Nat) (σ : gb_S) (v1 : Int32) (v2 : Int32) (v3 : Int32), gb_TR σ → gb_iv 0 3 v1 → gb_iv 0 600 v2 → gb_iv 0 18 v3 → (18 - v3.toInt).toNat < mm → gb_tc (cs_Reader_takeWord_47 n mm σ v1 v2 v3) Q := by
  intro mm
  induction mm with
  | zero =>
    intro σ v1 v2 v3 hT iv1 iv2 iv3 hm
    exact absurd hm (Nat.not_lt_zero _)
  | succ mm ih =>
    intro σ v1 v2 v3 hT iv1 iv2 iv3 hm
    rw [cs_Reader_takeWord_47]
    refine gc_ck (gb_iadd (lo := 1) (hi := 4) iv1 (gb_ic (a := 1) (by decide)) (by decide)) (by decide) ?_
    refine gc_lti (lo := 0) (hi := 18) (gt_b0 _) (fun x_6 ex_6 ix_6 => ?_)
    refine gc_if (fun c_3552 => ?_) (fun c_3552 => ?_)
    · exact gc_some (hret _ _ hT (gb_iw (lo := (-1)) (hi := 17) (gb_ic (a := (-1)) (by decide)) (by decide)))
    · have j_3553 : gb_iv 0 17 v3 := (gb_rU (lo := 0) (hi := 17) (gb_dnle c_3552) iv3 ix_6 (by decide))
      have j_3554 : gb_iv 1 18 x_6 := (gb_rL (lo := 1) (hi := 18) (gb_dnle c_3552) ix_6 j_3553 (by decide))
      refine gc_cdP ct_wordOf (fun r_9 qr_9 h_3555 => ?_)
      refine gc_kk h_3555 ?_
      refine gc_cdP (ct_isWord hn hT h_3555 iv2) (fun r_14 qr_14 h_3556 => ?_)
      refine gc_if (fun c_3557 => ?_) (fun c_3557 => ?_)
      · have j_3558 : gb_iv 0 0 r_14 := (gb_rU (lo := 0) (hi := 0) (gb_deq c_3557) h_3556 (gb_ic (a := 0) (by decide)) (by decide))
        refine gc_lti (lo := 1) (hi := 18) (gb_iadd (lo := 1) (hi := 18) j_3553 (gb_ic (a := 1) (by decide)) (by decide)) (fun x_18 ex_18 ix_18 => ?_)
        exact ih _ _ _ _ hT iv1 iv2 (gb_iw (lo := 0) (hi := 18) ix_18 (by decide)) (gb_mup ex_18 j_3553 (by decide) hm)
      · have j_3559 : gb_iv 1 1 r_14 := (gb_rN (lo := 1) (hi := 1) (v := 0) c_3557 h_3556 (by decide) (by decide))
        refine gr_ltT (gr_su (c := 12) (lo := 0) (hi := 600) hT (rfl : gc_cat 106 = 12) iv2 (by decide)) (fun s_19 es_19 hTs_19 => ?_)
        exact gc_some (hret _ _ hTs_19 (gb_iw (lo := (-1)) (hi := 17) j_3553 (by decide)))
set_option maxHeartbeats 4000000 in
theorem cr_Reader_takeWord_47_i1 {n : Nat} (hn : gb_N ≤ n) {Q : gb_S → Int32 → Prop} (hret : ∀ (σ : gb_S) (r : Int32), gb_TR σ → gb_iv (-1) 17 r → Q σ r) : ∀ (mm : Nat) (σ : gb_S) (v1 : Int32) (v2 : Int32) (v3 : Int32), gb_TR σ → gb_iv 0 3 v1 → gb_iv 0 599 v2 → gb_iv 0 18 v3 → (18 - v3.toInt).toNat < mm → gb_tc (cs_Reader_takeWord_47 n mm σ v1 v2 v3) Q := by
  intro mm
  induction mm with
  | zero =>
    intro σ v1 v2 v3 hT iv1 iv2 iv3 hm
    exact absurd hm (Nat.not_lt_zero _)
  | succ mm ih =>
    intro σ v1 v2 v3 hT iv1 iv2 iv3 hm
    rw [cs_Reader_takeWord_47]
    refine gc_ck (gb_iadd (lo := 1) (hi := 4) iv1 (gb_ic (a := 1) (by decide)) (by decide)) (by decide) ?_
    refine gc_lti (lo := 0) (hi := 18) (gt_b0 _) (fun x_6 ex_6 ix_6 => ?_)
    refine gc_if (fun c_3628 => ?_) (fun c_3628 => ?_)
    · exact gc_some (hret _ _ hT (gb_iw (lo := (-1)) (hi := 17) (gb_ic (a := (-1)) (by decide)) (by decide)))
    · have j_3629 : gb_iv 0 17 v3 := (gb_rU (lo := 0) (hi := 17) (gb_dnle c_3628) iv3 ix_6 (by decide))
      have j_3630 : gb_iv 1 18 x_6 := (gb_rL (lo := 1) (hi := 18) (gb_dnle c_3628) ix_6 j_3629 (by decide))
      refine gc_cdP ct_wordOf (fun r_9 qr_9 h_3631 => ?_)
      refine gc_kk h_3631 ?_
      refine gc_cdP (ct_isWord hn hT h_3631 (gb_iw (lo := 0) (hi := 600) iv2 (by decide))) (fun r_14 qr_14 h_3632 => ?_)
      refine gc_if (fun c_3633 => ?_) (fun c_3633 => ?_)
      · have j_3634 : gb_iv 0 0 r_14 := (gb_rU (lo := 0) (hi := 0) (gb_deq c_3633) h_3632 (gb_ic (a := 0) (by decide)) (by decide))
        refine gc_lti (lo := 1) (hi := 18) (gb_iadd (lo := 1) (hi := 18) j_3629 (gb_ic (a := 1) (by decide)) (by decide)) (fun x_18 ex_18 ix_18 => ?_)
        exact ih _ _ _ _ hT iv1 iv2 (gb_iw (lo := 0) (hi := 18) ix_18 (by decide)) (gb_mup ex_18 j_3629 (by decide) hm)
      · have j_3635 : gb_iv 1 1 r_14 := (gb_rN (lo := 1) (hi := 1) (v := 0) c_3633 h_3632 (by decide) (by decide))
        refine gr_ltT (gr_su (c := 12) (lo := 0) (hi := 600) hT (rfl : gc_cat 106 = 12) (gb_iw (lo := 0) (hi := 600) iv2 (by decide)) (by decide)) (fun s_19 es_19 hTs_19 => ?_)
        exact gc_some (hret _ _ hTs_19 (gb_iw (lo := (-1)) (hi := 17) j_3629 (by decide)))
set_option maxHeartbeats 4000000 in
theorem cr_Reader_takeWord_5 {n : Nat} (hn : gb_N ≤ n) {Q : gb_S → Int32 → Prop} (hret : ∀ (σ : gb_S) (r : Int32), gb_TR σ → gb_iv (-1) 17 r → Q σ r) : ∀ (mm : Nat) (σ : gb_S) (v1 : Int32) (v2 : Int32), gb_TR σ → gb_iv 0 3 v1 → gb_iv 0 600 v2 → (600 - v2.toInt).toNat < mm → gb_tc (cs_Reader_takeWord_5 n mm σ v1 v2) Q := by
  intro mm
  induction mm with
  | zero =>
    intro σ v1 v2 hT iv1 iv2 hm
    exact absurd hm (Nat.not_lt_zero _)
  | succ mm ih =>
    intro σ v1 v2 hT iv1 iv2 hm
    rw [cs_Reader_takeWord_5]
    refine gc_if (fun c_3487 => ?_) (fun c_3487 => ?_)
    · refine gc_ck iv1 (by decide) ?_
      refine gc_lti (lo := 0) (hi := 18) (gt_b0 _) (fun x_4 ex_4 ix_4 => ?_)
      exact cr_Reader_takeWord_47 hn hret n _ _ _ _ hT iv1 iv2 ix_4 (gb_fuu hn ix_4 (by decide))
    · have j_3560 : gb_iv 0 599 v2 := (gb_rU (lo := 0) (hi := 599) (gb_dnle c_3487) iv2 (gr_rd (c := 12) (lo := 0) (hi := 600) hT (rfl : gc_cat 106 = 12) (by decide)) (by decide))
      have j_3561 : gb_iv 1 600 (σ.1 106 2) := (gb_rL (lo := 1) (hi := 600) (gb_dnle c_3487) (gr_rd (c := 12) (lo := 0) (hi := 600) hT (rfl : gc_cat 106 = 12) (by decide)) j_3560 (by decide))
      refine gc_kk (gr_q0 hT) ?_
      refine gc_ck j_3560 (by decide) ?_
      refine gc_lti (lo := (-2147483648)) (hi := 2147483647) (gb_it _) (fun x_22 ex_22 ix_22 => ?_)
      refine gc_if (fun c_3562 => ?_) (fun c_3562 => ?_)
      · have j_3563 : gb_iv (-2147483648) 96 x_22 := (gb_rU (lo := (-2147483648)) (hi := 96) (gb_dlt c_3562) (gb_it _) (gb_ic (a := 97) (by decide)) (by decide))
        refine gc_ck iv1 (by decide) ?_
        refine gc_lti (lo := 0) (hi := 18) (gt_b0 _) (fun x_25 ex_25 ix_25 => ?_)
        exact cr_Reader_takeWord_47_i1 hn hret n _ _ _ _ hT iv1 j_3560 ix_25 (gb_fuu hn ix_25 (by decide))
      · have j_3636 : gb_iv 97 2147483647 x_22 := (gb_rL (lo := 97) (hi := 2147483647) (gb_dnlt c_3562) (gb_it _) (gb_ic (a := 97) (by decide)) (by decide))
        refine gc_kk (gr_q0 hT) ?_
        refine gc_ck j_3560 (by decide) ?_
        refine gc_lti (lo := 97) (hi := 2147483647) (gb_ie ex_22.symm j_3636) (fun x_28 ex_28 ix_28 => ?_)
        refine gc_if (fun c_3637 => ?_) (fun c_3637 => ?_)
        · have j_3638 : gb_iv 123 2147483647 x_28 := (gb_rL (lo := 123) (hi := 2147483647) (gb_dlt c_3637) ix_28 (gb_ic (a := 122) (by decide)) (by decide))
          refine gc_ck iv1 (by decide) ?_
          refine gc_lti (lo := 0) (hi := 18) (gt_b0 _) (fun x_31 ex_31 ix_31 => ?_)
          exact cr_Reader_takeWord_47_i1 hn hret n _ _ _ _ hT iv1 j_3560 ix_31 (gb_fuu hn ix_31 (by decide))
        · have j_3703 : gb_iv 97 122 x_28 := (gb_rU (lo := 97) (hi := 122) (gb_dnlt c_3637) ix_28 (gb_ic (a := 122) (by decide)) (by decide))
          refine gc_lti (lo := 1) (hi := 600) (gb_iadd (lo := 1) (hi := 600) j_3560 (gb_ic (a := 1) (by decide)) (by decide)) (fun x_32 ex_32 ix_32 => ?_)
          exact ih _ _ _ hT iv1 (gb_iw (lo := 0) (hi := 600) ix_32 (by decide)) (gb_mup ex_32 j_3560 (by decide) hm)
set_option maxHeartbeats 4000000 in
theorem cr_Reader_takeWord {n : Nat} (hn : gb_N ≤ n) {σ : gb_S} {p1 : Int32} (hT : gb_TR σ) (ip1 : gb_iv 0 3 p1) : gb_tc (cs_Reader_takeWord n σ p1) (fun s r => gb_TR s ∧ gb_iv (-1) 17 r) := by
  unfold cs_Reader_takeWord
  refine gc_lti (lo := 0) (hi := 600) (gr_rd (c := 12) (lo := 0) (hi := 600) hT (rfl : gc_cat 106 = 12) (by decide)) (fun x_1 ex_1 ix_1 => ?_)
  exact cr_Reader_takeWord_5 hn (fun _ _ hT h => ⟨hT, h⟩) n _ _ _ hT ip1 ix_1 (gb_fuu hn ix_1 (by decide))
set_option maxHeartbeats 4000000 in
theorem cr_Reader_canBe_36 {n : Nat} (hn : gb_N ≤ n) {Q : gb_S → Int32 → Prop} {σ : gb_S} (hT : gb_TR σ) (hret : ∀ (r : Int32), gb_iv 0 1 r → Q σ r) : ∀ (v1 : Int32) (v2 : Int32) (v3 : Int32) (t0 : Int32), gb_iv 6 6 v1 → gb_iv 1 1 v2 → gb_iv (-2147483648) 2147483647 v3 → gb_iv 0 0 t0 → gb_tc (cs_Reader_canBe_36 n σ v1 v2 v3 t0) Q := by
  intro v1 v2 v3 t0 iv1 iv2 iv3 it0
  unfold cs_Reader_canBe_36
  refine gc_if (fun c_3757 => ?_) (fun c_3757 => ?_)
  · have j_3758 : gb_iv (-2147483648) (-1) v3 := (gb_rU (lo := (-2147483648)) (hi := (-1)) (gb_dlt c_3757) (gb_it _) it0 (by decide))
    exact gc_some (hret _ (gb_iw (lo := 0) (hi := 1) (gb_ic (a := 0) (by decide)) (by decide)))
  · have j_3759 : gb_iv 0 2147483647 v3 := (gb_rL (lo := 0) (hi := 2147483647) (gb_dnlt c_3757) (gb_it _) it0 (by decide))
    refine gc_ck (gb_iadd (lo := 31) (hi := 31) (gb_imul (lo := 30) (hi := 30) iv1 (gb_ic (a := 5) (by decide)) (by decide)) iv2 (by decide)) (by decide) ?_
    refine gc_lti (lo := (-2147483648)) (hi := 2147483647) (gb_it _) (fun x_5 ex_5 ix_5 => ?_)
    refine gc_if (fun c_3760 => ?_) (fun c_3760 => ?_)
    · have j_3761 : gb_iv (-2147483648) 2147483646 x_5 := (gb_rU (lo := (-2147483648)) (hi := 2147483646) (gb_dlt c_3760) (gb_it _) j_3759 (by decide))
      exact gc_some (hret _ (gb_iw (lo := 0) (hi := 1) (gb_ic (a := 0) (by decide)) (by decide)))
    · have j_3762 : gb_iv 0 2147483647 x_5 := (gb_rL (lo := 0) (hi := 2147483647) (gb_dnlt c_3760) (gb_it _) j_3759 (by decide))
      exact gc_some (hret _ (gb_iw (lo := 0) (hi := 1) (gb_ic (a := 1) (by decide)) (by decide)))
set_option maxHeartbeats 4000000 in
theorem cr_Reader_canBe_35 {n : Nat} (hn : gb_N ≤ n) {Q : gb_S → Int32 → Prop} {σ : gb_S} (hT : gb_TR σ) (hret : ∀ (r : Int32), gb_iv 0 1 r → Q σ r) : ∀ (v1 : Int32) (v2 : Int32) (v3 : Int32), gb_iv 6 6 v1 → gb_iv 1 1 v2 → gb_iv (-2147483648) 2147483647 v3 → gb_tc (cs_Reader_canBe_35 n σ v1 v2 v3) Q := by
  intro v1 v2 v3 iv1 iv2 iv3
  unfold cs_Reader_canBe_35
  exact cr_Reader_canBe_36 hn hT hret _ _ _ _ iv1 iv2 (gb_it _) (gb_ic (a := 0) (by decide))
set_option maxHeartbeats 4000000 in
theorem cr_Reader_canBe_23 {n : Nat} (hn : gb_N ≤ n) {Q : gb_S → Int32 → Prop} {σ : gb_S} (hT : gb_TR σ) (hret : ∀ (r : Int32), gb_iv 0 1 r → Q σ r) : ∀ (v1 : Int32) (v2 : Int32) (v3 : Int32), gb_iv 6 6 v1 → gb_iv 1 1 v2 → gb_iv (-2147483648) 2147483647 v3 → gb_tc (cs_Reader_canBe_23 n σ v1 v2 v3) Q := by
  intro v1 v2 v3 iv1 iv2 iv3
  unfold cs_Reader_canBe_23
  refine gc_if (fun c_3756 => ?_) (fun c_3756 => ?_)
  · exact (gb_em (gb_rU (lo := 6) (hi := 0) (gb_deq c_3756) iv1 (gb_ic (a := 0) (by decide)) (by decide)) (by decide)).elim
  · exact cr_Reader_canBe_35 hn hT hret _ _ _ iv1 iv2 (gb_it _)
set_option maxHeartbeats 4000000 in
theorem cr_Reader_canBe_36_i1 {n : Nat} (hn : gb_N ≤ n) {Q : gb_S → Int32 → Prop} {σ : gb_S} (hT : gb_TR σ) (hret : ∀ (r : Int32), gb_iv 0 1 r → Q σ r) : ∀ (v1 : Int32) (v2 : Int32) (v3 : Int32) (t0 : Int32), gb_iv 6 6 v1 → gb_iv 0 4 v2 → gb_iv (-2147483648) 2147483647 v3 → gb_iv 0 0 t0 → gb_tc (cs_Reader_canBe_36 n σ v1 v2 v3 t0) Q := by
  intro v1 v2 v3 t0 iv1 iv2 iv3 it0
  unfold cs_Reader_canBe_36
  refine gc_if (fun c_3764 => ?_) (fun c_3764 => ?_)
  · have j_3765 : gb_iv (-2147483648) (-1) v3 := (gb_rU (lo := (-2147483648)) (hi := (-1)) (gb_dlt c_3764) (gb_it _) it0 (by decide))
    exact gc_some (hret _ (gb_iw (lo := 0) (hi := 1) (gb_ic (a := 0) (by decide)) (by decide)))
  · have j_3766 : gb_iv 0 2147483647 v3 := (gb_rL (lo := 0) (hi := 2147483647) (gb_dnlt c_3764) (gb_it _) it0 (by decide))
    refine gc_ck (gb_iadd (lo := 30) (hi := 34) (gb_imul (lo := 30) (hi := 30) iv1 (gb_ic (a := 5) (by decide)) (by decide)) iv2 (by decide)) (by decide) ?_
    refine gc_lti (lo := (-2147483648)) (hi := 2147483647) (gb_it _) (fun x_5 ex_5 ix_5 => ?_)
    refine gc_if (fun c_3767 => ?_) (fun c_3767 => ?_)
    · have j_3768 : gb_iv (-2147483648) 2147483646 x_5 := (gb_rU (lo := (-2147483648)) (hi := 2147483646) (gb_dlt c_3767) (gb_it _) j_3766 (by decide))
      exact gc_some (hret _ (gb_iw (lo := 0) (hi := 1) (gb_ic (a := 0) (by decide)) (by decide)))
    · have j_3769 : gb_iv 0 2147483647 x_5 := (gb_rL (lo := 0) (hi := 2147483647) (gb_dnlt c_3767) (gb_it _) j_3766 (by decide))
      exact gc_some (hret _ (gb_iw (lo := 0) (hi := 1) (gb_ic (a := 1) (by decide)) (by decide)))
set_option maxHeartbeats 4000000 in
theorem cr_Reader_canBe_35_i1 {n : Nat} (hn : gb_N ≤ n) {Q : gb_S → Int32 → Prop} {σ : gb_S} (hT : gb_TR σ) (hret : ∀ (r : Int32), gb_iv 0 1 r → Q σ r) : ∀ (v1 : Int32) (v2 : Int32) (v3 : Int32), gb_iv 6 6 v1 → gb_iv 0 4 v2 → gb_iv (-2147483648) 2147483647 v3 → gb_tc (cs_Reader_canBe_35 n σ v1 v2 v3) Q := by
  intro v1 v2 v3 iv1 iv2 iv3
  unfold cs_Reader_canBe_35
  exact cr_Reader_canBe_36_i1 hn hT hret _ _ _ _ iv1 iv2 (gb_it _) (gb_ic (a := 0) (by decide))
set_option maxHeartbeats 4000000 in
theorem cr_Reader_canBe_23_i1 {n : Nat} (hn : gb_N ≤ n) {Q : gb_S → Int32 → Prop} {σ : gb_S} (hT : gb_TR σ) (hret : ∀ (r : Int32), gb_iv 0 1 r → Q σ r) : ∀ (v1 : Int32) (v2 : Int32) (v3 : Int32), gb_iv 6 6 v1 → gb_iv 0 4 v2 → gb_iv (-2147483648) 2147483647 v3 → gb_tc (cs_Reader_canBe_23 n σ v1 v2 v3) Q := by
  intro v1 v2 v3 iv1 iv2 iv3
  unfold cs_Reader_canBe_23
  refine gc_if (fun c_3763 => ?_) (fun c_3763 => ?_)
  · exact (gb_em (gb_rU (lo := 6) (hi := 0) (gb_deq c_3763) iv1 (gb_ic (a := 0) (by decide)) (by decide)) (by decide)).elim
  · exact cr_Reader_canBe_35_i1 hn hT hret _ _ _ iv1 iv2 (gb_it _)
set_option maxHeartbeats 4000000 in
theorem cr_Reader_canBe_36_i2 {n : Nat} (hn : gb_N ≤ n) {Q : gb_S → Int32 → Prop} {σ : gb_S} (hT : gb_TR σ) (hret : ∀ (r : Int32), gb_iv 0 1 r → Q σ r) : ∀ (v1 : Int32) (v2 : Int32) (v3 : Int32) (t0 : Int32), gb_iv 0 0 v1 → gb_iv 0 0 v2 → gb_iv (-2147483648) 2147483647 v3 → gb_iv 1 1 t0 → gb_tc (cs_Reader_canBe_36 n σ v1 v2 v3 t0) Q := by
  intro v1 v2 v3 t0 iv1 iv2 iv3 it0
  unfold cs_Reader_canBe_36
  refine gc_if (fun c_3774 => ?_) (fun c_3774 => ?_)
  · have j_3775 : gb_iv (-2147483648) 0 v3 := (gb_rU (lo := (-2147483648)) (hi := 0) (gb_dlt c_3774) (gb_it _) it0 (by decide))
    exact gc_some (hret _ (gb_iw (lo := 0) (hi := 1) (gb_ic (a := 0) (by decide)) (by decide)))
  · have j_3776 : gb_iv 1 2147483647 v3 := (gb_rL (lo := 1) (hi := 2147483647) (gb_dnlt c_3774) (gb_it _) it0 (by decide))
    refine gc_ck (gb_iadd (lo := 0) (hi := 0) (gb_imul (lo := 0) (hi := 0) iv1 (gb_ic (a := 5) (by decide)) (by decide)) iv2 (by decide)) (by decide) ?_
    refine gc_lti (lo := (-2147483648)) (hi := 2147483647) (gb_it _) (fun x_5 ex_5 ix_5 => ?_)
    refine gc_if (fun c_3777 => ?_) (fun c_3777 => ?_)
    · have j_3778 : gb_iv (-2147483648) 2147483646 x_5 := (gb_rU (lo := (-2147483648)) (hi := 2147483646) (gb_dlt c_3777) (gb_it _) j_3776 (by decide))
      exact gc_some (hret _ (gb_iw (lo := 0) (hi := 1) (gb_ic (a := 0) (by decide)) (by decide)))
    · have j_3779 : gb_iv 1 2147483647 x_5 := (gb_rL (lo := 1) (hi := 2147483647) (gb_dnlt c_3777) (gb_it _) j_3776 (by decide))
      exact gc_some (hret _ (gb_iw (lo := 0) (hi := 1) (gb_ic (a := 1) (by decide)) (by decide)))
set_option maxHeartbeats 4000000 in
theorem cr_Reader_canBe_36_i3 {n : Nat} (hn : gb_N ≤ n) {Q : gb_S → Int32 → Prop} {σ : gb_S} (hT : gb_TR σ) (hret : ∀ (r : Int32), gb_iv 0 1 r → Q σ r) : ∀ (v1 : Int32) (v2 : Int32) (v3 : Int32) (t0 : Int32), gb_iv 0 0 v1 → gb_iv 1 4 v2 → gb_iv (-2147483648) 2147483647 v3 → gb_iv 0 0 t0 → gb_tc (cs_Reader_canBe_36 n σ v1 v2 v3 t0) Q := by
  intro v1 v2 v3 t0 iv1 iv2 iv3 it0
  unfold cs_Reader_canBe_36
  refine gc_if (fun c_3781 => ?_) (fun c_3781 => ?_)
  · have j_3782 : gb_iv (-2147483648) (-1) v3 := (gb_rU (lo := (-2147483648)) (hi := (-1)) (gb_dlt c_3781) (gb_it _) it0 (by decide))
    exact gc_some (hret _ (gb_iw (lo := 0) (hi := 1) (gb_ic (a := 0) (by decide)) (by decide)))
  · have j_3783 : gb_iv 0 2147483647 v3 := (gb_rL (lo := 0) (hi := 2147483647) (gb_dnlt c_3781) (gb_it _) it0 (by decide))
    refine gc_ck (gb_iadd (lo := 1) (hi := 4) (gb_imul (lo := 0) (hi := 0) iv1 (gb_ic (a := 5) (by decide)) (by decide)) iv2 (by decide)) (by decide) ?_
    refine gc_lti (lo := (-2147483648)) (hi := 2147483647) (gb_it _) (fun x_5 ex_5 ix_5 => ?_)
    refine gc_if (fun c_3784 => ?_) (fun c_3784 => ?_)
    · have j_3785 : gb_iv (-2147483648) 2147483646 x_5 := (gb_rU (lo := (-2147483648)) (hi := 2147483646) (gb_dlt c_3784) (gb_it _) j_3783 (by decide))
      exact gc_some (hret _ (gb_iw (lo := 0) (hi := 1) (gb_ic (a := 0) (by decide)) (by decide)))
    · have j_3786 : gb_iv 0 2147483647 x_5 := (gb_rL (lo := 0) (hi := 2147483647) (gb_dnlt c_3784) (gb_it _) j_3783 (by decide))
      exact gc_some (hret _ (gb_iw (lo := 0) (hi := 1) (gb_ic (a := 1) (by decide)) (by decide)))
set_option maxHeartbeats 4000000 in
theorem cr_Reader_canBe_35_i2 {n : Nat} (hn : gb_N ≤ n) {Q : gb_S → Int32 → Prop} {σ : gb_S} (hT : gb_TR σ) (hret : ∀ (r : Int32), gb_iv 0 1 r → Q σ r) : ∀ (v1 : Int32) (v2 : Int32) (v3 : Int32), gb_iv 0 0 v1 → gb_iv 1 4 v2 → gb_iv (-2147483648) 2147483647 v3 → gb_tc (cs_Reader_canBe_35 n σ v1 v2 v3) Q := by
  intro v1 v2 v3 iv1 iv2 iv3
  unfold cs_Reader_canBe_35
  exact cr_Reader_canBe_36_i3 hn hT hret _ _ _ _ iv1 iv2 (gb_it _) (gb_ic (a := 0) (by decide))
set_option maxHeartbeats 4000000 in
theorem cr_Reader_canBe_36_i4 {n : Nat} (hn : gb_N ≤ n) {Q : gb_S → Int32 → Prop} {σ : gb_S} (hT : gb_TR σ) (hret : ∀ (r : Int32), gb_iv 0 1 r → Q σ r) : ∀ (v1 : Int32) (v2 : Int32) (v3 : Int32) (t0 : Int32), gb_iv 1 17 v1 → gb_iv 0 4 v2 → gb_iv (-2147483648) 2147483647 v3 → gb_iv 0 0 t0 → gb_tc (cs_Reader_canBe_36 n σ v1 v2 v3 t0) Q := by
  intro v1 v2 v3 t0 iv1 iv2 iv3 it0
  unfold cs_Reader_canBe_36
  refine gc_if (fun c_3788 => ?_) (fun c_3788 => ?_)
  · have j_3789 : gb_iv (-2147483648) (-1) v3 := (gb_rU (lo := (-2147483648)) (hi := (-1)) (gb_dlt c_3788) (gb_it _) it0 (by decide))
    exact gc_some (hret _ (gb_iw (lo := 0) (hi := 1) (gb_ic (a := 0) (by decide)) (by decide)))
  · have j_3790 : gb_iv 0 2147483647 v3 := (gb_rL (lo := 0) (hi := 2147483647) (gb_dnlt c_3788) (gb_it _) it0 (by decide))
    refine gc_ck (gb_iadd (lo := 5) (hi := 89) (gb_imul (lo := 5) (hi := 85) iv1 (gb_ic (a := 5) (by decide)) (by decide)) iv2 (by decide)) (by decide) ?_
    refine gc_lti (lo := (-2147483648)) (hi := 2147483647) (gb_it _) (fun x_5 ex_5 ix_5 => ?_)
    refine gc_if (fun c_3791 => ?_) (fun c_3791 => ?_)
    · have j_3792 : gb_iv (-2147483648) 2147483646 x_5 := (gb_rU (lo := (-2147483648)) (hi := 2147483646) (gb_dlt c_3791) (gb_it _) j_3790 (by decide))
      exact gc_some (hret _ (gb_iw (lo := 0) (hi := 1) (gb_ic (a := 0) (by decide)) (by decide)))
    · have j_3793 : gb_iv 0 2147483647 x_5 := (gb_rL (lo := 0) (hi := 2147483647) (gb_dnlt c_3791) (gb_it _) j_3790 (by decide))
      exact gc_some (hret _ (gb_iw (lo := 0) (hi := 1) (gb_ic (a := 1) (by decide)) (by decide)))
set_option maxHeartbeats 4000000 in
theorem cr_Reader_canBe_35_i3 {n : Nat} (hn : gb_N ≤ n) {Q : gb_S → Int32 → Prop} {σ : gb_S} (hT : gb_TR σ) (hret : ∀ (r : Int32), gb_iv 0 1 r → Q σ r) : ∀ (v1 : Int32) (v2 : Int32) (v3 : Int32), gb_iv 1 17 v1 → gb_iv 0 4 v2 → gb_iv (-2147483648) 2147483647 v3 → gb_tc (cs_Reader_canBe_35 n σ v1 v2 v3) Q := by
  intro v1 v2 v3 iv1 iv2 iv3
  unfold cs_Reader_canBe_35
  exact cr_Reader_canBe_36_i4 hn hT hret _ _ _ _ iv1 iv2 (gb_it _) (gb_ic (a := 0) (by decide))
set_option maxHeartbeats 4000000 in
theorem cr_Reader_canBe_23_i2 {n : Nat} (hn : gb_N ≤ n) {Q : gb_S → Int32 → Prop} {σ : gb_S} (hT : gb_TR σ) (hret : ∀ (r : Int32), gb_iv 0 1 r → Q σ r) : ∀ (v1 : Int32) (v2 : Int32) (v3 : Int32), gb_iv 0 17 v1 → gb_iv 0 4 v2 → gb_iv (-2147483648) 2147483647 v3 → gb_tc (cs_Reader_canBe_23 n σ v1 v2 v3) Q := by
  intro v1 v2 v3 iv1 iv2 iv3
  unfold cs_Reader_canBe_23
  refine gc_if (fun c_3770 => ?_) (fun c_3770 => ?_)
  · have j_3771 : gb_iv 0 0 v1 := (gb_rU (lo := 0) (hi := 0) (gb_deq c_3770) iv1 (gb_ic (a := 0) (by decide)) (by decide))
    refine gc_if (fun c_3772 => ?_) (fun c_3772 => ?_)
    · have j_3773 : gb_iv 0 0 v2 := (gb_rU (lo := 0) (hi := 0) (gb_deq c_3772) iv2 (gb_ic (a := 0) (by decide)) (by decide))
      exact cr_Reader_canBe_36_i2 hn hT hret _ _ _ _ j_3771 j_3773 (gb_it _) (gb_ic (a := 1) (by decide))
    · have j_3780 : gb_iv 1 4 v2 := (gb_rN (lo := 1) (hi := 4) (v := 0) c_3772 iv2 (by decide) (by decide))
      exact cr_Reader_canBe_35_i2 hn hT hret _ _ _ j_3771 j_3780 (gb_it _)
  · have j_3787 : gb_iv 1 17 v1 := (gb_rN (lo := 1) (hi := 17) (v := 0) c_3770 iv1 (by decide) (by decide))
    exact cr_Reader_canBe_35_i3 hn hT hret _ _ _ j_3787 iv2 (gb_it _)
set_option maxHeartbeats 4000000 in
theorem cr_Reader_canBe {n : Nat} (hn : gb_N ≤ n) {σ : gb_S} {p1 : Int32} {p2 : Int32} {p3 : Int32} (hT : gb_TR σ) (ip1 : gb_iv 0 17 p1) (ip2 : gb_iv 0 4 p2) : gb_tc (cs_Reader_canBe n σ p1 p2 p3) (fun s r => s = σ ∧ gb_iv 0 1 r) := by
  unfold cs_Reader_canBe
  refine gc_if (fun c_3749 => ?_) (fun c_3749 => ?_)
  · have j_3750 : gb_iv 0 6 p1 := (gb_rU (lo := 0) (hi := 6) (gb_deq c_3749) ip1 (gb_ic (a := 6) (by decide)) (by decide))
    have j_3751 : gb_iv 6 6 p1 := (gb_rL (lo := 6) (hi := 6) (gb_deq2 c_3749) j_3750 (gb_ic (a := 6) (by decide)) (by decide))
    refine gc_if (fun c_3752 => ?_) (fun c_3752 => ?_)
    · have j_3753 : gb_iv 0 1 p2 := (gb_rU (lo := 0) (hi := 1) (gb_deq c_3752) ip2 (gb_ic (a := 1) (by decide)) (by decide))
      have j_3754 : gb_iv 1 1 p2 := (gb_rL (lo := 1) (hi := 1) (gb_deq2 c_3752) j_3753 (gb_ic (a := 1) (by decide)) (by decide))
      refine gc_lti (lo := (-2147483648)) (hi := 2147483647) (gb_it _) (fun x_9 ex_9 ix_9 => ?_)
      refine gc_if (fun c_3755 => ?_) (fun c_3755 => ?_)
      · exact gc_some ⟨rfl, (gb_iw (lo := 0) (hi := 1) (gb_ic (a := 0) (by decide)) (by decide))⟩
      · exact cr_Reader_canBe_23 hn hT (fun _ h => ⟨rfl, h⟩) _ _ _ j_3751 j_3754 (gb_it _)
    · exact cr_Reader_canBe_23_i1 hn hT (fun _ h => ⟨rfl, h⟩) _ _ _ j_3751 ip2 (gb_it _)
  · exact cr_Reader_canBe_23_i2 hn hT (fun _ h => ⟨rfl, h⟩) _ _ _ ip1 ip2 (gb_it _)
set_option maxHeartbeats 4000000 in
theorem cr_Reader_takeNumber_61 {n : Nat} (hn : gb_N ≤ n) {Q : gb_S → Int32 → Prop} (hret : ∀ (σ : gb_S) (r : Int32), gb_TR σ → gb_iv 0 1 r → Q σ r) : ∀ (σ : gb_S) (v1 : Int32) (v2 : Int32) (v3 : Int32) (v4 : Int32), gb_TR σ → gb_iv 0 17 v1 → gb_iv 0 4 v2 → gb_iv 0 600 v3 → gb_iv (-2147483648) 2147483647 v4 → gb_tc (cs_Reader_takeNumber_61 n σ v1 v2 v3 v4) Q := by
  intro σ v1 v2 v3 v4 hT iv1 iv2 iv3 iv4
  unfold cs_Reader_takeNumber_61
  refine gc_if (fun c_4555 => ?_) (fun c_4555 => ?_)
  · exact gc_some (hret _ _ hT (gb_iw (lo := 0) (hi := 1) (gb_ic (a := 0) (by decide)) (by decide)))
  · refine gc_if (fun c_4556 => ?_) (fun c_4556 => ?_)
    · have j_4557 : gb_iv (-600) 3 (v3 - (σ.1 106 3)) := (gb_rU (lo := (-600)) (hi := 3) (gb_dle c_4556) (gb_isub (lo := (-600)) (hi := 600) iv3 (gr_rd (c := 12) (lo := 0) (hi := 600) hT (rfl : gc_cat 106 = 12) (by decide)) (by decide)) (gb_ic (a := 3) (by decide)) (by decide))
      refine gc_ck iv2 (by decide) ?_
      refine gr_ltT (gr_su0 hT (rfl : gc_cat 107 = 0)) (fun s_6 es_6 hTs_6 => ?_)
      refine gc_cdP (cr_Reader_canBe hn hTs_6 iv1 iv2) (fun r_8 qr_8 h_4558 => ?_)
      refine gc_if (fun c_4559 => ?_) (fun c_4559 => ?_)
      · have j_4560 : gb_iv 0 0 r_8 := (gb_rU (lo := 0) (hi := 0) (gb_deq c_4559) h_4558 (gb_ic (a := 0) (by decide)) (by decide))
        refine gr_cdT (cr_Reader_note hn hTs_6) (fun s_13 u_4561 hTs_13 _ => ?_)
        refine gr_ltT (gr_su (c := 12) (lo := 0) (hi := 600) hTs_13 (rfl : gc_cat 106 = 12) iv3 (by decide)) (fun s_17 es_17 hTs_17 => ?_)
        exact gc_some (hret _ _ hTs_17 (gb_iw (lo := 0) (hi := 1) (gb_ic (a := 1) (by decide)) (by decide)))
      · have j_4562 : gb_iv 1 1 r_8 := (gb_rN (lo := 1) (hi := 1) (v := 0) c_4559 h_4558 (by decide) (by decide))
        refine gr_ltT (gr_su (c := 12) (lo := 0) (hi := 600) hTs_6 (rfl : gc_cat 106 = 12) iv3 (by decide)) (fun s_12 es_12 hTs_12 => ?_)
        exact gc_some (hret _ _ hTs_12 (gb_iw (lo := 0) (hi := 1) (gb_ic (a := 1) (by decide)) (by decide)))
    · have j_4563 : gb_iv 4 600 (v3 - (σ.1 106 3)) := (gb_rL (lo := 4) (hi := 600) (gb_dnle c_4556) (gb_isub (lo := (-600)) (hi := 600) iv3 (gr_rd (c := 12) (lo := 0) (hi := 600) hT (rfl : gc_cat 106 = 12) (by decide)) (by decide)) (gb_ic (a := 3) (by decide)) (by decide))
      exact gc_some (hret _ _ hT (gb_iw (lo := 0) (hi := 1) (gb_ic (a := 0) (by decide)) (by decide)))
set_option maxHeartbeats 4000000 in
theorem cr_Reader_takeNumber_61_i1 {n : Nat} (hn : gb_N ≤ n) {Q : gb_S → Int32 → Prop} (hret : ∀ (σ : gb_S) (r : Int32), gb_TR σ → gb_iv 0 1 r → Q σ r) : ∀ (σ : gb_S) (v1 : Int32) (v2 : Int32) (v3 : Int32) (v4 : Int32), gb_TR σ → gb_iv 0 17 v1 → gb_iv 0 4 v2 → gb_iv 0 599 v3 → gb_iv (-2147483648) 2147483647 v4 → gb_tc (cs_Reader_takeNumber_61 n σ v1 v2 v3 v4) Q := by
  intro σ v1 v2 v3 v4 hT iv1 iv2 iv3 iv4
  unfold cs_Reader_takeNumber_61
  refine gc_if (fun c_4568 => ?_) (fun c_4568 => ?_)
  · have j_4569 : gb_iv 0 599 (σ.1 106 3) := (gb_rU (lo := 0) (hi := 599) (gb_deq2 c_4568) (gr_rd (c := 12) (lo := 0) (hi := 600) hT (rfl : gc_cat 106 = 12) (by decide)) iv3 (by decide))
    exact gc_some (hret _ _ hT (gb_iw (lo := 0) (hi := 1) (gb_ic (a := 0) (by decide)) (by decide)))
  · refine gc_if (fun c_4570 => ?_) (fun c_4570 => ?_)
    · have j_4571 : gb_iv (-600) 3 (v3 - (σ.1 106 3)) := (gb_rU (lo := (-600)) (hi := 3) (gb_dle c_4570) (gb_isub (lo := (-600)) (hi := 599) iv3 (gr_rd (c := 12) (lo := 0) (hi := 600) hT (rfl : gc_cat 106 = 12) (by decide)) (by decide)) (gb_ic (a := 3) (by decide)) (by decide))
      refine gc_ck iv2 (by decide) ?_
      refine gr_ltT (gr_su0 hT (rfl : gc_cat 107 = 0)) (fun s_6 es_6 hTs_6 => ?_)
      refine gc_cdP (cr_Reader_canBe hn hTs_6 iv1 iv2) (fun r_8 qr_8 h_4572 => ?_)
      refine gc_if (fun c_4573 => ?_) (fun c_4573 => ?_)
      · have j_4574 : gb_iv 0 0 r_8 := (gb_rU (lo := 0) (hi := 0) (gb_deq c_4573) h_4572 (gb_ic (a := 0) (by decide)) (by decide))
        refine gr_cdT (cr_Reader_note hn hTs_6) (fun s_13 u_4575 hTs_13 _ => ?_)
        refine gr_ltT (gr_su (c := 12) (lo := 0) (hi := 600) hTs_13 (rfl : gc_cat 106 = 12) (gb_iw (lo := 0) (hi := 600) iv3 (by decide)) (by decide)) (fun s_17 es_17 hTs_17 => ?_)
        exact gc_some (hret _ _ hTs_17 (gb_iw (lo := 0) (hi := 1) (gb_ic (a := 1) (by decide)) (by decide)))
      · have j_4576 : gb_iv 1 1 r_8 := (gb_rN (lo := 1) (hi := 1) (v := 0) c_4573 h_4572 (by decide) (by decide))
        refine gr_ltT (gr_su (c := 12) (lo := 0) (hi := 600) hTs_6 (rfl : gc_cat 106 = 12) (gb_iw (lo := 0) (hi := 600) iv3 (by decide)) (by decide)) (fun s_12 es_12 hTs_12 => ?_)
        exact gc_some (hret _ _ hTs_12 (gb_iw (lo := 0) (hi := 1) (gb_ic (a := 1) (by decide)) (by decide)))
    · have j_4577 : gb_iv 4 599 (v3 - (σ.1 106 3)) := (gb_rL (lo := 4) (hi := 599) (gb_dnle c_4570) (gb_isub (lo := (-600)) (hi := 599) iv3 (gr_rd (c := 12) (lo := 0) (hi := 600) hT (rfl : gc_cat 106 = 12) (by decide)) (by decide)) (gb_ic (a := 3) (by decide)) (by decide))
      exact gc_some (hret _ _ hT (gb_iw (lo := 0) (hi := 1) (gb_ic (a := 0) (by decide)) (by decide)))
set_option maxHeartbeats 4000000 in
theorem cr_Reader_takeNumber_8 {n : Nat} (hn : gb_N ≤ n) {Q : gb_S → Int32 → Prop} (hret : ∀ (σ : gb_S) (r : Int32), gb_TR σ → gb_iv 0 1 r → Q σ r) : ∀ (mm : Nat) (σ : gb_S) (v1 : Int32) (v2 : Int32) (v3 : Int32) (v4 : Int32), gb_TR σ → gb_iv 0 17 v1 → gb_iv 0 4 v2 → gb_iv 0 600 v3 → gb_iv (-2147483648) 2147483647 v4 → (600 - v3.toInt).toNat < mm → gb_tc (cs_Reader_takeNumber_8 n mm σ v1 v2 v3 v4) Q := by
  intro mm
  induction mm with
  | zero =>
    intro σ v1 v2 v3 v4 hT iv1 iv2 iv3 iv4 hm
    exact absurd hm (Nat.not_lt_zero _)
  | succ mm ih =>
    intro σ v1 v2 v3 v4 hT iv1 iv2 iv3 iv4 hm
    rw [cs_Reader_takeNumber_8]
    refine gc_if (fun c_4554 => ?_) (fun c_4554 => ?_)
    · exact cr_Reader_takeNumber_61 hn hret _ _ _ _ _ hT iv1 iv2 iv3 (gb_it _)
    · have j_4564 : gb_iv 0 599 v3 := (gb_rU (lo := 0) (hi := 599) (gb_dnle c_4554) iv3 (gr_rd (c := 12) (lo := 0) (hi := 600) hT (rfl : gc_cat 106 = 12) (by decide)) (by decide))
      have j_4565 : gb_iv 1 600 (σ.1 106 2) := (gb_rL (lo := 1) (hi := 600) (gb_dnle c_4554) (gr_rd (c := 12) (lo := 0) (hi := 600) hT (rfl : gc_cat 106 = 12) (by decide)) j_4564 (by decide))
      refine gc_kk (gr_q0 hT) ?_
      refine gc_ck j_4564 (by decide) ?_
      refine gc_lti (lo := (-2147483648)) (hi := 2147483647) (gb_it _) (fun x_20 ex_20 ix_20 => ?_)
      refine gc_if (fun c_4566 => ?_) (fun c_4566 => ?_)
      · have j_4567 : gb_iv (-2147483648) 47 x_20 := (gb_rU (lo := (-2147483648)) (hi := 47) (gb_dlt c_4566) (gb_it _) (gb_ic (a := 48) (by decide)) (by decide))
        exact cr_Reader_takeNumber_61_i1 hn hret _ _ _ _ _ hT iv1 iv2 j_4564 (gb_it _)
      · have j_4578 : gb_iv 48 2147483647 x_20 := (gb_rL (lo := 48) (hi := 2147483647) (gb_dnlt c_4566) (gb_it _) (gb_ic (a := 48) (by decide)) (by decide))
        refine gc_kk (gr_q0 hT) ?_
        refine gc_ck j_4564 (by decide) ?_
        refine gc_lti (lo := 48) (hi := 2147483647) (gb_ie ex_20.symm j_4578) (fun x_24 ex_24 ix_24 => ?_)
        refine gc_if (fun c_4579 => ?_) (fun c_4579 => ?_)
        · have j_4580 : gb_iv 58 2147483647 x_24 := (gb_rL (lo := 58) (hi := 2147483647) (gb_dlt c_4579) ix_24 (gb_ic (a := 57) (by decide)) (by decide))
          exact cr_Reader_takeNumber_61_i1 hn hret _ _ _ _ _ hT iv1 iv2 j_4564 (gb_it _)
        · have j_4581 : gb_iv 48 57 x_24 := (gb_rU (lo := 48) (hi := 57) (gb_dnlt c_4579) ix_24 (gb_ic (a := 57) (by decide)) (by decide))
          refine gc_kk (gr_q0 hT) ?_
          refine gc_ck j_4564 (by decide) ?_
          refine gc_lti (lo := 48) (hi := 2147483647) (gb_ie ex_20.symm j_4578) (fun x_28 ex_28 ix_28 => ?_)
          refine gc_lti (lo := (-2147483648)) (hi := 2147483647) (gb_it _) (fun x_29 ex_29 ix_29 => ?_)
          refine gc_lti (lo := 1) (hi := 600) (gb_iadd (lo := 1) (hi := 600) j_4564 (gb_ic (a := 1) (by decide)) (by decide)) (fun x_30 ex_30 ix_30 => ?_)
          exact ih _ _ _ _ _ hT iv1 iv2 (gb_iw (lo := 0) (hi := 600) ix_30 (by decide)) (gb_it _) (gb_mup ex_30 j_4564 (by decide) hm)
set_option maxHeartbeats 4000000 in
theorem cr_Reader_takeNumber {n : Nat} (hn : gb_N ≤ n) {σ : gb_S} {p1 : Int32} {p2 : Int32} (hT : gb_TR σ) (ip1 : gb_iv 0 17 p1) (ip2 : gb_iv 0 4 p2) : gb_tc (cs_Reader_takeNumber n σ p1 p2) (fun s r => gb_TR s ∧ gb_iv 0 1 r) := by
  unfold cs_Reader_takeNumber
  refine gc_lti (lo := 0) (hi := 600) (gr_rd (c := 12) (lo := 0) (hi := 600) hT (rfl : gc_cat 106 = 12) (by decide)) (fun x_1 ex_1 ix_1 => ?_)
  exact cr_Reader_takeNumber_8 hn (fun _ _ hT h => ⟨hT, h⟩) n _ _ _ _ _ hT ip1 ip2 ix_1 (gb_iw (lo := (-2147483648)) (hi := 2147483647) (gb_ic (a := 0) (by decide)) (by decide)) (gb_fuu hn ix_1 (by decide))
set_option maxHeartbeats 4000000 in
theorem cr_Reader_readLine_S_38 {n : Nat} (hn : gb_N ≤ n) {Q : gb_S → Int32 → Prop} (hret : ∀ (σ : gb_S) (r : Int32), gb_TR σ → gb_iv 0 1 r → Q σ r) : ∀ (mm : Nat) (σ : gb_S) (v2 : Nat) (v4 : Int32) (v5 : Int32), gb_TR σ → gb_kS v2 = true → gb_iv 0 17 v4 → gb_iv 0 5 v5 → (5 - v5.toInt).toNat < mm → gb_tc (cs_Reader_readLine_S_38 n mm σ v2 v4 v5) Q := by
  intro mm
  induction mm with
  | zero =>
    intro σ v2 v4 v5 hT hv2 iv4 iv5 hm
    exact absurd hm (Nat.not_lt_zero _)
  | succ mm ih =>
    intro σ v2 v4 v5 hT hv2 iv4 iv5 hm
    rw [cs_Reader_readLine_S_38]
    refine gc_ck iv4 (by decide) ?_
    refine gc_lti (lo := 0) (hi := 5) (gt_b1 _) (fun x_14 ex_14 ix_14 => ?_)
    refine gc_if (fun c_7310 => ?_) (fun c_7310 => ?_)
    · refine gr_cdT (cr_Reader_skipBlanks hn hT) (fun s_16 u_7311 hTs_16 _ => ?_)
      refine gc_if (fun c_7312 => ?_) (fun c_7312 => ?_)
      · exact gc_some (hret _ _ hTs_16 (gb_iw (lo := 0) (hi := 1) (gb_ic (a := 0) (by decide)) (by decide)))
      · have j_7313 : gb_iv 0 599 (s_16.1 106 3) := (gb_rU (lo := 0) (hi := 599) (gb_dnle c_7312) (gr_rd (c := 12) (lo := 0) (hi := 600) hTs_16 (rfl : gc_cat 106 = 12) (by decide)) (gr_rd (c := 12) (lo := 0) (hi := 600) hTs_16 (rfl : gc_cat 106 = 12) (by decide)) (by decide))
        have j_7314 : gb_iv 1 600 (s_16.1 106 2) := (gb_rL (lo := 1) (hi := 600) (gb_dnle c_7312) (gr_rd (c := 12) (lo := 0) (hi := 600) hTs_16 (rfl : gc_cat 106 = 12) (by decide)) j_7313 (by decide))
        refine gc_kk (gr_q0 hTs_16) ?_
        refine gc_ck j_7313 (by decide) ?_
        refine gc_lti (lo := (-2147483648)) (hi := 2147483647) (gb_it _) (fun x_23 ex_23 ix_23 => ?_)
        refine gc_if (fun c_7315 => ?_) (fun c_7315 => ?_)
        · have j_7316 : gb_iv (-2147483648) 59 x_23 := (gb_rU (lo := (-2147483648)) (hi := 59) (gb_deq c_7315) (gb_it _) (gb_ic (a := 59) (by decide)) (by decide))
          have j_7317 : gb_iv 59 59 x_23 := (gb_rL (lo := 59) (hi := 59) (gb_deq2 c_7315) j_7316 (gb_ic (a := 59) (by decide)) (by decide))
          refine gr_ltT (gr_su (c := 12) (lo := 0) (hi := 600) hTs_16 (rfl : gc_cat 106 = 12) (gb_iw (lo := 0) (hi := 600) (gb_iadd (lo := 1) (hi := 600) j_7313 (gb_ic (a := 1) (by decide)) (by decide)) (by decide)) (by decide)) (fun s_25 es_25 hTs_25 => ?_)
          refine gc_if (fun c_7318 => ?_) (fun c_7318 => ?_)
          · refine gr_cdT (cr_Border_addLine_B_c107 hn hTs_25 c_7318) (fun s_27 u_7319 hTs_27 _ => ?_)
            exact gc_some (hret _ _ hTs_27 (gb_iw (lo := 0) (hi := 1) (gb_ic (a := 1) (by decide)) (by decide)))
          · refine gc_if (fun c_7320 => ?_) (fun c_7320 => ?_)
            · refine gr_cdT (cr_Lines_addLine_N_c107 hn hTs_25 c_7320) (fun s_32 u_7321 hTs_32 _ => ?_)
              exact gc_some (hret _ _ hTs_32 (gb_iw (lo := 0) (hi := 1) (gb_ic (a := 1) (by decide)) (by decide)))
            · refine gc_if (fun c_7322 => ?_) (fun c_7322 => ?_)
              · refine gr_cdT (cr_Lines_addLine_L_c107 hn hTs_25 c_7322) (fun s_37 u_7323 hTs_37 _ => ?_)
                exact gc_some (hret _ _ hTs_37 (gb_iw (lo := 0) (hi := 1) (gb_ic (a := 1) (by decide)) (by decide)))
              · refine gc_if (fun c_7324 => ?_) (fun c_7324 => ?_)
                · refine gr_cdT (cr_Lines_addLine_D_c107 hn hTs_25 c_7324) (fun s_42 u_7325 hTs_42 _ => ?_)
                  exact gc_some (hret _ _ hTs_42 (gb_iw (lo := 0) (hi := 1) (gb_ic (a := 1) (by decide)) (by decide)))
                · exact (gb_kS_no hv2 c_7318 c_7320 c_7322 c_7324).elim
        · exact gc_some (hret _ _ hTs_16 (gb_iw (lo := 0) (hi := 1) (gb_ic (a := 0) (by decide)) (by decide)))
    · have j_7326 : gb_iv 0 4 v5 := (gb_rU (lo := 0) (hi := 4) (gb_dnle c_7310) iv5 ix_14 (by decide))
      have j_7327 : gb_iv 1 5 x_14 := (gb_rL (lo := 1) (hi := 5) (gb_dnle c_7310) ix_14 j_7326 (by decide))
      refine gr_cdT (cr_Reader_skipBlanks hn hT) (fun s_46 u_7328 hTs_46 _ => ?_)
      refine gr_cdT (cr_Reader_takeNumber hn hTs_46 iv4 j_7326) (fun s_50 r_51 hTs_50 h_7329 => ?_)
      refine gc_if (fun c_7330 => ?_) (fun c_7330 => ?_)
      · have j_7331 : gb_iv 0 0 r_51 := (gb_rU (lo := 0) (hi := 0) (gb_deq c_7330) h_7329 (gb_ic (a := 0) (by decide)) (by decide))
        exact gc_some (hret _ _ hTs_50 (gb_iw (lo := 0) (hi := 1) (gb_ic (a := 0) (by decide)) (by decide)))
      · have j_7332 : gb_iv 1 1 r_51 := (gb_rN (lo := 1) (hi := 1) (v := 0) c_7330 h_7329 (by decide) (by decide))
        refine gc_lti (lo := 1) (hi := 5) (gb_iadd (lo := 1) (hi := 5) j_7326 (gb_ic (a := 1) (by decide)) (by decide)) (fun x_55 ex_55 ix_55 => ?_)
        exact ih _ _ _ _ hTs_50 hv2 iv4 (gb_iw (lo := 0) (hi := 5) ix_55 (by decide)) (gb_mup ex_55 j_7326 (by decide) hm)
set_option maxHeartbeats 4000000 in
theorem cr_Reader_readLine_S {n : Nat} (hn : gb_N ≤ n) {σ : gb_S} {p1 : Int32} {p2 : Nat} (hT : gb_TR σ) (hp2 : gb_kS p2 = true) (ip1 : gb_iv 0 3 p1) : gb_tc (cs_Reader_readLine_S n σ p1 p2) (fun s r => gb_TR s ∧ gb_iv 0 1 r) := by
  unfold cs_Reader_readLine_S
  refine gc_lti (lo := 0) (hi := 600) (gr_rd (c := 12) (lo := 0) (hi := 600) hT (rfl : gc_cat 106 = 12) (by decide)) (fun x_1 ex_1 ix_1 => ?_)
  refine gr_cdT (cr_Reader_takeWord hn hT ip1) (fun s_2 r_3 hTs_2 h_7002 => ?_)
  refine gc_if (fun c_7003 => ?_) (fun c_7003 => ?_)
  · have j_7004 : gb_iv (-1) (-1) r_3 := (gb_rU (lo := (-1)) (hi := (-1)) (gb_deq c_7003) h_7002 (gb_ic (a := (-1)) (by decide)) (by decide))
    exact gc_some ⟨hTs_2, (gb_iw (lo := 0) (hi := 1) (gb_ic (a := 0) (by decide)) (by decide))⟩
  · have j_7005 : gb_iv 0 17 r_3 := (gb_rN (lo := 0) (hi := 17) (v := (-1)) c_7003 h_7002 (by decide) (by decide))
    refine gc_if (fun c_7006 => ?_) (fun c_7006 => ?_)
    · refine gc_cdP (cr_Border_hasRoomFor_B hn hTs_2 c_7006) (fun r_9 qr_9 h_7007 => ?_)
      refine gc_if (fun c_7008 => ?_) (fun c_7008 => ?_)
      · have j_7009 : gb_iv 0 0 r_9 := (gb_rU (lo := 0) (hi := 0) (gb_deq c_7008) h_7007 (gb_ic (a := 0) (by decide)) (by decide))
        refine gr_cdT (cr_Reader_note hn hTs_2) (fun s_56 u_7010 hTs_56 _ => ?_)
        exact cr_Reader_readLine_S_38 hn (fun _ _ hT h => ⟨hT, h⟩) n _ _ _ _ hTs_56 hp2 j_7005 (gb_iw (lo := 0) (hi := 5) (gb_ic (a := 0) (by decide)) (by decide)) (gb_fuu hn (gb_iw (lo := 0) (hi := 5) (gb_ic (a := 0) (by decide)) (by decide)) (by decide))
      · have j_7333 : gb_iv 1 1 r_9 := (gb_rN (lo := 1) (hi := 1) (v := 0) c_7008 h_7007 (by decide) (by decide))
        exact cr_Reader_readLine_S_38 hn (fun _ _ hT h => ⟨hT, h⟩) n _ _ _ _ hTs_2 hp2 j_7005 (gb_iw (lo := 0) (hi := 5) (gb_ic (a := 0) (by decide)) (by decide)) (gb_fuu hn (gb_iw (lo := 0) (hi := 5) (gb_ic (a := 0) (by decide)) (by decide)) (by decide))
    · refine gc_if (fun c_7633 => ?_) (fun c_7633 => ?_)
      · refine gc_cdP (cr_Lines_hasRoomFor_N hn hTs_2 c_7633) (fun r_62 qr_62 h_7634 => ?_)
        refine gc_if (fun c_7635 => ?_) (fun c_7635 => ?_)
        · have j_7636 : gb_iv 0 0 r_62 := (gb_rU (lo := 0) (hi := 0) (gb_deq c_7635) h_7634 (gb_ic (a := 0) (by decide)) (by decide))
          refine gr_cdT (cr_Reader_note hn hTs_2) (fun s_66 u_7637 hTs_66 _ => ?_)
          exact cr_Reader_readLine_S_38 hn (fun _ _ hT h => ⟨hT, h⟩) n _ _ _ _ hTs_66 hp2 j_7005 (gb_iw (lo := 0) (hi := 5) (gb_ic (a := 0) (by decide)) (by decide)) (gb_fuu hn (gb_iw (lo := 0) (hi := 5) (gb_ic (a := 0) (by decide)) (by decide)) (by decide))
        · have j_7937 : gb_iv 1 1 r_62 := (gb_rN (lo := 1) (hi := 1) (v := 0) c_7635 h_7634 (by decide) (by decide))
          exact cr_Reader_readLine_S_38 hn (fun _ _ hT h => ⟨hT, h⟩) n _ _ _ _ hTs_2 hp2 j_7005 (gb_iw (lo := 0) (hi := 5) (gb_ic (a := 0) (by decide)) (by decide)) (gb_fuu hn (gb_iw (lo := 0) (hi := 5) (gb_ic (a := 0) (by decide)) (by decide)) (by decide))
      · refine gc_if (fun c_8237 => ?_) (fun c_8237 => ?_)
        · refine gc_cdP (cr_Lines_hasRoomFor_L hn hTs_2 c_8237) (fun r_72 qr_72 h_8238 => ?_)
          refine gc_if (fun c_8239 => ?_) (fun c_8239 => ?_)
          · have j_8240 : gb_iv 0 0 r_72 := (gb_rU (lo := 0) (hi := 0) (gb_deq c_8239) h_8238 (gb_ic (a := 0) (by decide)) (by decide))
            refine gr_cdT (cr_Reader_note hn hTs_2) (fun s_76 u_8241 hTs_76 _ => ?_)
            exact cr_Reader_readLine_S_38 hn (fun _ _ hT h => ⟨hT, h⟩) n _ _ _ _ hTs_76 hp2 j_7005 (gb_iw (lo := 0) (hi := 5) (gb_ic (a := 0) (by decide)) (by decide)) (gb_fuu hn (gb_iw (lo := 0) (hi := 5) (gb_ic (a := 0) (by decide)) (by decide)) (by decide))
          · have j_8541 : gb_iv 1 1 r_72 := (gb_rN (lo := 1) (hi := 1) (v := 0) c_8239 h_8238 (by decide) (by decide))
            exact cr_Reader_readLine_S_38 hn (fun _ _ hT h => ⟨hT, h⟩) n _ _ _ _ hTs_2 hp2 j_7005 (gb_iw (lo := 0) (hi := 5) (gb_ic (a := 0) (by decide)) (by decide)) (gb_fuu hn (gb_iw (lo := 0) (hi := 5) (gb_ic (a := 0) (by decide)) (by decide)) (by decide))
        · refine gc_if (fun c_8841 => ?_) (fun c_8841 => ?_)
          · refine gc_cdP (cr_Lines_hasRoomFor_D hn hTs_2 c_8841) (fun r_82 qr_82 h_8842 => ?_)
            refine gc_if (fun c_8843 => ?_) (fun c_8843 => ?_)
            · have j_8844 : gb_iv 0 0 r_82 := (gb_rU (lo := 0) (hi := 0) (gb_deq c_8843) h_8842 (gb_ic (a := 0) (by decide)) (by decide))
              refine gr_cdT (cr_Reader_note hn hTs_2) (fun s_86 u_8845 hTs_86 _ => ?_)
              exact cr_Reader_readLine_S_38 hn (fun _ _ hT h => ⟨hT, h⟩) n _ _ _ _ hTs_86 hp2 j_7005 (gb_iw (lo := 0) (hi := 5) (gb_ic (a := 0) (by decide)) (by decide)) (gb_fuu hn (gb_iw (lo := 0) (hi := 5) (gb_ic (a := 0) (by decide)) (by decide)) (by decide))
            · have j_9145 : gb_iv 1 1 r_82 := (gb_rN (lo := 1) (hi := 1) (v := 0) c_8843 h_8842 (by decide) (by decide))
              exact cr_Reader_readLine_S_38 hn (fun _ _ hT h => ⟨hT, h⟩) n _ _ _ _ hTs_2 hp2 j_7005 (gb_iw (lo := 0) (hi := 5) (gb_ic (a := 0) (by decide)) (by decide)) (gb_fuu hn (gb_iw (lo := 0) (hi := 5) (gb_ic (a := 0) (by decide)) (by decide)) (by decide))
          · exact (gb_kS_no hp2 c_7006 c_7633 c_8237 c_8841).elim
set_option maxHeartbeats 4000000 in
theorem cr_Reader_read_c23_S_42 {n : Nat} (hn : gb_N ≤ n) {Q : gb_S → Unit → Prop} (hret : ∀ (σ : gb_S) (r : Unit), gb_TR σ → True → Q σ r) : ∀ (mm : Nat) (σ : gb_S) (v3 : Int32) (v4 : Nat) (v5 : Int32), gb_TR σ → gb_kS v4 = true → gb_iv 0 3 v3 → gb_iv 0 600 v5 → (600 - v5.toInt).toNat < mm → gb_tc (cs_Reader_read_c23_S_42 n mm σ v3 v4 v5) Q := by
  intro mm
  induction mm with
  | zero =>
    intro σ v3 v4 v5 hT hv4 iv3 iv5 hm
    exact absurd hm (Nat.not_lt_zero _)
  | succ mm ih =>
    intro σ v3 v4 v5 hT hv4 iv3 iv5 hm
    rw [cs_Reader_read_c23_S_42]
    refine gc_if (fun c_10469 => ?_) (fun c_10469 => ?_)
    · have j_10470 : gb_iv 600 600 v5 := (gb_rL (lo := 600) (hi := 600) (gb_dle c_10469) iv5 (gb_ic (a := 600) (by decide)) (by decide))
      refine gc_if (fun c_10471 => ?_) (fun c_10471 => ?_)
      · have j_10472 : gb_iv (-2147483648) 0 (σ.1 106 4) := (gb_rU (lo := (-2147483648)) (hi := 0) (gb_deq c_10471) (gb_it _) (gb_ic (a := 0) (by decide)) (by decide))
        have j_10473 : gb_iv 0 0 (σ.1 106 4) := (gb_rL (lo := 0) (hi := 0) (gb_deq2 c_10471) j_10472 (gb_ic (a := 0) (by decide)) (by decide))
        refine gc_if (fun c_10474 => ?_) (fun c_10474 => ?_)
        · refine gc_cdP (cr_Border_clashes_B hn hT c_10474) (fun r_20 qr_20 h_10475 => ?_)
          refine gc_if (fun c_10476 => ?_) (fun c_10476 => ?_)
          · exact gc_some (hret _ _ hT trivial)
          · exact (gb_em (gb_rN (lo := 1) (hi := (-1)) (v := 0) c_10476 h_10475 (by decide) (by decide)) (by decide)).elim
        · refine gc_if (fun c_10477 => ?_) (fun c_10477 => ?_)
          · refine gc_cdP (cr_Lines_clashes_N hn hT c_10477) (fun r_30 qr_30 h_10478 => ?_)
            refine gc_if (fun c_10479 => ?_) (fun c_10479 => ?_)
            · exact gc_some (hret _ _ hT trivial)
            · exact (gb_em (gb_rN (lo := 1) (hi := (-1)) (v := 0) c_10479 h_10478 (by decide) (by decide)) (by decide)).elim
          · refine gc_if (fun c_10480 => ?_) (fun c_10480 => ?_)
            · refine gc_cdP (cr_Lines_clashes_L hn hT c_10480) (fun r_40 qr_40 h_10481 => ?_)
              refine gc_if (fun c_10482 => ?_) (fun c_10482 => ?_)
              · exact gc_some (hret _ _ hT trivial)
              · exact (gb_em (gb_rN (lo := 1) (hi := (-1)) (v := 0) c_10482 h_10481 (by decide) (by decide)) (by decide)).elim
            · refine gc_if (fun c_10483 => ?_) (fun c_10483 => ?_)
              · refine gc_cdP (cr_Dawn_clashes_D hn hT c_10483) (fun r_50 qr_50 h_10484 => ?_)
                refine gc_if (fun c_10485 => ?_) (fun c_10485 => ?_)
                · have j_10486 : gb_iv 0 0 r_50 := (gb_rU (lo := 0) (hi := 0) (gb_deq c_10485) h_10484 (gb_ic (a := 0) (by decide)) (by decide))
                  exact gc_some (hret _ _ hT trivial)
                · have j_10487 : gb_iv 1 1 r_50 := (gb_rN (lo := 1) (hi := 1) (v := 0) c_10485 h_10484 (by decide) (by decide))
                  refine gr_cdT (cr_Reader_note hn hT) (fun s_54 u_10488 hTs_54 _ => ?_)
                  exact gc_some (hret _ _ hTs_54 trivial)
              · exact (gb_kS_no hv4 c_10474 c_10477 c_10480 c_10483).elim
      · exact gc_some (hret _ _ hT trivial)
    · have j_10489 : gb_iv 0 599 v5 := (gb_rU (lo := 0) (hi := 599) (gb_dnle c_10469) iv5 (gb_ic (a := 600) (by decide)) (by decide))
      refine gc_if (fun c_10490 => ?_) (fun c_10490 => ?_)
      · refine gc_if (fun c_10491 => ?_) (fun c_10491 => ?_)
        · have j_10492 : gb_iv (-2147483648) 0 (σ.1 106 4) := (gb_rU (lo := (-2147483648)) (hi := 0) (gb_deq c_10491) (gb_it _) (gb_ic (a := 0) (by decide)) (by decide))
          have j_10493 : gb_iv 0 0 (σ.1 106 4) := (gb_rL (lo := 0) (hi := 0) (gb_deq2 c_10491) j_10492 (gb_ic (a := 0) (by decide)) (by decide))
          refine gc_if (fun c_10494 => ?_) (fun c_10494 => ?_)
          · refine gc_cdP (cr_Border_clashes_B hn hT c_10494) (fun r_62 qr_62 h_10495 => ?_)
            refine gc_if (fun c_10496 => ?_) (fun c_10496 => ?_)
            · exact gc_some (hret _ _ hT trivial)
            · exact (gb_em (gb_rN (lo := 1) (hi := (-1)) (v := 0) c_10496 h_10495 (by decide) (by decide)) (by decide)).elim
          · refine gc_if (fun c_10497 => ?_) (fun c_10497 => ?_)
            · refine gc_cdP (cr_Lines_clashes_N hn hT c_10497) (fun r_72 qr_72 h_10498 => ?_)
              refine gc_if (fun c_10499 => ?_) (fun c_10499 => ?_)
              · exact gc_some (hret _ _ hT trivial)
              · exact (gb_em (gb_rN (lo := 1) (hi := (-1)) (v := 0) c_10499 h_10498 (by decide) (by decide)) (by decide)).elim
            · refine gc_if (fun c_10500 => ?_) (fun c_10500 => ?_)
              · refine gc_cdP (cr_Lines_clashes_L hn hT c_10500) (fun r_82 qr_82 h_10501 => ?_)
                refine gc_if (fun c_10502 => ?_) (fun c_10502 => ?_)
                · exact gc_some (hret _ _ hT trivial)
                · exact (gb_em (gb_rN (lo := 1) (hi := (-1)) (v := 0) c_10502 h_10501 (by decide) (by decide)) (by decide)).elim
              · refine gc_if (fun c_10503 => ?_) (fun c_10503 => ?_)
                · refine gc_cdP (cr_Dawn_clashes_D hn hT c_10503) (fun r_92 qr_92 h_10504 => ?_)
                  refine gc_if (fun c_10505 => ?_) (fun c_10505 => ?_)
                  · have j_10506 : gb_iv 0 0 r_92 := (gb_rU (lo := 0) (hi := 0) (gb_deq c_10505) h_10504 (gb_ic (a := 0) (by decide)) (by decide))
                    exact gc_some (hret _ _ hT trivial)
                  · have j_10507 : gb_iv 1 1 r_92 := (gb_rN (lo := 1) (hi := 1) (v := 0) c_10505 h_10504 (by decide) (by decide))
                    refine gr_cdT (cr_Reader_note hn hT) (fun s_96 u_10508 hTs_96 _ => ?_)
                    exact gc_some (hret _ _ hTs_96 trivial)
                · exact (gb_kS_no hv4 c_10494 c_10497 c_10500 c_10503).elim
        · exact gc_some (hret _ _ hT trivial)
      · have j_10509 : gb_iv 0 599 (σ.1 106 3) := (gb_rU (lo := 0) (hi := 599) (gb_dnle c_10490) (gr_rd (c := 12) (lo := 0) (hi := 600) hT (rfl : gc_cat 106 = 12) (by decide)) (gr_rd (c := 12) (lo := 0) (hi := 600) hT (rfl : gc_cat 106 = 12) (by decide)) (by decide))
        have j_10510 : gb_iv 1 600 (σ.1 106 2) := (gb_rL (lo := 1) (hi := 600) (gb_dnle c_10490) (gr_rd (c := 12) (lo := 0) (hi := 600) hT (rfl : gc_cat 106 = 12) (by decide)) j_10509 (by decide))
        refine gr_cdT (cr_Reader_readLine_S hn hT hv4 iv3) (fun s_100 r_101 hTs_100 h_10511 => ?_)
        refine gc_if (fun c_10512 => ?_) (fun c_10512 => ?_)
        · have j_10513 : gb_iv 0 0 r_101 := (gb_rU (lo := 0) (hi := 0) (gb_deq c_10512) h_10511 (gb_ic (a := 0) (by decide)) (by decide))
          refine gr_ltT (gr_su (c := 12) (lo := (-2147483648)) (hi := 2147483647) hTs_100 (rfl : gc_cat 106 = 12) (gb_iw (lo := (-2147483648)) (hi := 2147483647) (gb_ic (a := 1) (by decide)) (by decide)) (by decide)) (fun s_110 es_110 hTs_110 => ?_)
          refine gr_ltT (gr_su (c := 12) (lo := (-2147483648)) (hi := 2147483647) hTs_110 (rfl : gc_cat 106 = 12) (gb_iw (lo := (-2147483648)) (hi := 2147483647) (gr_rd (c := 12) (lo := 0) (hi := 600) hTs_110 (rfl : gc_cat 106 = 12) (by decide)) (by decide)) (by decide)) (fun s_111 es_111 hTs_111 => ?_)
          exact gc_some (hret _ _ hTs_111 trivial)
        · have j_10514 : gb_iv 1 1 r_101 := (gb_rN (lo := 1) (hi := 1) (v := 0) c_10512 h_10511 (by decide) (by decide))
          refine gr_cdT (cr_Reader_skipBlanks hn hTs_100) (fun s_105 u_10515 hTs_105 _ => ?_)
          refine gc_lti (lo := 1) (hi := 600) (gb_iadd (lo := 1) (hi := 600) j_10489 (gb_ic (a := 1) (by decide)) (by decide)) (fun x_109 ex_109 ix_109 => ?_)
          exact ih _ _ _ _ hTs_105 hv4 iv3 (gb_iw (lo := 0) (hi := 600) ix_109 (by decide)) (gb_mup ex_109 j_10489 (by decide) hm)
set_option maxHeartbeats 4000000 in
theorem cr_readAll {n : Nat} (hn : gb_N ≤ n) {σ : gb_S} {v3 : Int32} {v4 : Nat} (hT : gb_TR σ) (hv4 : gb_kS v4 = true) (iv3 : gb_iv 0 3 v3) : gb_tc (cs_Reader_read_c23_S_42 n n σ v3 v4 0) (fun s _ => gb_TR s ∧ True) := by
  exact cr_Reader_read_c23_S_42 hn (fun _ _ hT h => ⟨hT, h⟩) n _ _ _ _ hT hv4 iv3 (gb_iw (lo := 0) (hi := 600) (gb_ic (a := 0) (by decide)) (by decide)) (gb_fuu hn (gb_iw (lo := 0) (hi := 600) (gb_ic (a := 0) (by decide)) (by decide)) (by decide))
/-! THE CLASS: read, text -/
theorem gb_kS_B {k : Nat} (h : gb_kB k = true) : gb_kS k = true := by unfold gb_kS; rw [h]; rfl
theorem gb_kS_N {k : Nat} (h : gb_kN k = true) : gb_kS k = true := by unfold gb_kS; rw [h]; cases gb_kB k <;> rfl
theorem gb_kS_L {k : Nat} (h : gb_kL k = true) : gb_kS k = true := by unfold gb_kS; rw [h]; cases gb_kB k <;> cases gb_kN k <;> rfl
theorem gb_kS_D {k : Nat} (h : gb_kD k = true) : gb_kS k = true := by unfold gb_kS; rw [h]; cases gb_kB k <;> cases gb_kN k <;> cases gb_kL k <;> rfl
set_option maxHeartbeats 4000000 in
theorem cr_read {n : Nat} (hn : gb_N ≤ n) {σ : gb_S} {p2 p3 : Int32} {p4 : Nat} (hT : gb_TC σ) (hk : gb_kS p4 = true) (i2 : gb_iv 0 600 p2) (i3 : gb_iv 0 3 p3) : gb_tc (cs_Reader_read_c23_S n σ p2 p3 p4) (fun s _ => gb_TC s) := by
  unfold cs_Reader_read_c23_S
  refine gc_lt (fun s1 e1 => ?_)
  have hT1 : gb_TR s1 := by
    rw [e1]
    exact ⟨⟨hT.1, hT.2⟩, rfl⟩
  refine gc_lti (gb_imin (lo := 0) (hi := 600) i2 (gb_ic (x := 600) (a := 600) (by decide)) (by decide)) (fun x ex ix => ?_)
  refine gr_ltT (gr_su (c := 12) (lo := 0) (hi := 600) hT1 rfl ix (by decide)) (fun s2 e2 hT2 => ?_)
  refine gr_ltT (gr_su (c := 12) (lo := 0) (hi := 0) hT2 rfl (gb_ic (a := 0) (by decide)) (by decide)) (fun s3 e3 hT3 => ?_)
  refine gr_ltT (gr_su (c := 12) (lo := -2147483648) (hi := 2147483647) hT3 rfl (gb_it _) (by decide)) (fun s4 e4 hT4 => ?_)
  refine gr_ltT (gr_su (c := 12) (lo := -2147483648) (hi := 2147483647) hT4 rfl (gb_it _) (by decide)) (fun s5 e5 hT5 => ?_)
  have rest : ∀ s : gb_S, gb_TR s → gb_tc (gb_cd (cs_Reader_skipBlanks n s) (fun s_12 _ => cs_Reader_read_c23_S_42 n n s_12 p3 p4 0)) (fun s _ => gb_TC s) := fun s hs => by
    refine gr_cdT (cr_Reader_skipBlanks hn hs) (fun s6 _ hT6 _ => ?_)
    exact gc_mono (cr_readAll hn hT6 hk i3) (fun _ _ h => h.1.1)
  refine gc_if (fun h => gr_cdT (cr_Border_clear_B hn hT5 h) (fun s _ hs _ => rest s hs)) (fun h1 => ?_)
  refine gc_if (fun h => gr_cdT (cr_Lines_clear_N hn hT5 h) (fun s _ hs _ => rest s hs)) (fun h2 => ?_)
  refine gc_if (fun h => gr_cdT (cr_Lines_clear_L hn hT5 h) (fun s _ hs _ => rest s hs)) (fun h3 => ?_)
  refine gc_if (fun h => gr_cdT (cr_Lines_clear_D hn hT5 h) (fun s _ hs _ => rest s hs)) (fun h4 => ?_)
  exact (gb_kS_no hk h1 h2 h3 h4).elim
set_option maxHeartbeats 4000000 in
theorem ct_text_171 {n : Nat} {σ : gb_S} {v1 v4 v5 t0 : Int32} {v6 : Nat} (hT : gb_TC σ) (i1 : gb_iv 0 3 v1) (i4 : gb_iv 0 1 v4) (it : gb_iv 0 1 t0) (h6 : gc_ks v1 v6) : gb_tc (cs_Face_text_171 n σ v1 v4 v5 v6 t0) (fun s _ => gb_TC s) := by
  unfold cs_Face_text_171
  refine gc_cdP (ct_sheetOf (k0 := 1) rfl i1 it) (fun r _ hr => ?_)
  have hr0 : ¬ r = 0 := by
    rcases gc_4 i1 with e | e | e | e
    · exact gb_nzB (hr.1 e)
    · exact gb_nzN (hr.2.1 e)
    · exact gb_nzL (hr.2.2.1 e)
    · exact gb_nzD (hr.2.2.2 e)
  rw [if_neg hr0]
  have fin : ∀ s : gb_S, gb_TC s → gb_tc (if v5 = 0 then (some (s, t0) : gb_CR Int32) else gb_ck v1 4 (gb_lt (gb_su s 22 (upd (s.1 22) (Int32.toNatClampNeg v1) (v4 + 1))) (fun s_36 => some (s_36, t0)))) (fun s _ => gb_TC s) := fun s hs => by
    refine gc_if (fun _ => gc_some hs) (fun _ => gc_ck i1 (by decide) (gc_ltT (gc_su (c := 5) (lo := 0) (hi := 2) hs rfl (gb_iw (gb_iadd (lo := 1) (hi := 2) i4 (gb_ic (a := 1) (by decide)) (by decide)) (by decide)) ⟨Int.le_refl _, Int.le_refl _⟩) (fun s2 e2 hs2 => gc_some hs2)))
  rcases gc_4 i1 with e | e | e | e
  · have a := hr.1 e
    rw [if_pos a]
    exact gc_kk (h6.1 e) (gc_cdT (ct_Sheet_copyFrom_B_B hT a (h6.1 e)) (fun s _ hs _ => fin s hs))
  · have a := hr.2.1 e
    rw [if_neg (gc_BN a), if_pos a]
    exact gc_kk (h6.2.1 e) (gc_cdT (ct_Sheet_copyFrom_NN hT a (h6.2.1 e)) (fun s _ hs _ => fin s hs))
  · have a := hr.2.2.1 e
    rw [if_neg (gc_BL a).1, if_neg (gc_BL a).2, if_pos a]
    exact gc_kk (h6.2.2.1 e) (gc_cdT (ct_Sheet_copyFrom_L_L hT a (h6.2.2.1 e)) (fun s _ hs _ => fin s hs))
  · have a := hr.2.2.2 e
    rw [if_neg (gc_BD a).1, if_neg (gc_BD a).2.1, if_neg (gc_BD a).2.2, if_pos a]
    exact gc_kk (h6.2.2.2 e) (gc_cdT (ct_Sheet_copyFrom_D_D hT a (h6.2.2.2 e)) (fun s _ hs _ => fin s hs))
set_option maxHeartbeats 4000000 in
theorem ct_text_94 {n : Nat} (hn : gb_N ≤ n) {σ : gb_S} {v1 v2 v3 v4 v5 : Int32} (hT : gb_TC σ) (i1 : gb_iv 0 3 v1) (i3 : gb_iv 0 600 v3) (i4 : gb_iv 0 2 v4) (h5 : v5 = 0 → gb_iv 0 1 v2) (h5' : ¬ v5 = 0 → gb_iv 0 1 v4) : gb_tc (cs_Face_text_94 n σ v1 v2 v3 v4 v5) (fun s _ => gb_TC s) := by
  unfold cs_Face_text_94
  refine gc_ck i1 (by decide) (gc_lt (fun a ea => ?_))
  have ha : gc_ks v1 a := by
    rcases gc_4 i1 with e | e | e | e
    · rw [e] at ea ⊢
      rw [ea]
      exact ⟨fun _ => rfl, fun q => absurd q (by decide), fun q => absurd q (by decide), fun q => absurd q (by decide)⟩
    · rw [e] at ea ⊢
      rw [ea]
      exact ⟨fun q => absurd q (by decide), fun _ => rfl, fun q => absurd q (by decide), fun q => absurd q (by decide)⟩
    · rw [e] at ea ⊢
      rw [ea]
      exact ⟨fun q => absurd q (by decide), fun q => absurd q (by decide), fun _ => rfl, fun q => absurd q (by decide)⟩
    · rw [e] at ea ⊢
      rw [ea]
      exact ⟨fun q => absurd q (by decide), fun q => absurd q (by decide), fun q => absurd q (by decide), fun _ => rfl⟩
  have hs : gb_kS a = true := by
    rcases gc_4 i1 with e | e | e | e
    · exact gb_kS_B (ha.1 e)
    · exact gb_kS_N (ha.2.1 e)
    · exact gb_kS_L (ha.2.2.1 e)
    · exact gb_kS_D (ha.2.2.2 e)
  refine gc_cd (cr_read hn hT hs i3 i1) (fun s2 _ hT2 => ?_)
  refine gc_ltT (gc_su (c := 7) (lo := -2147483648) (hi := 2147483647) hT2 rfl (gb_it _) (by decide)) (fun s3 e3 hT3 => ?_)
  refine gc_ltT (gc_su (c := 7) (lo := -2147483648) (hi := 2147483647) hT3 rfl (gb_it _) (by decide)) (fun s4 e4 hT4 => ?_)
  refine gc_if (fun _ => gc_if (fun c => ?_) (fun c => ?_)) (fun _ => gc_some hT4)
  · subst c
    unfold cs_Face_text_171
    refine gc_cdP (ct_sheetOf (k0 := 1) rfl i1 (h5 rfl)) (fun r _ hr => ?_)
    have hr0 : ¬ r = 0 := by
      rcases gc_4 i1 with e | e | e | e
      · exact gb_nzB (hr.1 e)
      · exact gb_nzN (hr.2.1 e)
      · exact gb_nzL (hr.2.2.1 e)
      · exact gb_nzD (hr.2.2.2 e)
    rw [if_neg hr0]
    rcases gc_4 i1 with e | e | e | e
    · have q := hr.1 e
      rw [if_pos q]
      refine gc_kk (ha.1 e) (gc_cdT (ct_Sheet_copyFrom_B_B hT4 q (ha.1 e)) (fun s _ hs _ => ?_))
      rw [if_pos rfl]
      exact gc_some hs
    · have q := hr.2.1 e
      rw [if_neg (gc_BN q), if_pos q]
      refine gc_kk (ha.2.1 e) (gc_cdT (ct_Sheet_copyFrom_NN hT4 q (ha.2.1 e)) (fun s _ hs _ => ?_))
      rw [if_pos rfl]
      exact gc_some hs
    · have q := hr.2.2.1 e
      rw [if_neg (gc_BL q).1, if_neg (gc_BL q).2, if_pos q]
      refine gc_kk (ha.2.2.1 e) (gc_cdT (ct_Sheet_copyFrom_L_L hT4 q (ha.2.2.1 e)) (fun s _ hs _ => ?_))
      rw [if_pos rfl]
      exact gc_some hs
    · have q := hr.2.2.2 e
      rw [if_neg (gc_BD q).1, if_neg (gc_BD q).2.1, if_neg (gc_BD q).2.2, if_pos q]
      refine gc_kk (ha.2.2.2 e) (gc_cdT (ct_Sheet_copyFrom_D_D hT4 q (ha.2.2.2 e)) (fun s _ hs _ => ?_))
      rw [if_pos rfl]
      exact gc_some hs
  · exact ct_text_171 hT4 i1 (h5' c) (h5' c) ha
theorem ct_text_65 {n : Nat} (hn : gb_N ≤ n) {σ : gb_S} {v1 v2 v3 v4 t0 : Int32} (hT : gb_TC σ) (i1 : gb_iv 0 3 v1) (i3 : gb_iv 0 600 v3) (i4 : gb_iv 0 2 v4) : gb_tc (cs_Face_text_65 n σ v1 v2 v3 v4 t0) (fun s _ => gb_TC s) := by
  have z0 : (0 : Int32).toInt = 0 := by decide
  have z2 : (2 : Int32).toInt = 2 := by decide
  unfold cs_Face_text_65
  refine gc_if (fun c => gc_if (fun _ => gc_some hT) (fun c2 => gc_if (fun c3 => ?_) (fun _ => gc_some hT))) (fun c => gc_if (fun c2 => ?_) (fun _ => gc_some hT))
  · refine ct_text_94 hn hT i1 i3 i4 (fun _ => ?_) (fun q => absurd c q)
    have h1 := gb_dnlt c2
    have h2 := gb_dlt c3
    have h3 := i4.2
    exact ⟨by omega, by omega⟩
  · refine ct_text_94 hn hT i1 i3 i4 (fun q => absurd q c) (fun _ => ?_)
    have h1 := gb_dlt c2
    exact ⟨i4.1, by omega⟩
theorem ct_Face_text {n : Nat} (hn : gb_N ≤ n) {σ : gb_S} {p1 p2 : Int32} (hT : gb_TC σ) : gb_tc (cs_Face_text n σ p1 p2) (fun s _ => gb_TC s) := by
  have z0 : (0 : Int32).toInt = 0 := by decide
  have z4 : (4 : Int32).toInt = 4 := by decide
  unfold cs_Face_text
  refine gc_lti (gc_rd (c := 7) (lo := 0) (hi := 600) hT rfl (by decide)) (fun x ex ix => ?_)
  refine gc_ltT (gc_su (c := 7) (lo := 0) (hi := 0) hT rfl (gb_ic (a := 0) (by decide)) (by decide)) (fun s2 e2 hT2 => ?_)
  refine gc_ltT (gc_su (c := 7) (lo := -2147483648) (hi := 2147483647) hT2 rfl (gb_it _) (by decide)) (fun s3 e3 hT3 => ?_)
  refine gc_ltT (gc_su (c := 7) (lo := -2147483648) (hi := 2147483647) hT3 rfl (gb_it _) (by decide)) (fun s4 e4 hT4 => ?_)
  refine gc_if (fun _ => gc_some hT4) (fun c => gc_if (fun c2 => ?_) (fun _ => gc_some hT4))
  have i1 : gb_iv 0 3 p1 := by
    have h1 := gb_dnlt c
    have h2 := gb_dlt c2
    exact ⟨by omega, by omega⟩
  refine gc_ck i1 (by decide) (gc_lti (gc_rd (c := 5) (lo := 0) (hi := 2) hT4 rfl ⟨Int.le_refl _, Int.le_refl _⟩) (fun y ey iy => ?_))
  exact gc_if (fun _ => ct_text_65 hn hT4 i1 ix iy) (fun _ => ct_text_65 hn hT4 i1 ix iy)
/-! THE CLASS: cells that a call leaves as they were -/
def gb_sc (W : Nat → Prop) : Prop := W 0 ∧ ∀ k, 95 ≤ k → W k
def gb_sk (W : Nat → Prop) : Prop := (∀ k, gb_kB k = true → W (k + 1)) ∧ (∀ k, gb_kN k = true → W (k + 1)) ∧ (∀ k, gb_kL k = true → W (k + 1)) ∧ (∀ k, gb_kD k = true → W (k + 1)) ∧ ∀ k, gb_kT k = true → W k ∧ W (k + 21) ∧ W (k + 22)
def gb_fs (W : Nat → Prop) (σ0 σ : gb_S) : Prop := ∀ k, ¬ W k → σ.1 k = σ0.1 k
def gb_pf {ρ : Type} (W : Nat → Prop) (σ0 : gb_S) (x : gb_CR ρ) : Prop := ∀ (σ2 : gb_S) (r : ρ), x = some (σ2, r) → gb_fs W σ0 σ2
theorem pf_none {ρ : Type} {W : Nat → Prop} {σ0 : gb_S} : gb_pf W σ0 (none : gb_CR ρ) := fun _ _ h => by cases h
theorem pf_some {ρ : Type} {W : Nat → Prop} {σ0 σ : gb_S} {r : ρ} (h : gb_fs W σ0 σ) : gb_pf W σ0 (some (σ, r)) := fun _ _ e => by cases e; exact h
theorem pf_if {ρ : Type} {W : Nat → Prop} {σ0 : gb_S} {c : Prop} [Decidable c] {x y : gb_CR ρ} (h1 : gb_pf W σ0 x) (h2 : gb_pf W σ0 y) : gb_pf W σ0 (if c then x else y) := by
  split
  · exact h1
  · exact h2
theorem pf_ck {ρ : Type} {W : Nat → Prop} {σ0 : gb_S} {i : Int32} {n : Nat} {x : gb_CR ρ} (h : gb_pf W σ0 x) : gb_pf W σ0 (gb_ck i n x) := by
  unfold gb_ck
  split
  · exact h
  · exact pf_none
theorem pf_kk {ρ : Type} {W : Nat → Prop} {σ0 : gb_S} {c : Bool} {x : gb_CR ρ} (h : c = true → gb_pf W σ0 x) : gb_pf W σ0 (gb_kk c x) := by
  unfold gb_kk
  by_cases hc : c = true
  · rw [if_pos hc]; exact h hc
  · rw [if_neg hc]; exact pf_none
theorem pf_ltE {ρ α : Type} {W : Nat → Prop} {σ0 : gb_S} {v : α} {k : α → gb_CR ρ} (h : gb_pf W σ0 (k v)) : gb_pf W σ0 (gb_lt v k) := h
theorem pf_ltV {ρ α : Type} {W : Nat → Prop} {σ0 : gb_S} {v : α} {k : α → gb_CR ρ} (h : ∀ v, gb_pf W σ0 (k v)) : gb_pf W σ0 (gb_lt v k) := h v
theorem pf_ltS {ρ : Type} {W : Nat → Prop} {σ0 : gb_S} {v : gb_S} {k : gb_S → gb_CR ρ} (hv : gb_fs W σ0 v) (h : ∀ s, gb_fs W σ0 s → gb_pf W σ0 (k s)) : gb_pf W σ0 (gb_lt v k) := h v hv
theorem pf_cd {ρ τ : Type} {W : Nat → Prop} {σ0 : gb_S} {x : gb_CR ρ} {k : gb_S → ρ → gb_CR τ} (h : gb_pf W σ0 x) (hk : ∀ s r, gb_fs W σ0 s → gb_pf W σ0 (k s r)) : gb_pf W σ0 (gb_cd x k) := by
  unfold gb_cd
  cases x with
  | none => exact pf_none
  | some q => exact hk q.1 q.2 (h q.1 q.2 rfl)
theorem fs_su {W : Nat → Prop} {σ0 σ : gb_S} {k : Nat} {F : Nat → Int32} (w : W k) (h : gb_fs W σ0 σ) : gb_fs W σ0 (gb_su σ k F) := fun k2 h2 => by
  show gb_u σ.1 k F k2 = _
  unfold gb_u
  rw [if_neg (fun e : k2 = k => h2 (by rw [e]; exact w))]
  exact h k2 h2
theorem fs_sq {W : Nat → Prop} {σ0 σ : gb_S} {k v : Nat} (h : gb_fs W σ0 σ) : gb_fs W σ0 (gb_sq σ k v) := h
theorem fs_sg {W : Nat → Prop} {σ0 σ : gb_S} {k : Nat} {F : Nat → Int64} (h : gb_fs W σ0 σ) : gb_fs W σ0 (gb_sg σ k F) := h
theorem fs_rf {W : Nat → Prop} {σ : gb_S} : gb_fs W σ σ := fun _ _ => rfl
theorem pf_ac {ρ : Type} {W : Nat → Prop} {σ0 : gb_S} {sp dp m : Int32} {n0 n1 : Nat} {x : gb_CR ρ} (h : gb_pf W σ0 x) : gb_pf W σ0 (gb_ac sp dp m n0 n1 x) := by
  unfold gb_ac
  split
  · exact h
  · exact pf_none
theorem pf_cc {ρ : Type} {W : Nat → Prop} {σ0 : gb_S} {v : Int32} {x : gb_CR ρ} (h : gb_pf W σ0 x) : gb_pf W σ0 (gb_cc v x) := by
  unfold gb_cc
  split
  · exact h
  · exact pf_none
theorem pf_nz {ρ : Type} {W : Nat → Prop} {σ0 : gb_S} {i : Int32} {x : gb_CR ρ} (h : gb_pf W σ0 x) : gb_pf W σ0 (gb_nz i x) := by
  unfold gb_nz
  split
  · exact pf_none
  · exact h
theorem cf_Border_clear_B {W : Nat → Prop} (hW : gb_sc W) {n : Nat} {σ0 : gb_S} {σ : gb_S} {k0 : Nat} (hw_k0_1 : W (k0 + 1)) (h : gb_fs W σ0 σ) : gb_pf W σ0 (cs_Border_clear_B n σ k0) := by
  unfold cs_Border_clear_B
  refine pf_kk (fun ck_k0 => ?_)
  refine pf_ltS (fs_su hw_k0_1 h) (fun s_2 hs_2 => ?_)
  refine pf_ltS (fs_su hw_k0_1 hs_2) (fun s_3 hs_3 => ?_)
  refine pf_ltS (fs_su hw_k0_1 hs_3) (fun s_4 hs_4 => ?_)
  exact pf_some hs_4
theorem cf_Border_geese_B {W : Nat → Prop} (hW : gb_sc W) {n : Nat} {σ0 : gb_S} {σ : gb_S} {k0 : Nat} (h : gb_fs W σ0 σ) : gb_pf W σ0 (cs_Border_geese_B n σ k0) := by
  unfold cs_Border_geese_B
  refine pf_kk (fun ck_k0 => ?_)
  refine pf_ltV (fun x_2 => ?_)
  exact pf_some h
theorem cf_Border_paths_B {W : Nat → Prop} (hW : gb_sc W) {n : Nat} {σ0 : gb_S} {σ : gb_S} {k0 : Nat} (h : gb_fs W σ0 σ) : gb_pf W σ0 (cs_Border_paths_B n σ k0) := by
  unfold cs_Border_paths_B
  refine pf_kk (fun ck_k0 => ?_)
  refine pf_ltV (fun x_2 => ?_)
  exact pf_some h
theorem cf_Border_hasRoomFor_B {W : Nat → Prop} (hW : gb_sc W) {n : Nat} {σ0 : gb_S} {σ : gb_S} {k0 : Nat} {p1 : Int32} (h : gb_fs W σ0 σ) : gb_pf W σ0 (cs_Border_hasRoomFor_B n σ k0 p1) := by
  unfold cs_Border_hasRoomFor_B
  refine pf_kk (fun ck_k0 => ?_)
  refine pf_if ?_ ?_
  · exact pf_some h
  · refine pf_if ?_ ?_
    · refine pf_cd (cf_Border_paths_B hW h) (fun s_9 r_10 hs_9 => ?_)
      refine pf_if ?_ ?_
      · exact pf_some hs_9
      · exact pf_some hs_9
    · refine pf_cd (cf_Border_geese_B hW h) (fun s_4 r_5 hs_4 => ?_)
      refine pf_if ?_ ?_
      · exact pf_some hs_4
      · exact pf_some hs_4
theorem cf_Border_clashes_B {W : Nat → Prop} (hW : gb_sc W) {n : Nat} {σ0 : gb_S} {σ : gb_S} {k0 : Nat} (h : gb_fs W σ0 σ) : gb_pf W σ0 (cs_Border_clashes_B n σ k0) := by
  unfold cs_Border_clashes_B
  refine pf_kk (fun ck_k0 => ?_)
  exact pf_some h
theorem cf_Border_cap_B {W : Nat → Prop} (hW : gb_sc W) {n : Nat} {σ0 : gb_S} {σ : gb_S} {k0 : Nat} (h : gb_fs W σ0 σ) : gb_pf W σ0 (cs_Border_cap_B n σ k0) := by
  unfold cs_Border_cap_B
  refine pf_kk (fun ck_k0 => ?_)
  refine pf_ltV (fun x_2 => ?_)
  exact pf_some h
theorem cf_Border_hasPath_B {W : Nat → Prop} (hW : gb_sc W) {n : Nat} {σ0 : gb_S} {σ : gb_S} {k0 : Nat} {p1 : Int32} (h : gb_fs W σ0 σ) : gb_pf W σ0 (cs_Border_hasPath_B n σ k0 p1) := by
  unfold cs_Border_hasPath_B
  refine pf_kk (fun ck_k0 => ?_)
  refine pf_if ?_ ?_
  · exact pf_some h
  · refine pf_cd (cf_Border_paths_B hW h) (fun s_3 r_4 hs_3 => ?_)
    refine pf_if ?_ ?_
    · exact pf_some hs_3
    · exact pf_some hs_3
theorem cf_Border_hasGoose_B {W : Nat → Prop} (hW : gb_sc W) {n : Nat} {σ0 : gb_S} {σ : gb_S} {k0 : Nat} {p1 : Int32} (h : gb_fs W σ0 σ) : gb_pf W σ0 (cs_Border_hasGoose_B n σ k0 p1) := by
  unfold cs_Border_hasGoose_B
  refine pf_kk (fun ck_k0 => ?_)
  refine pf_if ?_ ?_
  · exact pf_some h
  · refine pf_cd (cf_Border_geese_B hW h) (fun s_3 r_4 hs_3 => ?_)
    refine pf_if ?_ ?_
    · exact pf_some hs_3
    · exact pf_some hs_3
theorem cf_Border_numberTold_B {W : Nat → Prop} (hW : gb_sc W) {n : Nat} {σ0 : gb_S} {σ : gb_S} {k0 : Nat} {p1 : Int32} (h : gb_fs W σ0 σ) : gb_pf W σ0 (cs_Border_numberTold_B n σ k0 p1) := by
  unfold cs_Border_numberTold_B
  refine pf_kk (fun ck_k0 => ?_)
  refine pf_if ?_ ?_
  · exact pf_some h
  · refine pf_if ?_ ?_
    · refine pf_ltE ?_
      refine pf_ltE ?_
      refine pf_if ?_ ?_
      · refine pf_ltE ?_
        refine pf_cd (cf_Border_hasGoose_B hW h) (fun s_8 r_9 hs_8 => ?_)
        refine pf_if ?_ ?_
        · exact pf_some hs_8
        · refine pf_ck ?_
          refine pf_ltV (fun x_14 => ?_)
          exact pf_some hs_8
      · refine pf_cd (cf_Border_hasPath_B hW h) (fun s_15 r_16 hs_15 => ?_)
        refine pf_if ?_ ?_
        · exact pf_some hs_15
        · refine pf_ck ?_
          refine pf_ltV (fun x_21 => ?_)
          exact pf_some hs_15
    · exact pf_some h
theorem cf_Border_miles_B {W : Nat → Prop} (hW : gb_sc W) {n : Nat} {σ0 : gb_S} {σ : gb_S} {k0 : Nat} {p1 : Int32} (h : gb_fs W σ0 σ) : gb_pf W σ0 (cs_Border_miles_B n σ k0 p1) := by
  unfold cs_Border_miles_B
  refine pf_kk (fun ck_k0 => ?_)
  refine pf_ck ?_
  refine pf_ltV (fun x_3 => ?_)
  exact pf_some h
theorem cf_Border_rate_B {W : Nat → Prop} (hW : gb_sc W) {n : Nat} {σ0 : gb_S} {σ : gb_S} {k0 : Nat} {p1 : Int32} (h : gb_fs W σ0 σ) : gb_pf W σ0 (cs_Border_rate_B n σ k0 p1) := by
  unfold cs_Border_rate_B
  refine pf_kk (fun ck_k0 => ?_)
  refine pf_ck ?_
  refine pf_ltV (fun x_3 => ?_)
  exact pf_some h
theorem cf_Border_pad_B {W : Nat → Prop} (hW : gb_sc W) {n : Nat} {σ0 : gb_S} {σ : gb_S} {k0 : Nat} {p1 : Int32} (h : gb_fs W σ0 σ) : gb_pf W σ0 (cs_Border_pad_B n σ k0 p1) := by
  unfold cs_Border_pad_B
  refine pf_kk (fun ck_k0 => ?_)
  refine pf_ck ?_
  refine pf_ltV (fun x_3 => ?_)
  exact pf_some h
theorem cf_Border_toes_B {W : Nat → Prop} (hW : gb_sc W) {n : Nat} {σ0 : gb_S} {σ : gb_S} {k0 : Nat} {p1 : Int32} (h : gb_fs W σ0 σ) : gb_pf W σ0 (cs_Border_toes_B n σ k0 p1) := by
  unfold cs_Border_toes_B
  refine pf_kk (fun ck_k0 => ?_)
  refine pf_ltE ?_
  refine pf_ck ?_
  refine pf_ltV (fun x_4 => ?_)
  refine pf_ck ?_
  refine pf_ltV (fun x_6 => ?_)
  exact pf_some h
theorem cf_Border_boots_B {W : Nat → Prop} (hW : gb_sc W) {n : Nat} {σ0 : gb_S} {σ : gb_S} {k0 : Nat} {p1 : Int32} (h : gb_fs W σ0 σ) : gb_pf W σ0 (cs_Border_boots_B n σ k0 p1) := by
  unfold cs_Border_boots_B
  refine pf_kk (fun ck_k0 => ?_)
  refine pf_ck ?_
  refine pf_ltV (fun x_3 => ?_)
  exact pf_some h
theorem cf_Border_limps_B {W : Nat → Prop} (hW : gb_sc W) {n : Nat} {σ0 : gb_S} {σ : gb_S} {k0 : Nat} {p1 : Int32} (h : gb_fs W σ0 σ) : gb_pf W σ0 (cs_Border_limps_B n σ k0 p1) := by
  unfold cs_Border_limps_B
  refine pf_kk (fun ck_k0 => ?_)
  refine pf_ck ?_
  refine pf_ltV (fun x_3 => ?_)
  refine pf_if ?_ ?_
  · exact pf_some h
  · exact pf_some h
theorem cf_Border_worth_B {W : Nat → Prop} (hW : gb_sc W) {n : Nat} {σ0 : gb_S} {σ : gb_S} {k0 : Nat} {p1 : Int32} (h : gb_fs W σ0 σ) : gb_pf W σ0 (cs_Border_worth_B n σ k0 p1) := by
  unfold cs_Border_worth_B
  refine pf_kk (fun ck_k0 => ?_)
  refine pf_ck ?_
  refine pf_ltV (fun x_3 => ?_)
  exact pf_some h
theorem cf_Border_worthOf_B_4 {W : Nat → Prop} (hW : gb_sc W) {n : Nat} {σ0 : gb_S} : ∀ (mm : Nat) (σ : gb_S) (v0 : Nat) (v1 : Int32) (v2 : Int32) (v3 : Int32), gb_fs W σ0 σ → gb_pf W σ0 (cs_Border_worthOf_B_4 n mm σ v0 v1 v2 v3) := by
  intro mm
  induction mm with
  | zero =>
    intros
    exact pf_none
  | succ mm ih =>
    intro σ v0 v1 v2 v3  h
    unfold cs_Border_worthOf_B_4
    refine pf_kk (fun ck_v0 => ?_)
    refine pf_cd (cf_Border_geese_B hW h) (fun s_3 r_4 hs_3 => ?_)
    refine pf_if ?_ ?_
    · exact pf_some hs_3
    · refine pf_if ?_ ?_
      · refine pf_cd (cf_Border_worth_B hW hs_3) (fun s_10 r_11 hs_10 => ?_)
        refine pf_ltE ?_
        refine pf_ltE ?_
        exact ih _ _ _ _ _ hs_10
      · refine pf_ltE ?_
        exact ih _ _ _ _ _ hs_3
theorem cf_Border_worthOf_B {W : Nat → Prop} (hW : gb_sc W) {n : Nat} {σ0 : gb_S} {σ : gb_S} {k0 : Nat} {p1 : Int32} (h : gb_fs W σ0 σ) : gb_pf W σ0 (cs_Border_worthOf_B n σ k0 p1) := by
  unfold cs_Border_worthOf_B
  refine pf_kk (fun ck_k0 => ?_)
  exact cf_Border_worthOf_B_4 hW _ _ _ _ _ _ h
theorem cf_Border_marksOver_B_20 {W : Nat → Prop} (hW : gb_sc W) {n : Nat} {σ0 : gb_S} {σ : gb_S} {v0 : Nat} {v1 : Int32} {v2 : Int32} {v5 : Int32} {t0 : Int32} (h : gb_fs W σ0 σ) : gb_pf W σ0 (cs_Border_marksOver_B_20 n σ v0 v1 v2 v5 t0) := by
  unfold cs_Border_marksOver_B_20
  refine pf_kk (fun ck_v0 => ?_)
  refine pf_cd (cf_Border_toes_B hW h) (fun s_5 r_6 hs_5 => ?_)
  refine pf_ltE ?_
  refine pf_cd (cf_Border_limps_B hW hs_5) (fun s_10 r_11 hs_10 => ?_)
  refine pf_if ?_ ?_
  · exact pf_some hs_10
  · exact pf_some hs_10
theorem cf_Border_marksOver_B {W : Nat → Prop} (hW : gb_sc W) {n : Nat} {σ0 : gb_S} {σ : gb_S} {k0 : Nat} {p1 : Int32} {p2 : Int32} {p3 : Int32} {p4 : Int32} (h : gb_fs W σ0 σ) : gb_pf W σ0 (cs_Border_marksOver_B n σ k0 p1 p2 p3 p4) := by
  unfold cs_Border_marksOver_B
  refine pf_kk (fun ck_k0 => ?_)
  refine pf_ltV (fun x_2 => ?_)
  refine pf_if ?_ ?_
  · exact cf_Border_marksOver_B_20 hW h
  · exact cf_Border_marksOver_B_20 hW h
theorem cf_Border_marksFirst_B {W : Nat → Prop} (hW : gb_sc W) {n : Nat} {σ0 : gb_S} {σ : gb_S} {k0 : Nat} {p1 : Int32} {p2 : Int32} (h : gb_fs W σ0 σ) : gb_pf W σ0 (cs_Border_marksFirst_B n σ k0 p1 p2) := by
  unfold cs_Border_marksFirst_B
  refine pf_kk (fun ck_k0 => ?_)
  refine pf_cd (cf_Border_miles_B hW h) (fun s_2 r_3 hs_2 => ?_)
  refine pf_cd (cf_Border_boots_B hW hs_2) (fun s_6 r_7 hs_6 => ?_)
  refine pf_cd (cf_Border_marksOver_B hW hs_6) (fun s_10 r_11 hs_10 => ?_)
  exact pf_some hs_10
theorem cf_Border_padded_B {W : Nat → Prop} (hW : gb_sc W) {n : Nat} {σ0 : gb_S} {σ : gb_S} {k0 : Nat} {p1 : Int32} {p2 : Int32} (h : gb_fs W σ0 σ) : gb_pf W σ0 (cs_Border_padded_B n σ k0 p1 p2) := by
  unfold cs_Border_padded_B
  refine pf_kk (fun ck_k0 => ?_)
  refine pf_cd (cf_Border_pad_B hW h) (fun s_2 r_3 hs_2 => ?_)
  refine pf_ltE ?_
  exact pf_some hs_2
theorem cf_Border_payOf_B {W : Nat → Prop} (hW : gb_sc W) {n : Nat} {σ0 : gb_S} {σ : gb_S} {k0 : Nat} {p1 : Int32} {p2 : Int32} (h : gb_fs W σ0 σ) : gb_pf W σ0 (cs_Border_payOf_B n σ k0 p1 p2) := by
  unfold cs_Border_payOf_B
  refine pf_kk (fun ck_k0 => ?_)
  refine pf_cd (cf_Border_rate_B hW h) (fun s_2 r_3 hs_2 => ?_)
  refine pf_cd (cf_Border_padded_B hW hs_2) (fun s_6 r_7 hs_6 => ?_)
  exact pf_some hs_6
theorem cf_Border_barefoot_B_4 {W : Nat → Prop} (hW : gb_sc W) {n : Nat} {σ0 : gb_S} : ∀ (mm : Nat) (σ : gb_S) (v0 : Nat) (v1 : Int32) (v2 : Int32) (v3 : Int32), gb_fs W σ0 σ → gb_pf W σ0 (cs_Border_barefoot_B_4 n mm σ v0 v1 v2 v3) := by
  intro mm
  induction mm with
  | zero =>
    intros
    exact pf_none
  | succ mm ih =>
    intro σ v0 v1 v2 v3  h
    unfold cs_Border_barefoot_B_4
    refine pf_kk (fun ck_v0 => ?_)
    refine pf_cd (cf_Border_geese_B hW h) (fun s_3 r_4 hs_3 => ?_)
    refine pf_if ?_ ?_
    · exact pf_some hs_3
    · refine pf_cd (cf_Border_miles_B hW hs_3) (fun s_8 r_9 hs_8 => ?_)
      refine pf_cd (cf_Border_marksOver_B hW hs_8) (fun s_12 r_13 hs_12 => ?_)
      refine pf_ltE ?_
      refine pf_ltE ?_
      exact ih _ _ _ _ _ hs_12
theorem cf_Border_barefoot_B {W : Nat → Prop} (hW : gb_sc W) {n : Nat} {σ0 : gb_S} {σ : gb_S} {k0 : Nat} {p1 : Int32} (h : gb_fs W σ0 σ) : gb_pf W σ0 (cs_Border_barefoot_B n σ k0 p1) := by
  unfold cs_Border_barefoot_B
  refine pf_kk (fun ck_k0 => ?_)
  exact cf_Border_barefoot_B_4 hW _ _ _ _ _ _ h
theorem cf_Border_milesThatSpare_B_5 {W : Nat → Prop} (hW : gb_sc W) {n : Nat} {σ0 : gb_S} : ∀ (mm : Nat) (σ : gb_S) (v0 : Nat) (v1 : Int32) (v2 : Int32) (v3 : Int32) (v4 : Int32), gb_fs W σ0 σ → gb_pf W σ0 (cs_Border_milesThatSpare_B_5 n mm σ v0 v1 v2 v3 v4) := by
  intro mm
  induction mm with
  | zero =>
    intros
    exact pf_none
  | succ mm ih =>
    intro σ v0 v1 v2 v3 v4  h
    unfold cs_Border_milesThatSpare_B_5
    refine pf_kk (fun ck_v0 => ?_)
    refine pf_cd (cf_Border_geese_B hW h) (fun s_3 r_4 hs_3 => ?_)
    refine pf_if ?_ ?_
    · exact pf_some hs_3
    · refine pf_cd (cf_Border_toes_B hW hs_3) (fun s_8 r_9 hs_8 => ?_)
      refine pf_cd (cf_Border_limps_B hW hs_8) (fun s_12 r_13 hs_12 => ?_)
      refine pf_if ?_ ?_
      · refine pf_ltE ?_
        refine pf_if ?_ ?_
        · refine pf_cd (cf_Border_miles_B hW hs_12) (fun s_20 r_21 hs_20 => ?_)
          refine pf_ltE ?_
          refine pf_ltE ?_
          exact ih _ _ _ _ _ _ hs_20
        · refine pf_ltE ?_
          exact ih _ _ _ _ _ _ hs_12
      · refine pf_ltE ?_
        refine pf_if ?_ ?_
        · refine pf_cd (cf_Border_miles_B hW hs_12) (fun s_29 r_30 hs_29 => ?_)
          refine pf_ltE ?_
          refine pf_ltE ?_
          exact ih _ _ _ _ _ _ hs_29
        · refine pf_ltE ?_
          exact ih _ _ _ _ _ _ hs_12
theorem cf_Border_milesThatSpare_B {W : Nat → Prop} (hW : gb_sc W) {n : Nat} {σ0 : gb_S} {σ : gb_S} {k0 : Nat} {p1 : Int32} {p2 : Int32} (h : gb_fs W σ0 σ) : gb_pf W σ0 (cs_Border_milesThatSpare_B n σ k0 p1 p2) := by
  unfold cs_Border_milesThatSpare_B
  refine pf_kk (fun ck_k0 => ?_)
  exact cf_Border_milesThatSpare_B_5 hW _ _ _ _ _ _ _ h
theorem cf_Told_addBytes_14 {W : Nat → Prop} (hW : gb_sc W) {n : Nat} {σ0 : gb_S} : ∀ (mm : Nat) (σ : gb_S) (v1 : Int32) (v2 : Int32), W 1 → W 23 → gb_fs W σ0 σ → gb_pf W σ0 (cs_Told_addBytes_14 n mm σ v1 v2) := by
  intro mm
  induction mm with
  | zero =>
    intros
    exact pf_none
  | succ mm ih =>
    intro σ v1 v2 hw_1 hw_23 h
    unfold cs_Told_addBytes_14
    refine pf_if ?_ ?_
    · exact pf_some h
    · refine pf_ck ?_
      refine pf_ltS (fs_su hw_23 h) (fun s_4 hs_4 => ?_)
      refine pf_ltS (fs_su hw_1 hs_4) (fun s_5 hs_5 => ?_)
      refine pf_ltE ?_
      exact ih _ _ _ hw_1 hw_23 hs_5
theorem cf_Told_addBytes {W : Nat → Prop} (hW : gb_sc W) {n : Nat} {σ0 : gb_S} {σ : gb_S} {p1 : Int32} (hw_1 : W 1) (hw_23 : W 23) (h : gb_fs W σ0 σ) : gb_pf W σ0 (cs_Told_addBytes n σ p1) := by
  unfold cs_Told_addBytes
  refine pf_if ?_ ?_
  · exact cf_Told_addBytes_14 hW _ _ _ _ hw_1 hw_23 h
  · exact pf_some h
theorem cf_Face_feed {W : Nat → Prop} (hW : gb_sc W) {n : Nat} {σ0 : gb_S} {σ : gb_S} {p1 : Int32} {p2 : Int32} {p3 : Int32} {p4 : Int32} {p5 : Int32} (hw_1 : W 1) (hw_23 : W 23) (h : gb_fs W σ0 σ) : gb_pf W σ0 (cs_Face_feed n σ p1 p2 p3 p4 p5) := by
  unfold cs_Face_feed
  refine pf_if ?_ ?_
  · refine pf_cd (cf_Told_addBytes hW hw_1 hw_23 h) (fun s_2 _ hs_2 => ?_)
    refine pf_cd (cf_Told_addBytes hW hw_1 hw_23 hs_2) (fun s_6 _ hs_6 => ?_)
    refine pf_cd (cf_Told_addBytes hW hw_1 hw_23 hs_6) (fun s_10 _ hs_10 => ?_)
    refine pf_cd (cf_Told_addBytes hW hw_1 hw_23 hs_10) (fun s_14 _ hs_14 => ?_)
    refine pf_cd (cf_Told_addBytes hW hw_1 hw_23 hs_14) (fun s_18 _ hs_18 => ?_)
    exact pf_some hs_18
  · exact pf_some h
theorem cf_Face_end {W : Nat → Prop} (hW : gb_sc W) {n : Nat} {σ0 : gb_S} {σ : gb_S} {p1 : Int32} (hw_1 : W 1) (h : gb_fs W σ0 σ) : gb_pf W σ0 (cs_Face_end n σ p1) := by
  unfold cs_Face_end
  refine pf_if ?_ ?_
  · exact pf_some h
  · refine pf_if ?_ ?_
    · refine pf_ltS (fs_su hw_1 h) (fun s_3 hs_3 => ?_)
      exact pf_some hs_3
    · exact pf_some h
theorem cf_Reader_skipBlanks_0 {W : Nat → Prop} (hW : gb_sc W) {n : Nat} {σ0 : gb_S} : ∀ (mm : Nat) (σ : gb_S), gb_fs W σ0 σ → gb_pf W σ0 (cs_Reader_skipBlanks_0 n mm σ) := by
  intro mm
  induction mm with
  | zero =>
    intros
    exact pf_none
  | succ mm ih =>
    intro σ  h
    unfold cs_Reader_skipBlanks_0
    refine pf_if ?_ ?_
    · exact pf_some h
    · refine pf_kk (fun _ => ?_)
      refine pf_ck ?_
      refine pf_ltV (fun x_10 => ?_)
      refine pf_if ?_ ?_
      · refine pf_ltS (fs_su (hW.2 _ (by decide)) h) (fun s_12 hs_12 => ?_)
        exact ih _ hs_12
      · refine pf_kk (fun _ => ?_)
        refine pf_ck ?_
        refine pf_ltV (fun x_15 => ?_)
        refine pf_if ?_ ?_
        · refine pf_ltS (fs_su (hW.2 _ (by decide)) h) (fun s_17 hs_17 => ?_)
          exact ih _ hs_17
        · exact pf_some h
theorem cf_Reader_skipBlanks {W : Nat → Prop} (hW : gb_sc W) {n : Nat} {σ0 : gb_S} {σ : gb_S} (h : gb_fs W σ0 σ) : gb_pf W σ0 (cs_Reader_skipBlanks n σ) := by
  unfold cs_Reader_skipBlanks
  refine pf_if ?_ ?_
  · exact pf_some h
  · refine pf_kk (fun _ => ?_)
    refine pf_ck ?_
    refine pf_ltV (fun x_4 => ?_)
    refine pf_if ?_ ?_
    · refine pf_ltS (fs_su (hW.2 _ (by decide)) h) (fun s_6 hs_6 => ?_)
      exact cf_Reader_skipBlanks_0 hW _ _ hs_6
    · refine pf_kk (fun _ => ?_)
      refine pf_ck ?_
      refine pf_ltV (fun x_20 => ?_)
      refine pf_if ?_ ?_
      · refine pf_ltS (fs_su (hW.2 _ (by decide)) h) (fun s_22 hs_22 => ?_)
        exact cf_Reader_skipBlanks_0 hW _ _ hs_22
      · exact pf_some h
theorem cf_Reader_note {W : Nat → Prop} (hW : gb_sc W) {n : Nat} {σ0 : gb_S} {σ : gb_S} {p1 : Int32} {p2 : Int32} (h : gb_fs W σ0 σ) : gb_pf W σ0 (cs_Reader_note n σ p1 p2) := by
  unfold cs_Reader_note
  refine pf_if ?_ ?_
  · refine pf_ltS (fs_su (hW.2 _ (by decide)) h) (fun s_2 hs_2 => ?_)
    refine pf_ltS (fs_su (hW.2 _ (by decide)) hs_2) (fun s_3 hs_3 => ?_)
    exact pf_some hs_3
  · exact pf_some h
theorem cf_Lines_clashes_N {W : Nat → Prop} (hW : gb_sc W) {n : Nat} {σ0 : gb_S} {σ : gb_S} {k0 : Nat} (h : gb_fs W σ0 σ) : gb_pf W σ0 (cs_Lines_clashes_N n σ k0) := by
  unfold cs_Lines_clashes_N
  refine pf_kk (fun ck_k0 => ?_)
  exact pf_some h
theorem cf_Lines_clashes_L {W : Nat → Prop} (hW : gb_sc W) {n : Nat} {σ0 : gb_S} {σ : gb_S} {k0 : Nat} (h : gb_fs W σ0 σ) : gb_pf W σ0 (cs_Lines_clashes_L n σ k0) := by
  unfold cs_Lines_clashes_L
  refine pf_kk (fun ck_k0 => ?_)
  exact pf_some h
theorem cf_Lines_size_D {W : Nat → Prop} (hW : gb_sc W) {n : Nat} {σ0 : gb_S} {σ : gb_S} {k0 : Nat} (h : gb_fs W σ0 σ) : gb_pf W σ0 (cs_Lines_size_D n σ k0) := by
  unfold cs_Lines_size_D
  refine pf_kk (fun ck_k0 => ?_)
  refine pf_ltV (fun x_2 => ?_)
  exact pf_some h
theorem cf_Lines_cell_D {W : Nat → Prop} (hW : gb_sc W) {n : Nat} {σ0 : gb_S} {σ : gb_S} {k0 : Nat} {p1 : Int32} {p2 : Int32} (h : gb_fs W σ0 σ) : gb_pf W σ0 (cs_Lines_cell_D n σ k0 p1 p2) := by
  unfold cs_Lines_cell_D
  refine pf_kk (fun ck_k0 => ?_)
  refine pf_ck ?_
  refine pf_ltV (fun x_3 => ?_)
  exact pf_some h
theorem cf_Dawn_pathSeen_D {W : Nat → Prop} (hW : gb_sc W) {n : Nat} {σ0 : gb_S} {σ : gb_S} {k0 : Nat} {p1 : Int32} (h : gb_fs W σ0 σ) : gb_pf W σ0 (cs_Dawn_pathSeen_D n σ k0 p1) := by
  unfold cs_Dawn_pathSeen_D
  refine pf_kk (fun ck_k0 => ?_)
  refine pf_cd (cf_Lines_cell_D hW h) (fun s_2 r_3 hs_2 => ?_)
  exact pf_some hs_2
theorem cf_Dawn_clashes_D_4 {W : Nat → Prop} (hW : gb_sc W) {n : Nat} {σ0 : gb_S} : ∀ (mm : Nat) (σ : gb_S) (v0 : Nat) (v1 : Int32) (v2 : Int32), gb_fs W σ0 σ → gb_pf W σ0 (cs_Dawn_clashes_D_4 n mm σ v0 v1 v2) := by
  intro mm
  induction mm with
  | zero =>
    intros
    exact pf_none
  | succ mm ih =>
    intro σ v0 v1 v2  h
    unfold cs_Dawn_clashes_D_4
    refine pf_kk (fun ck_v0 => ?_)
    refine pf_cd (cf_Lines_size_D hW h) (fun s_3 r_4 hs_3 => ?_)
    refine pf_if ?_ ?_
    · exact pf_some hs_3
    · refine pf_cd (cf_Dawn_pathSeen_D hW hs_3) (fun s_8 r_9 hs_8 => ?_)
      refine pf_ltE ?_
      refine pf_if ?_ ?_
      · refine pf_ltE ?_
        refine pf_ltE ?_
        exact ih _ _ _ _ hs_8
      · exact pf_some hs_8
theorem cf_Dawn_clashes_D {W : Nat → Prop} (hW : gb_sc W) {n : Nat} {σ0 : gb_S} {σ : gb_S} {k0 : Nat} (h : gb_fs W σ0 σ) : gb_pf W σ0 (cs_Dawn_clashes_D n σ k0) := by
  unfold cs_Dawn_clashes_D
  refine pf_kk (fun ck_k0 => ?_)
  exact cf_Dawn_clashes_D_4 hW _ _ _ _ _ h
theorem cf_Face_fault {W : Nat → Prop} (hW : gb_sc W) {n : Nat} {σ0 : gb_S} {σ : gb_S} {p1 : Int32} (h : gb_fs W σ0 σ) : gb_pf W σ0 (cs_Face_fault n σ p1) := by
  unfold cs_Face_fault
  refine pf_if ?_ ?_
  · exact pf_some h
  · refine pf_if ?_ ?_
    · exact pf_some h
    · exact pf_some h
theorem cf_Face_count {W : Nat → Prop} (hW : gb_sc W) {n : Nat} {σ0 : gb_S} {σ : gb_S} {p1 : Int32} (h : gb_fs W σ0 σ) : gb_pf W σ0 (cs_Face_count n σ p1) := by
  unfold cs_Face_count
  refine pf_if ?_ ?_
  · exact pf_some h
  · refine pf_if ?_ ?_
    · exact pf_some h
    · refine pf_ck ?_
      refine pf_ltV (fun x_4 => ?_)
      exact pf_some h
theorem cf_Told_sheetOf_T {W : Nat → Prop} (hW : gb_sc W) {n : Nat} {σ0 : gb_S} {σ : gb_S} {k0 : Nat} {p1 : Int32} {p2 : Int32} (h : gb_fs W σ0 σ) : gb_pf W σ0 (cs_Told_sheetOf_T n σ k0 p1 p2) := by
  unfold cs_Told_sheetOf_T
  refine pf_kk (fun ck_k0 => ?_)
  refine pf_if ?_ ?_
  · refine pf_ck ?_
    refine pf_ltV (fun a_4 => ?_)
    refine pf_kk (fun ck_a_4 => ?_)
    exact pf_some h
  · refine pf_if ?_ ?_
    · refine pf_ck ?_
      refine pf_ltV (fun a_8 => ?_)
      refine pf_kk (fun ck_a_8 => ?_)
      exact pf_some h
    · refine pf_if ?_ ?_
      · refine pf_ck ?_
        refine pf_ltV (fun a_12 => ?_)
        refine pf_kk (fun ck_a_12 => ?_)
        exact pf_some h
      · refine pf_ck ?_
        refine pf_ltV (fun a_15 => ?_)
        refine pf_kk (fun ck_a_15 => ?_)
        exact pf_some h
theorem cf_Sheet_copyFrom_B_B {W : Nat → Prop} (hW : gb_sc W) {n : Nat} {σ0 : gb_S} {σ : gb_S} {k0 : Nat} {p1 : Nat} (hw_k0_1 : W (k0 + 1)) (h : gb_fs W σ0 σ) : gb_pf W σ0 (cs_Sheet_copyFrom_B_B n σ k0 p1) := by
  unfold cs_Sheet_copyFrom_B_B
  refine pf_kk (fun ck_k0 => ?_)
  refine pf_kk (fun ck_p1 => ?_)
  refine pf_ltV (fun x_3 => ?_)
  refine pf_ac ?_
  refine pf_ltS (fs_su hw_k0_1 h) (fun s_5 hs_5 => ?_)
  exact pf_some hs_5
theorem cf_Sheet_copyFrom_N_N {W : Nat → Prop} (hW : gb_sc W) {n : Nat} {σ0 : gb_S} {σ : gb_S} {k0 : Nat} {p1 : Nat} (hw_k0_1 : W (k0 + 1)) (h : gb_fs W σ0 σ) : gb_pf W σ0 (cs_Sheet_copyFrom_N_N n σ k0 p1) := by
  unfold cs_Sheet_copyFrom_N_N
  refine pf_kk (fun ck_k0 => ?_)
  refine pf_kk (fun ck_p1 => ?_)
  refine pf_ltV (fun x_3 => ?_)
  refine pf_ac ?_
  refine pf_ltS (fs_su hw_k0_1 h) (fun s_5 hs_5 => ?_)
  exact pf_some hs_5
theorem cf_Sheet_copyFrom_L_L {W : Nat → Prop} (hW : gb_sc W) {n : Nat} {σ0 : gb_S} {σ : gb_S} {k0 : Nat} {p1 : Nat} (hw_k0_1 : W (k0 + 1)) (h : gb_fs W σ0 σ) : gb_pf W σ0 (cs_Sheet_copyFrom_L_L n σ k0 p1) := by
  unfold cs_Sheet_copyFrom_L_L
  refine pf_kk (fun ck_k0 => ?_)
  refine pf_kk (fun ck_p1 => ?_)
  refine pf_ltV (fun x_3 => ?_)
  refine pf_ac ?_
  refine pf_ltS (fs_su hw_k0_1 h) (fun s_5 hs_5 => ?_)
  exact pf_some hs_5
theorem cf_Sheet_copyFrom_D_D {W : Nat → Prop} (hW : gb_sc W) {n : Nat} {σ0 : gb_S} {σ : gb_S} {k0 : Nat} {p1 : Nat} (hw_k0_1 : W (k0 + 1)) (h : gb_fs W σ0 σ) : gb_pf W σ0 (cs_Sheet_copyFrom_D_D n σ k0 p1) := by
  unfold cs_Sheet_copyFrom_D_D
  refine pf_kk (fun ck_k0 => ?_)
  refine pf_kk (fun ck_p1 => ?_)
  refine pf_ltV (fun x_3 => ?_)
  refine pf_ac ?_
  refine pf_ltS (fs_su hw_k0_1 h) (fun s_5 hs_5 => ?_)
  exact pf_some hs_5
theorem cf_Face_borderAt {W : Nat → Prop} (hW : gb_sc W) {n : Nat} {σ0 : gb_S} {σ : gb_S} {p1 : Int32} (h : gb_fs W σ0 σ) : gb_pf W σ0 (cs_Face_borderAt n σ p1) := by
  unfold cs_Face_borderAt
  refine pf_if ?_ ?_
  · exact pf_some h
  · refine pf_ltV (fun x_2 => ?_)
    refine pf_if ?_ ?_
    · exact pf_some h
    · refine pf_ck ?_
      refine pf_ltV (fun a_5 => ?_)
      refine pf_kk (fun ck_a_5 => ?_)
      exact pf_some h
theorem cf_Face_border {W : Nat → Prop} (hW : gb_sc W) {n : Nat} {σ0 : gb_S} {σ : gb_S} {p1 : Int32} {p2 : Int32} (h : gb_fs W σ0 σ) : gb_pf W σ0 (cs_Face_border n σ p1 p2) := by
  unfold cs_Face_border
  refine pf_cd (cf_Face_borderAt hW h) (fun s_1 r_2 hs_1 => ?_)
  refine pf_if ?_ ?_
  · exact pf_some hs_1
  · refine pf_kk (fun ck_r_2 => ?_)
    refine pf_if ?_ ?_
    · refine pf_cd (cf_Border_paths_B hW hs_1) (fun s_8 r_9 hs_8 => ?_)
      exact pf_some hs_8
    · refine pf_if ?_ ?_
      · refine pf_cd (cf_Border_geese_B hW hs_1) (fun s_13 r_14 hs_13 => ?_)
        exact pf_some hs_13
      · refine pf_if ?_ ?_
        · refine pf_cd (cf_Border_cap_B hW hs_1) (fun s_18 r_19 hs_18 => ?_)
          exact pf_some hs_18
        · refine pf_cd (cf_Border_numberTold_B hW hs_1) (fun s_22 r_23 hs_22 => ?_)
          exact pf_some hs_22
theorem cf_Face_marks {W : Nat → Prop} (hW : gb_sc W) {n : Nat} {σ0 : gb_S} {σ : gb_S} {p1 : Int32} {p2 : Int32} {p3 : Int32} {p4 : Int32} (h : gb_fs W σ0 σ) : gb_pf W σ0 (cs_Face_marks n σ p1 p2 p3 p4) := by
  unfold cs_Face_marks
  refine pf_cd (cf_Face_borderAt hW h) (fun s_1 r_2 hs_1 => ?_)
  refine pf_if ?_ ?_
  · exact pf_some hs_1
  · refine pf_kk (fun ck_r_2 => ?_)
    refine pf_cd (cf_Border_hasGoose_B hW hs_1) (fun s_7 r_8 hs_7 => ?_)
    refine pf_if ?_ ?_
    · exact pf_some hs_7
    · refine pf_cd (cf_Border_hasPath_B hW hs_7) (fun s_12 r_13 hs_12 => ?_)
      refine pf_if ?_ ?_
      · exact pf_some hs_12
      · refine pf_cd (cf_Border_miles_B hW hs_12) (fun s_17 r_18 hs_17 => ?_)
        refine pf_cd (cf_Border_boots_B hW hs_17) (fun s_21 r_22 hs_21 => ?_)
        refine pf_cd (cf_Border_marksOver_B hW hs_21) (fun s_25 r_26 hs_25 => ?_)
        exact pf_some hs_25
theorem cf_Face_nightAt {W : Nat → Prop} (hW : gb_sc W) {n : Nat} {σ0 : gb_S} {σ : gb_S} {p1 : Int32} (h : gb_fs W σ0 σ) : gb_pf W σ0 (cs_Face_nightAt n σ p1) := by
  unfold cs_Face_nightAt
  refine pf_if ?_ ?_
  · exact pf_some h
  · refine pf_ltV (fun x_2 => ?_)
    refine pf_if ?_ ?_
    · exact pf_some h
    · refine pf_ck ?_
      refine pf_ltV (fun a_5 => ?_)
      refine pf_kk (fun ck_a_5 => ?_)
      exact pf_some h
theorem cf_Lines_size_N {W : Nat → Prop} (hW : gb_sc W) {n : Nat} {σ0 : gb_S} {σ : gb_S} {k0 : Nat} (h : gb_fs W σ0 σ) : gb_pf W σ0 (cs_Lines_size_N n σ k0) := by
  unfold cs_Lines_size_N
  refine pf_kk (fun ck_k0 => ?_)
  refine pf_ltV (fun x_2 => ?_)
  exact pf_some h
theorem cf_Lines_cell_N {W : Nat → Prop} (hW : gb_sc W) {n : Nat} {σ0 : gb_S} {σ : gb_S} {k0 : Nat} {p1 : Int32} {p2 : Int32} (h : gb_fs W σ0 σ) : gb_pf W σ0 (cs_Lines_cell_N n σ k0 p1 p2) := by
  unfold cs_Lines_cell_N
  refine pf_kk (fun ck_k0 => ?_)
  refine pf_ck ?_
  refine pf_ltV (fun x_3 => ?_)
  exact pf_some h
theorem cf_Face_lineOf_N {W : Nat → Prop} (hW : gb_sc W) {n : Nat} {σ0 : gb_S} {σ : gb_S} {p1 : Nat} {p2 : Int32} {p3 : Int32} (h : gb_fs W σ0 σ) : gb_pf W σ0 (cs_Face_lineOf_N n σ p1 p2 p3) := by
  unfold cs_Face_lineOf_N
  refine pf_kk (fun ck_p1 => ?_)
  refine pf_if ?_ ?_
  · refine pf_if ?_ ?_
    · refine pf_cd (cf_Lines_size_N hW h) (fun s_16 r_17 hs_16 => ?_)
      exact pf_some hs_16
    · exact pf_some h
  · refine pf_if ?_ ?_
    · exact pf_some h
    · refine pf_cd (cf_Lines_size_N hW h) (fun s_4 r_5 hs_4 => ?_)
      refine pf_if ?_ ?_
      · exact pf_some hs_4
      · refine pf_if ?_ ?_
        · exact pf_some hs_4
        · refine pf_if ?_ ?_
          · refine pf_cd (cf_Lines_cell_N hW hs_4) (fun s_11 r_12 hs_11 => ?_)
            exact pf_some hs_11
          · exact pf_some hs_4
theorem cf_Face_deed {W : Nat → Prop} (hW : gb_sc W) {n : Nat} {σ0 : gb_S} {σ : gb_S} {p1 : Int32} {p2 : Int32} {p3 : Int32} (h : gb_fs W σ0 σ) : gb_pf W σ0 (cs_Face_deed n σ p1 p2 p3) := by
  unfold cs_Face_deed
  refine pf_cd (cf_Face_nightAt hW h) (fun s_1 r_2 hs_1 => ?_)
  refine pf_if ?_ ?_
  · exact pf_some hs_1
  · refine pf_kk (fun ck_r_2 => ?_)
    refine pf_cd (cf_Face_lineOf_N hW hs_1) (fun s_7 r_8 hs_7 => ?_)
    exact pf_some hs_7
theorem cf_Face_lawAt {W : Nat → Prop} (hW : gb_sc W) {n : Nat} {σ0 : gb_S} {σ : gb_S} {p1 : Int32} (h : gb_fs W σ0 σ) : gb_pf W σ0 (cs_Face_lawAt n σ p1) := by
  unfold cs_Face_lawAt
  refine pf_if ?_ ?_
  · exact pf_some h
  · refine pf_ltV (fun x_2 => ?_)
    refine pf_if ?_ ?_
    · exact pf_some h
    · refine pf_ck ?_
      refine pf_ltV (fun a_5 => ?_)
      refine pf_kk (fun ck_a_5 => ?_)
      exact pf_some h
theorem cf_Lines_size_L {W : Nat → Prop} (hW : gb_sc W) {n : Nat} {σ0 : gb_S} {σ : gb_S} {k0 : Nat} (h : gb_fs W σ0 σ) : gb_pf W σ0 (cs_Lines_size_L n σ k0) := by
  unfold cs_Lines_size_L
  refine pf_kk (fun ck_k0 => ?_)
  refine pf_ltV (fun x_2 => ?_)
  exact pf_some h
theorem cf_Lines_cell_L {W : Nat → Prop} (hW : gb_sc W) {n : Nat} {σ0 : gb_S} {σ : gb_S} {k0 : Nat} {p1 : Int32} {p2 : Int32} (h : gb_fs W σ0 σ) : gb_pf W σ0 (cs_Lines_cell_L n σ k0 p1 p2) := by
  unfold cs_Lines_cell_L
  refine pf_kk (fun ck_k0 => ?_)
  refine pf_ck ?_
  refine pf_ltV (fun x_3 => ?_)
  exact pf_some h
theorem cf_Face_lineOf_L {W : Nat → Prop} (hW : gb_sc W) {n : Nat} {σ0 : gb_S} {σ : gb_S} {p1 : Nat} {p2 : Int32} {p3 : Int32} (h : gb_fs W σ0 σ) : gb_pf W σ0 (cs_Face_lineOf_L n σ p1 p2 p3) := by
  unfold cs_Face_lineOf_L
  refine pf_kk (fun ck_p1 => ?_)
  refine pf_if ?_ ?_
  · refine pf_if ?_ ?_
    · refine pf_cd (cf_Lines_size_L hW h) (fun s_16 r_17 hs_16 => ?_)
      exact pf_some hs_16
    · exact pf_some h
  · refine pf_if ?_ ?_
    · exact pf_some h
    · refine pf_cd (cf_Lines_size_L hW h) (fun s_4 r_5 hs_4 => ?_)
      refine pf_if ?_ ?_
      · exact pf_some hs_4
      · refine pf_if ?_ ?_
        · exact pf_some hs_4
        · refine pf_if ?_ ?_
          · refine pf_cd (cf_Lines_cell_L hW hs_4) (fun s_11 r_12 hs_11 => ?_)
            exact pf_some hs_11
          · exact pf_some hs_4
theorem cf_Face_term {W : Nat → Prop} (hW : gb_sc W) {n : Nat} {σ0 : gb_S} {σ : gb_S} {p1 : Int32} {p2 : Int32} {p3 : Int32} (h : gb_fs W σ0 σ) : gb_pf W σ0 (cs_Face_term n σ p1 p2 p3) := by
  unfold cs_Face_term
  refine pf_cd (cf_Face_lawAt hW h) (fun s_1 r_2 hs_1 => ?_)
  refine pf_if ?_ ?_
  · exact pf_some hs_1
  · refine pf_kk (fun ck_r_2 => ?_)
    refine pf_cd (cf_Face_lineOf_L hW hs_1) (fun s_7 r_8 hs_7 => ?_)
    exact pf_some hs_7
theorem cf_Face_dawnAt {W : Nat → Prop} (hW : gb_sc W) {n : Nat} {σ0 : gb_S} {σ : gb_S} {p1 : Int32} (h : gb_fs W σ0 σ) : gb_pf W σ0 (cs_Face_dawnAt n σ p1) := by
  unfold cs_Face_dawnAt
  refine pf_if ?_ ?_
  · exact pf_some h
  · refine pf_ltV (fun x_2 => ?_)
    refine pf_if ?_ ?_
    · exact pf_some h
    · refine pf_ck ?_
      refine pf_ltV (fun a_5 => ?_)
      refine pf_kk (fun ck_a_5 => ?_)
      exact pf_some h
theorem cf_Face_lineOf_D {W : Nat → Prop} (hW : gb_sc W) {n : Nat} {σ0 : gb_S} {σ : gb_S} {p1 : Nat} {p2 : Int32} {p3 : Int32} (h : gb_fs W σ0 σ) : gb_pf W σ0 (cs_Face_lineOf_D n σ p1 p2 p3) := by
  unfold cs_Face_lineOf_D
  refine pf_kk (fun ck_p1 => ?_)
  refine pf_if ?_ ?_
  · refine pf_if ?_ ?_
    · refine pf_cd (cf_Lines_size_D hW h) (fun s_16 r_17 hs_16 => ?_)
      exact pf_some hs_16
    · exact pf_some h
  · refine pf_if ?_ ?_
    · exact pf_some h
    · refine pf_cd (cf_Lines_size_D hW h) (fun s_4 r_5 hs_4 => ?_)
      refine pf_if ?_ ?_
      · exact pf_some hs_4
      · refine pf_if ?_ ?_
        · exact pf_some hs_4
        · refine pf_if ?_ ?_
          · refine pf_cd (cf_Lines_cell_D hW hs_4) (fun s_11 r_12 hs_11 => ?_)
            exact pf_some hs_11
          · exact pf_some hs_4
theorem cf_Face_seen {W : Nat → Prop} (hW : gb_sc W) {n : Nat} {σ0 : gb_S} {σ : gb_S} {p1 : Int32} {p2 : Int32} {p3 : Int32} (h : gb_fs W σ0 σ) : gb_pf W σ0 (cs_Face_seen n σ p1 p2 p3) := by
  unfold cs_Face_seen
  refine pf_cd (cf_Face_dawnAt hW h) (fun s_1 r_2 hs_1 => ?_)
  refine pf_if ?_ ?_
  · exact pf_some hs_1
  · refine pf_kk (fun ck_r_2 => ?_)
    refine pf_if ?_ ?_
    · exact pf_some hs_1
    · refine pf_if ?_ ?_
      · refine pf_if ?_ ?_
        · refine pf_cd (cf_Face_lineOf_D hW hs_1) (fun s_14 r_15 hs_14 => ?_)
          exact pf_some hs_14
        · refine pf_cd (cf_Face_lineOf_D hW hs_1) (fun s_10 r_11 hs_10 => ?_)
          exact pf_some hs_10
      · exact pf_some hs_1
theorem cf_Lines_kind_L {W : Nat → Prop} (hW : gb_sc W) {n : Nat} {σ0 : gb_S} {σ : gb_S} {k0 : Nat} {p1 : Int32} (h : gb_fs W σ0 σ) : gb_pf W σ0 (cs_Lines_kind_L n σ k0 p1) := by
  unfold cs_Lines_kind_L
  refine pf_kk (fun ck_k0 => ?_)
  refine pf_cd (cf_Lines_cell_L hW h) (fun s_2 r_3 hs_2 => ?_)
  exact pf_some hs_2
theorem cf_Law_payFor_L_4 {W : Nat → Prop} (hW : gb_sc W) {n : Nat} {σ0 : gb_S} : ∀ (mm : Nat) (σ : gb_S) (v0 : Nat) (v1 : Int32) (v2 : Int32) (v3 : Int32), gb_fs W σ0 σ → gb_pf W σ0 (cs_Law_payFor_L_4 n mm σ v0 v1 v2 v3) := by
  intro mm
  induction mm with
  | zero =>
    intros
    exact pf_none
  | succ mm ih =>
    intro σ v0 v1 v2 v3  h
    unfold cs_Law_payFor_L_4
    refine pf_kk (fun ck_v0 => ?_)
    refine pf_cd (cf_Lines_size_L hW h) (fun s_3 r_4 hs_3 => ?_)
    refine pf_if ?_ ?_
    · exact pf_some hs_3
    · refine pf_cd (cf_Lines_cell_L hW hs_3) (fun s_8 r_9 hs_8 => ?_)
      refine pf_cd (cf_Lines_cell_L hW hs_8) (fun s_12 r_13 hs_12 => ?_)
      refine pf_cd (cf_Lines_kind_L hW hs_12) (fun s_16 r_17 hs_16 => ?_)
      refine pf_if ?_ ?_
      · refine pf_ltE ?_
        refine pf_ltE ?_
        exact ih _ _ _ _ _ hs_16
      · refine pf_if ?_ ?_
        · refine pf_if ?_ ?_
          · refine pf_ltE ?_
            refine pf_ltE ?_
            exact ih _ _ _ _ _ hs_16
          · refine pf_ltE ?_
            refine pf_ltE ?_
            exact ih _ _ _ _ _ hs_16
        · refine pf_if ?_ ?_
          · refine pf_if ?_ ?_
            · refine pf_ltE ?_
              refine pf_ltE ?_
              exact ih _ _ _ _ _ hs_16
            · refine pf_ltE ?_
              refine pf_ltE ?_
              exact ih _ _ _ _ _ hs_16
          · refine pf_if ?_ ?_
            · refine pf_ltE ?_
              refine pf_if ?_ ?_
              · refine pf_ltE ?_
                refine pf_ltE ?_
                exact ih _ _ _ _ _ hs_16
              · refine pf_ltE ?_
                refine pf_ltE ?_
                exact ih _ _ _ _ _ hs_16
            · refine pf_if ?_ ?_
              · refine pf_ltV (fun x_43 => ?_)
                refine pf_ltE ?_
                exact ih _ _ _ _ _ hs_16
              · refine pf_ltE ?_
                exact ih _ _ _ _ _ hs_16
theorem cf_Law_payFor_L {W : Nat → Prop} (hW : gb_sc W) {n : Nat} {σ0 : gb_S} {σ : gb_S} {k0 : Nat} {p1 : Int32} (h : gb_fs W σ0 σ) : gb_pf W σ0 (cs_Law_payFor_L n σ k0 p1) := by
  unfold cs_Law_payFor_L
  refine pf_kk (fun ck_k0 => ?_)
  exact cf_Law_payFor_L_4 hW _ _ _ _ _ _ h
theorem cf_Face_pays {W : Nat → Prop} (hW : gb_sc W) {n : Nat} {σ0 : gb_S} {σ : gb_S} {p1 : Int32} {p2 : Int32} (h : gb_fs W σ0 σ) : gb_pf W σ0 (cs_Face_pays n σ p1 p2) := by
  unfold cs_Face_pays
  refine pf_cd (cf_Face_lawAt hW h) (fun s_1 r_2 hs_1 => ?_)
  refine pf_if ?_ ?_
  · exact pf_some hs_1
  · refine pf_kk (fun ck_r_2 => ?_)
    refine pf_if ?_ ?_
    · exact pf_some hs_1
    · refine pf_if ?_ ?_
      · refine pf_cd (cf_Law_payFor_L hW hs_1) (fun s_9 r_10 hs_9 => ?_)
        exact pf_some hs_9
      · exact pf_some hs_1
theorem cf_Face_playedOut_n_n {W : Nat → Prop} (hW : gb_sc W) {n : Nat} {σ0 : gb_S} {σ : gb_S} (h : gb_fs W σ0 σ) : gb_pf W σ0 (cs_Face_playedOut_n_n n σ) := by
  unfold cs_Face_playedOut_n_n
  exact pf_some h
theorem cf_Face_playedOut_n_N {W : Nat → Prop} (hW : gb_sc W) {n : Nat} {σ0 : gb_S} {σ : gb_S} {p2 : Nat} (h : gb_fs W σ0 σ) : gb_pf W σ0 (cs_Face_playedOut_n_N n σ p2) := by
  unfold cs_Face_playedOut_n_N
  refine pf_kk (fun ck_p2 => ?_)
  exact pf_some h
theorem cf_Face_playedOut_B_n {W : Nat → Prop} (hW : gb_sc W) {n : Nat} {σ0 : gb_S} {σ : gb_S} {p1 : Nat} (h : gb_fs W σ0 σ) : gb_pf W σ0 (cs_Face_playedOut_B_n n σ p1) := by
  unfold cs_Face_playedOut_B_n
  refine pf_kk (fun ck_p1 => ?_)
  exact pf_some h
theorem cf_java_util_Arrays_fill_c116_5 {W : Nat → Prop} (hW : gb_sc W) {n : Nat} {σ0 : gb_S} : ∀ (mm : Nat) (σ : gb_S) (v1 : Int32) (v2 : Int32) (v3 : Int32), gb_fs W σ0 σ → gb_pf W σ0 (cs_java_util_Arrays_fill_c116_5 n mm σ v1 v2 v3) := by
  intro mm
  induction mm with
  | zero =>
    intros
    exact pf_none
  | succ mm ih =>
    intro σ v1 v2 v3  h
    unfold cs_java_util_Arrays_fill_c116_5
    refine pf_if ?_ ?_
    · exact pf_some h
    · refine pf_ck ?_
      refine pf_ltS (fs_su (hW.2 _ (by decide)) h) (fun s_3 hs_3 => ?_)
      refine pf_ltE ?_
      exact ih _ _ _ _ hs_3
theorem cf_java_util_Arrays_fill_c116 {W : Nat → Prop} (hW : gb_sc W) {n : Nat} {σ0 : gb_S} {σ : gb_S} {p2 : Int32} (h : gb_fs W σ0 σ) : gb_pf W σ0 (cs_java_util_Arrays_fill_c116 n σ p2) := by
  unfold cs_java_util_Arrays_fill_c116
  exact cf_java_util_Arrays_fill_c116_5 hW _ _ _ _ _ h
theorem cf_java_util_Arrays_fill_c117_5 {W : Nat → Prop} (hW : gb_sc W) {n : Nat} {σ0 : gb_S} : ∀ (mm : Nat) (σ : gb_S) (v1 : Int32) (v2 : Int32) (v3 : Int32), gb_fs W σ0 σ → gb_pf W σ0 (cs_java_util_Arrays_fill_c117_5 n mm σ v1 v2 v3) := by
  intro mm
  induction mm with
  | zero =>
    intros
    exact pf_none
  | succ mm ih =>
    intro σ v1 v2 v3  h
    unfold cs_java_util_Arrays_fill_c117_5
    refine pf_if ?_ ?_
    · exact pf_some h
    · refine pf_ck ?_
      refine pf_ltS (fs_su (hW.2 _ (by decide)) h) (fun s_3 hs_3 => ?_)
      refine pf_ltE ?_
      exact ih _ _ _ _ hs_3
theorem cf_java_util_Arrays_fill_c117 {W : Nat → Prop} (hW : gb_sc W) {n : Nat} {σ0 : gb_S} {σ : gb_S} {p2 : Int32} (h : gb_fs W σ0 σ) : gb_pf W σ0 (cs_java_util_Arrays_fill_c117 n σ p2) := by
  unfold cs_java_util_Arrays_fill_c117
  exact cf_java_util_Arrays_fill_c117_5 hW _ _ _ _ _ h
theorem cf_java_util_Arrays_fill_c118_5 {W : Nat → Prop} (hW : gb_sc W) {n : Nat} {σ0 : gb_S} : ∀ (mm : Nat) (σ : gb_S) (v1 : Int32) (v2 : Int32) (v3 : Int32), gb_fs W σ0 σ → gb_pf W σ0 (cs_java_util_Arrays_fill_c118_5 n mm σ v1 v2 v3) := by
  intro mm
  induction mm with
  | zero =>
    intros
    exact pf_none
  | succ mm ih =>
    intro σ v1 v2 v3  h
    unfold cs_java_util_Arrays_fill_c118_5
    refine pf_if ?_ ?_
    · exact pf_some h
    · refine pf_ck ?_
      refine pf_ltS (fs_su (hW.2 _ (by decide)) h) (fun s_3 hs_3 => ?_)
      refine pf_ltE ?_
      exact ih _ _ _ _ hs_3
theorem cf_java_util_Arrays_fill_c118 {W : Nat → Prop} (hW : gb_sc W) {n : Nat} {σ0 : gb_S} {σ : gb_S} {p2 : Int32} (h : gb_fs W σ0 σ) : gb_pf W σ0 (cs_java_util_Arrays_fill_c118 n σ p2) := by
  unfold cs_java_util_Arrays_fill_c118
  exact cf_java_util_Arrays_fill_c118_5 hW _ _ _ _ _ h
theorem cf_java_util_Arrays_fill_c119_5 {W : Nat → Prop} (hW : gb_sc W) {n : Nat} {σ0 : gb_S} : ∀ (mm : Nat) (σ : gb_S) (v1 : Int32) (v2 : Int32) (v3 : Int32), gb_fs W σ0 σ → gb_pf W σ0 (cs_java_util_Arrays_fill_c119_5 n mm σ v1 v2 v3) := by
  intro mm
  induction mm with
  | zero =>
    intros
    exact pf_none
  | succ mm ih =>
    intro σ v1 v2 v3  h
    unfold cs_java_util_Arrays_fill_c119_5
    refine pf_if ?_ ?_
    · exact pf_some h
    · refine pf_ck ?_
      refine pf_ltS (fs_su (hW.2 _ (by decide)) h) (fun s_3 hs_3 => ?_)
      refine pf_ltE ?_
      exact ih _ _ _ _ hs_3
theorem cf_java_util_Arrays_fill_c119 {W : Nat → Prop} (hW : gb_sc W) {n : Nat} {σ0 : gb_S} {σ : gb_S} {p2 : Int32} (h : gb_fs W σ0 σ) : gb_pf W σ0 (cs_java_util_Arrays_fill_c119 n σ p2) := by
  unfold cs_java_util_Arrays_fill_c119
  exact cf_java_util_Arrays_fill_c119_5 hW _ _ _ _ _ h
theorem cf_Play_begin_B_7 {W : Nat → Prop} (hW : gb_sc W) {n : Nat} {σ0 : gb_S} : ∀ (mm : Nat) (σ : gb_S) (v1 : Nat) (v2 : Int32), gb_fs W σ0 σ → gb_pf W σ0 (cs_Play_begin_B_7 n mm σ v1 v2) := by
  intro mm
  induction mm with
  | zero =>
    intros
    exact pf_none
  | succ mm ih =>
    intro σ v1 v2  h
    unfold cs_Play_begin_B_7
    refine pf_kk (fun ck_v1 => ?_)
    refine pf_if ?_ ?_
    · refine pf_cd (cf_java_util_Arrays_fill_c116 hW h) (fun s_5 _ hs_5 => ?_)
      refine pf_cd (cf_java_util_Arrays_fill_c117 hW hs_5) (fun s_9 _ hs_9 => ?_)
      refine pf_cd (cf_java_util_Arrays_fill_c118 hW hs_9) (fun s_13 _ hs_13 => ?_)
      refine pf_cd (cf_java_util_Arrays_fill_c119 hW hs_13) (fun s_17 _ hs_17 => ?_)
      refine pf_ltS (fs_su (hW.2 _ (by decide)) hs_17) (fun s_21 hs_21 => ?_)
      refine pf_ltS (fs_su (hW.2 _ (by decide)) hs_21) (fun s_22 hs_22 => ?_)
      refine pf_ltS (fs_su (hW.2 _ (by decide)) hs_22) (fun s_23 hs_23 => ?_)
      exact pf_some hs_23
    · refine pf_ck ?_
      refine pf_ltS (fs_su (hW.2 _ (by decide)) h) (fun s_25 hs_25 => ?_)
      refine pf_cd (cf_Border_hasGoose_B hW hs_25) (fun s_26 r_27 hs_26 => ?_)
      refine pf_if ?_ ?_
      · refine pf_ck ?_
        refine pf_ltS (fs_su (hW.2 _ (by decide)) hs_26) (fun s_32 hs_32 => ?_)
        refine pf_ck ?_
        refine pf_ltS (fs_su (hW.2 _ (by decide)) hs_32) (fun s_34 hs_34 => ?_)
        refine pf_ck ?_
        refine pf_ltS (fs_su (hW.2 _ (by decide)) hs_34) (fun s_36 hs_36 => ?_)
        refine pf_ltE ?_
        exact ih _ _ _ hs_36
      · refine pf_cd (cf_Border_boots_B hW hs_26) (fun s_38 r_39 hs_38 => ?_)
        refine pf_ck ?_
        refine pf_ltS (fs_su (hW.2 _ (by decide)) hs_38) (fun s_43 hs_43 => ?_)
        refine pf_ck ?_
        refine pf_ltS (fs_su (hW.2 _ (by decide)) hs_43) (fun s_45 hs_45 => ?_)
        refine pf_ck ?_
        refine pf_ltS (fs_su (hW.2 _ (by decide)) hs_45) (fun s_47 hs_47 => ?_)
        refine pf_ltE ?_
        exact ih _ _ _ hs_47
theorem cf_Play_begin_B {W : Nat → Prop} (hW : gb_sc W) {n : Nat} {σ0 : gb_S} {σ : gb_S} {p1 : Nat} (h : gb_fs W σ0 σ) : gb_pf W σ0 (cs_Play_begin_B n σ p1) := by
  unfold cs_Play_begin_B
  refine pf_kk (fun ck_p1 => ?_)
  refine pf_ltS (fs_sq h) (fun s_2 hs_2 => ?_)
  exact cf_Play_begin_B_7 hW _ _ _ _ hs_2
theorem cf_Lines_kind_N {W : Nat → Prop} (hW : gb_sc W) {n : Nat} {σ0 : gb_S} {σ : gb_S} {k0 : Nat} {p1 : Int32} (h : gb_fs W σ0 σ) : gb_pf W σ0 (cs_Lines_kind_N n σ k0 p1) := by
  unfold cs_Lines_kind_N
  refine pf_kk (fun ck_k0 => ?_)
  refine pf_cd (cf_Lines_cell_N hW h) (fun s_2 r_3 hs_2 => ?_)
  exact pf_some hs_2
theorem cf_Play_stands {W : Nat → Prop} (hW : gb_sc W) {n : Nat} {σ0 : gb_S} {σ : gb_S} {p1 : Int32} {p2 : Int32} (h : gb_fs W σ0 σ) : gb_pf W σ0 (cs_Play_stands n σ p1 p2) := by
  unfold cs_Play_stands
  refine pf_kk (fun _ => ?_)
  refine pf_cd (cf_Border_hasGoose_B hW h) (fun s_2 r_3 hs_2 => ?_)
  refine pf_if ?_ ?_
  · exact pf_some hs_2
  · refine pf_ck ?_
    refine pf_ltV (fun x_8 => ?_)
    refine pf_if ?_ ?_
    · exact pf_some hs_2
    · exact pf_some hs_2
theorem cf_Play_latestGoer_7 {W : Nat → Prop} (hW : gb_sc W) {n : Nat} {σ0 : gb_S} : ∀ (mm : Nat) (σ : gb_S) (v1 : Int32) (v2 : Int32) (v3 : Int32) (v4 : Int32), gb_fs W σ0 σ → gb_pf W σ0 (cs_Play_latestGoer_7 n mm σ v1 v2 v3 v4) := by
  intro mm
  induction mm with
  | zero =>
    intros
    exact pf_none
  | succ mm ih =>
    intro σ v1 v2 v3 v4  h
    unfold cs_Play_latestGoer_7
    refine pf_kk (fun _ => ?_)
    refine pf_cd (cf_Border_geese_B hW h) (fun s_2 r_3 hs_2 => ?_)
    refine pf_if ?_ ?_
    · exact pf_some hs_2
    · refine pf_ck ?_
      refine pf_ltV (fun x_8 => ?_)
      refine pf_if ?_ ?_
      · refine pf_ltE ?_
        exact ih _ _ _ _ _ hs_2
      · refine pf_ck ?_
        refine pf_ltV (fun x_12 => ?_)
        refine pf_if ?_ ?_
        · refine pf_ltE ?_
          exact ih _ _ _ _ _ hs_2
        · refine pf_ltE ?_
          exact ih _ _ _ _ _ hs_2
theorem cf_Play_latestGoer {W : Nat → Prop} (hW : gb_sc W) {n : Nat} {σ0 : gb_S} {σ : gb_S} {p1 : Int32} (h : gb_fs W σ0 σ) : gb_pf W σ0 (cs_Play_latestGoer n σ p1) := by
  unfold cs_Play_latestGoer
  exact cf_Play_latestGoer_7 hW _ _ _ _ _ _ h
theorem cf_Play_canBe_N {W : Nat → Prop} (hW : gb_sc W) {n : Nat} {σ0 : gb_S} {σ : gb_S} {p1 : Nat} {p2 : Int32} (h : gb_fs W σ0 σ) : gb_pf W σ0 (cs_Play_canBe_N n σ p1 p2) := by
  unfold cs_Play_canBe_N
  refine pf_kk (fun ck_p1 => ?_)
  refine pf_cd (cf_Lines_cell_N hW h) (fun s_2 r_3 hs_2 => ?_)
  refine pf_cd (cf_Lines_cell_N hW hs_2) (fun s_6 r_7 hs_6 => ?_)
  refine pf_cd (cf_Lines_kind_N hW hs_6) (fun s_10 r_11 hs_10 => ?_)
  refine pf_if ?_ ?_
  · refine pf_cd (cf_Play_stands hW hs_10) (fun s_15 r_16 hs_15 => ?_)
    refine pf_if ?_ ?_
    · exact pf_some hs_15
    · refine pf_kk (fun _ => ?_)
      refine pf_cd (cf_Border_hasPath_B hW hs_15) (fun s_21 r_22 hs_21 => ?_)
      refine pf_if ?_ ?_
      · exact pf_some hs_21
      · exact pf_some hs_21
  · refine pf_if ?_ ?_
    · refine pf_cd (cf_Play_stands hW hs_10) (fun s_27 r_28 hs_27 => ?_)
      refine pf_if ?_ ?_
      · exact pf_some hs_27
      · refine pf_kk (fun _ => ?_)
        refine pf_cd (cf_Border_hasPath_B hW hs_27) (fun s_33 r_34 hs_33 => ?_)
        refine pf_if ?_ ?_
        · exact pf_some hs_33
        · exact pf_some hs_33
    · refine pf_if ?_ ?_
      · refine pf_cd (cf_Play_stands hW hs_10) (fun s_39 r_40 hs_39 => ?_)
        refine pf_if ?_ ?_
        · exact pf_some hs_39
        · refine pf_kk (fun _ => ?_)
          refine pf_cd (cf_Border_hasPath_B hW hs_39) (fun s_45 r_46 hs_45 => ?_)
          refine pf_if ?_ ?_
          · exact pf_some hs_45
          · exact pf_some hs_45
      · refine pf_if ?_ ?_
        · refine pf_cd (cf_Play_stands hW hs_10) (fun s_51 r_52 hs_51 => ?_)
          refine pf_if ?_ ?_
          · exact pf_some hs_51
          · refine pf_cd (cf_Play_stands hW hs_51) (fun s_56 r_57 hs_56 => ?_)
            refine pf_if ?_ ?_
            · exact pf_some hs_56
            · refine pf_kk (fun _ => ?_)
              refine pf_cd (cf_Lines_cell_N hW hs_56) (fun s_62 r_63 hs_62 => ?_)
              refine pf_cd (cf_Border_hasPath_B hW hs_62) (fun s_66 r_67 hs_66 => ?_)
              refine pf_if ?_ ?_
              · exact pf_some hs_66
              · exact pf_some hs_66
        · refine pf_if ?_ ?_
          · refine pf_cd (cf_Play_stands hW hs_10) (fun s_72 r_73 hs_72 => ?_)
            refine pf_if ?_ ?_
            · refine pf_cd (cf_Play_stands hW hs_72) (fun s_77 r_78 hs_77 => ?_)
              refine pf_if ?_ ?_
              · exact pf_some hs_77
              · exact pf_some hs_77
            · exact pf_some hs_72
          · refine pf_if ?_ ?_
            · exact pf_some hs_10
            · refine pf_if ?_ ?_
              · exact pf_some hs_10
              · refine pf_if ?_ ?_
                · exact pf_some hs_10
                · refine pf_if ?_ ?_
                  · refine pf_kk (fun _ => ?_)
                    refine pf_cd (cf_Border_hasPath_B hW hs_10) (fun s_87 r_88 hs_87 => ?_)
                    refine pf_if ?_ ?_
                    · exact pf_some hs_87
                    · refine pf_cd (cf_Play_latestGoer hW hs_87) (fun s_92 r_93 hs_92 => ?_)
                      refine pf_if ?_ ?_
                      · exact pf_some hs_92
                      · exact pf_some hs_92
                  · exact pf_some hs_10
theorem cf_Play_go_n_95 {W : Nat → Prop} (hW : gb_sc W) {n : Nat} {σ0 : gb_S} {σ : gb_S} {v1 : Int32} {v2 : Int32} {v3 : Int32} {t0 : Int32} {t1 : Int32} (h : gb_fs W σ0 σ) : gb_pf W σ0 (cs_Play_go_n_95 n σ v1 v2 v3 t0 t1) := by
  unfold cs_Play_go_n_95
  refine pf_ck ?_
  refine pf_ltS (fs_su (hW.2 _ (by decide)) h) (fun s_26 hs_26 => ?_)
  refine pf_ck ?_
  refine pf_ltS (fs_su (hW.2 _ (by decide)) hs_26) (fun s_28 hs_28 => ?_)
  refine pf_ck ?_
  refine pf_ltS (fs_su (hW.2 _ (by decide)) hs_28) (fun s_30 hs_30 => ?_)
  exact pf_some hs_30
theorem cf_Play_go_n_46 {W : Nat → Prop} (hW : gb_sc W) {n : Nat} {σ0 : gb_S} {σ : gb_S} {v1 : Int32} {v2 : Int32} {v3 : Int32} {v5 : Int32} {v6 : Int32} (h : gb_fs W σ0 σ) : gb_pf W σ0 (cs_Play_go_n_46 n σ v1 v2 v3 v5 v6) := by
  unfold cs_Play_go_n_46
  refine pf_ck ?_
  refine pf_ltV (fun x_14 => ?_)
  refine pf_ltV (fun x_15 => ?_)
  refine pf_ck ?_
  refine pf_ltS (fs_su (hW.2 _ (by decide)) h) (fun s_17 hs_17 => ?_)
  refine pf_ck ?_
  refine pf_ltV (fun x_19 => ?_)
  refine pf_ck ?_
  refine pf_ltS (fs_su (hW.2 _ (by decide)) hs_17) (fun s_21 hs_21 => ?_)
  refine pf_ck ?_
  refine pf_ltV (fun x_23 => ?_)
  refine pf_if ?_ ?_
  · exact cf_Play_go_n_95 hW hs_21
  · exact cf_Play_go_n_95 hW hs_21
theorem cf_Play_go_n {W : Nat → Prop} (hW : gb_sc W) {n : Nat} {σ0 : gb_S} {σ : gb_S} {p1 : Int32} {p2 : Int32} {p3 : Int32} (h : gb_fs W σ0 σ) : gb_pf W σ0 (cs_Play_go_n n σ p1 p2 p3) := by
  unfold cs_Play_go_n
  refine pf_kk (fun _ => ?_)
  refine pf_cd (cf_Border_miles_B hW h) (fun s_2 r_3 hs_2 => ?_)
  refine pf_kk (fun _ => ?_)
  refine pf_ck ?_
  refine pf_ltV (fun x_8 => ?_)
  refine pf_cd (cf_Border_marksOver_B hW hs_2) (fun s_9 r_10 hs_9 => ?_)
  exact cf_Play_go_n_46 hW hs_9
theorem cf_Play_go_c116_95 {W : Nat → Prop} (hW : gb_sc W) {n : Nat} {σ0 : gb_S} {σ : gb_S} {v1 : Int32} {v2 : Int32} {v3 : Int32} {t0 : Int32} {t1 : Int32} (h : gb_fs W σ0 σ) : gb_pf W σ0 (cs_Play_go_c116_95 n σ v1 v2 v3 t0 t1) := by
  unfold cs_Play_go_c116_95
  refine pf_ck ?_
  refine pf_ltS (fs_su (hW.2 _ (by decide)) h) (fun s_30 hs_30 => ?_)
  refine pf_ck ?_
  refine pf_ltS (fs_su (hW.2 _ (by decide)) hs_30) (fun s_32 hs_32 => ?_)
  refine pf_ck ?_
  refine pf_ltS (fs_su (hW.2 _ (by decide)) hs_32) (fun s_34 hs_34 => ?_)
  exact pf_some hs_34
theorem cf_Play_go_c116_46 {W : Nat → Prop} (hW : gb_sc W) {n : Nat} {σ0 : gb_S} {σ : gb_S} {v1 : Int32} {v2 : Int32} {v3 : Int32} {v5 : Int32} {v6 : Int32} (h : gb_fs W σ0 σ) : gb_pf W σ0 (cs_Play_go_c116_46 n σ v1 v2 v3 v5 v6) := by
  unfold cs_Play_go_c116_46
  refine pf_ck ?_
  refine pf_ltV (fun x_18 => ?_)
  refine pf_ltV (fun x_19 => ?_)
  refine pf_ck ?_
  refine pf_ltS (fs_su (hW.2 _ (by decide)) h) (fun s_21 hs_21 => ?_)
  refine pf_ck ?_
  refine pf_ltV (fun x_23 => ?_)
  refine pf_ck ?_
  refine pf_ltS (fs_su (hW.2 _ (by decide)) hs_21) (fun s_25 hs_25 => ?_)
  refine pf_ck ?_
  refine pf_ltV (fun x_27 => ?_)
  refine pf_if ?_ ?_
  · exact cf_Play_go_c116_95 hW hs_25
  · exact cf_Play_go_c116_95 hW hs_25
theorem cf_Play_go_c116 {W : Nat → Prop} (hW : gb_sc W) {n : Nat} {σ0 : gb_S} {σ : gb_S} {p1 : Int32} {p2 : Int32} {p3 : Int32} (h : gb_fs W σ0 σ) : gb_pf W σ0 (cs_Play_go_c116 n σ p1 p2 p3) := by
  unfold cs_Play_go_c116
  refine pf_kk (fun _ => ?_)
  refine pf_cd (cf_Border_miles_B hW h) (fun s_2 r_3 hs_2 => ?_)
  refine pf_kk (fun _ => ?_)
  refine pf_ck ?_
  refine pf_ltV (fun x_8 => ?_)
  refine pf_cd (cf_Border_marksOver_B hW hs_2) (fun s_9 r_10 hs_9 => ?_)
  refine pf_ck ?_
  refine pf_ltV (fun x_14 => ?_)
  refine pf_ck ?_
  refine pf_ltS (fs_su (hW.2 _ (by decide)) hs_9) (fun s_16 hs_16 => ?_)
  exact cf_Play_go_c116_46 hW hs_16
theorem cf_Play_go_c117_95 {W : Nat → Prop} (hW : gb_sc W) {n : Nat} {σ0 : gb_S} {σ : gb_S} {v1 : Int32} {v2 : Int32} {v3 : Int32} {t0 : Int32} {t1 : Int32} (h : gb_fs W σ0 σ) : gb_pf W σ0 (cs_Play_go_c117_95 n σ v1 v2 v3 t0 t1) := by
  unfold cs_Play_go_c117_95
  refine pf_ck ?_
  refine pf_ltS (fs_su (hW.2 _ (by decide)) h) (fun s_30 hs_30 => ?_)
  refine pf_ck ?_
  refine pf_ltS (fs_su (hW.2 _ (by decide)) hs_30) (fun s_32 hs_32 => ?_)
  refine pf_ck ?_
  refine pf_ltS (fs_su (hW.2 _ (by decide)) hs_32) (fun s_34 hs_34 => ?_)
  exact pf_some hs_34
theorem cf_Play_go_c117_46 {W : Nat → Prop} (hW : gb_sc W) {n : Nat} {σ0 : gb_S} {σ : gb_S} {v1 : Int32} {v2 : Int32} {v3 : Int32} {v5 : Int32} {v6 : Int32} (h : gb_fs W σ0 σ) : gb_pf W σ0 (cs_Play_go_c117_46 n σ v1 v2 v3 v5 v6) := by
  unfold cs_Play_go_c117_46
  refine pf_ck ?_
  refine pf_ltV (fun x_18 => ?_)
  refine pf_ltV (fun x_19 => ?_)
  refine pf_ck ?_
  refine pf_ltS (fs_su (hW.2 _ (by decide)) h) (fun s_21 hs_21 => ?_)
  refine pf_ck ?_
  refine pf_ltV (fun x_23 => ?_)
  refine pf_ck ?_
  refine pf_ltS (fs_su (hW.2 _ (by decide)) hs_21) (fun s_25 hs_25 => ?_)
  refine pf_ck ?_
  refine pf_ltV (fun x_27 => ?_)
  refine pf_if ?_ ?_
  · exact cf_Play_go_c117_95 hW hs_25
  · exact cf_Play_go_c117_95 hW hs_25
theorem cf_Play_go_c117 {W : Nat → Prop} (hW : gb_sc W) {n : Nat} {σ0 : gb_S} {σ : gb_S} {p1 : Int32} {p2 : Int32} {p3 : Int32} (h : gb_fs W σ0 σ) : gb_pf W σ0 (cs_Play_go_c117 n σ p1 p2 p3) := by
  unfold cs_Play_go_c117
  refine pf_kk (fun _ => ?_)
  refine pf_cd (cf_Border_miles_B hW h) (fun s_2 r_3 hs_2 => ?_)
  refine pf_kk (fun _ => ?_)
  refine pf_ck ?_
  refine pf_ltV (fun x_8 => ?_)
  refine pf_cd (cf_Border_marksOver_B hW hs_2) (fun s_9 r_10 hs_9 => ?_)
  refine pf_ck ?_
  refine pf_ltV (fun x_14 => ?_)
  refine pf_ck ?_
  refine pf_ltS (fs_su (hW.2 _ (by decide)) hs_9) (fun s_16 hs_16 => ?_)
  exact cf_Play_go_c117_46 hW hs_16
theorem cf_Play_rainDown_2 {W : Nat → Prop} (hW : gb_sc W) {n : Nat} {σ0 : gb_S} : ∀ (mm : Nat) (σ : gb_S) (v1 : Int32) (v2 : Int32), gb_fs W σ0 σ → gb_pf W σ0 (cs_Play_rainDown_2 n mm σ v1 v2) := by
  intro mm
  induction mm with
  | zero =>
    intros
    exact pf_none
  | succ mm ih =>
    intro σ v1 v2  h
    unfold cs_Play_rainDown_2
    refine pf_kk (fun _ => ?_)
    refine pf_cd (cf_Border_paths_B hW h) (fun s_2 r_3 hs_2 => ?_)
    refine pf_if ?_ ?_
    · exact pf_some hs_2
    · refine pf_ck ?_
      refine pf_ltV (fun x_8 => ?_)
      refine pf_ltE ?_
      refine pf_ck ?_
      refine pf_ltV (fun x_11 => ?_)
      refine pf_ltE ?_
      refine pf_ck ?_
      refine pf_ltV (fun x_14 => ?_)
      refine pf_ck ?_
      refine pf_ltS (fs_su (hW.2 _ (by decide)) hs_2) (fun s_16 hs_16 => ?_)
      refine pf_ck ?_
      refine pf_ltV (fun x_18 => ?_)
      refine pf_ck ?_
      refine pf_ltS (fs_su (hW.2 _ (by decide)) hs_16) (fun s_20 hs_20 => ?_)
      refine pf_ck ?_
      refine pf_ltV (fun x_22 => ?_)
      refine pf_ck ?_
      refine pf_ltS (fs_su (hW.2 _ (by decide)) hs_20) (fun s_24 hs_24 => ?_)
      refine pf_ltE ?_
      exact ih _ _ _ hs_24
theorem cf_Play_rainDown {W : Nat → Prop} (hW : gb_sc W) {n : Nat} {σ0 : gb_S} {σ : gb_S} {p1 : Int32} (h : gb_fs W σ0 σ) : gb_pf W σ0 (cs_Play_rainDown n σ p1) := by
  unfold cs_Play_rainDown
  exact cf_Play_rainDown_2 hW _ _ _ _ h
theorem cf_Play_eat {W : Nat → Prop} (hW : gb_sc W) {n : Nat} {σ0 : gb_S} {σ : gb_S} {p1 : Int32} (h : gb_fs W σ0 σ) : gb_pf W σ0 (cs_Play_eat n σ p1) := by
  unfold cs_Play_eat
  refine pf_kk (fun _ => ?_)
  refine pf_cd (cf_Border_hasGoose_B hW h) (fun s_2 r_3 hs_2 => ?_)
  refine pf_if ?_ ?_
  · exact pf_some hs_2
  · refine pf_ck ?_
    refine pf_ltS (fs_su (hW.2 _ (by decide)) hs_2) (fun s_8 hs_8 => ?_)
    exact pf_some hs_8
theorem cf_Play_doDeed_N {W : Nat → Prop} (hW : gb_sc W) {n : Nat} {σ0 : gb_S} {σ : gb_S} {p1 : Nat} {p2 : Int32} {p3 : Int32} (h : gb_fs W σ0 σ) : gb_pf W σ0 (cs_Play_doDeed_N n σ p1 p2 p3) := by
  unfold cs_Play_doDeed_N
  refine pf_kk (fun ck_p1 => ?_)
  refine pf_cd (cf_Lines_cell_N hW h) (fun s_2 r_3 hs_2 => ?_)
  refine pf_cd (cf_Lines_cell_N hW hs_2) (fun s_6 r_7 hs_6 => ?_)
  refine pf_cd (cf_Lines_kind_N hW hs_6) (fun s_10 r_11 hs_10 => ?_)
  refine pf_if ?_ ?_
  · refine pf_if ?_ ?_
    · refine pf_cd (cf_Play_go_n hW hs_10) (fun s_16 _ hs_16 => ?_)
      exact pf_some hs_16
    · refine pf_cd (cf_Play_go_c116 hW hs_10) (fun s_20 _ hs_20 => ?_)
      exact pf_some hs_20
  · refine pf_if ?_ ?_
    · refine pf_cd (cf_Play_go_c117 hW hs_10) (fun s_25 _ hs_25 => ?_)
      exact pf_some hs_25
    · refine pf_if ?_ ?_
      · refine pf_cd (cf_Play_go_c117 hW hs_10) (fun s_30 _ hs_30 => ?_)
        exact pf_some hs_30
      · refine pf_if ?_ ?_
        · refine pf_cd (cf_Lines_cell_N hW hs_10) (fun s_35 r_36 hs_35 => ?_)
          refine pf_cd (cf_Play_go_c116 hW hs_35) (fun s_39 _ hs_39 => ?_)
          refine pf_ck ?_
          refine pf_ltS (fs_su (hW.2 _ (by decide)) hs_39) (fun s_44 hs_44 => ?_)
          refine pf_cd (cf_Lines_cell_N hW hs_44) (fun s_45 r_46 hs_45 => ?_)
          refine pf_ck ?_
          refine pf_ltS (fs_su (hW.2 _ (by decide)) hs_45) (fun s_50 hs_50 => ?_)
          exact pf_some hs_50
        · refine pf_if ?_ ?_
          · refine pf_ck ?_
            refine pf_ltS (fs_su (hW.2 _ (by decide)) hs_10) (fun s_53 hs_53 => ?_)
            refine pf_ltS (fs_su (hW.2 _ (by decide)) hs_53) (fun s_54 hs_54 => ?_)
            exact pf_some hs_54
          · refine pf_if ?_ ?_
            · refine pf_cd (cf_Play_rainDown hW hs_10) (fun s_56 _ hs_56 => ?_)
              exact pf_some hs_56
            · refine pf_if ?_ ?_
              · refine pf_ltS (fs_su (hW.2 _ (by decide)) hs_10) (fun s_61 hs_61 => ?_)
                exact pf_some hs_61
              · refine pf_if ?_ ?_
                · refine pf_ltS (fs_su (hW.2 _ (by decide)) hs_10) (fun s_63 hs_63 => ?_)
                  exact pf_some hs_63
                · refine pf_if ?_ ?_
                  · refine pf_cd (cf_Play_latestGoer hW hs_10) (fun s_65 r_66 hs_65 => ?_)
                    refine pf_cd (cf_Play_eat hW hs_65) (fun s_69 _ hs_69 => ?_)
                    exact pf_some hs_69
                  · exact pf_some hs_10
theorem cf_Play_run_B_N_18 {W : Nat → Prop} (hW : gb_sc W) {n : Nat} {σ0 : gb_S} : ∀ (mm : Nat) (σ : gb_S) (v2 : Nat) (v4 : Int32) (v5 : Int32) (v6 : Int32), gb_fs W σ0 σ → gb_pf W σ0 (cs_Play_run_B_N_18 n mm σ v2 v4 v5 v6) := by
  intro mm
  induction mm with
  | zero =>
    intros
    exact pf_none
  | succ mm ih =>
    intro σ v2 v4 v5 v6  h
    unfold cs_Play_run_B_N_18
    refine pf_kk (fun ck_v2 => ?_)
    refine pf_if ?_ ?_
    · exact pf_some h
    · refine pf_cd (cf_Play_canBe_N hW h) (fun s_14 r_15 hs_14 => ?_)
      refine pf_if ?_ ?_
      · exact pf_some hs_14
      · refine pf_if ?_ ?_
        · refine pf_cd (cf_Play_doDeed_N hW hs_14) (fun s_20 _ hs_20 => ?_)
          refine pf_ltS (fs_su (hW.2 _ (by decide)) hs_20) (fun s_24 hs_24 => ?_)
          refine pf_ltE ?_
          exact ih _ _ _ _ _ hs_24
        · refine pf_cd (cf_Play_doDeed_N hW hs_14) (fun s_26 _ hs_26 => ?_)
          refine pf_ltS (fs_su (hW.2 _ (by decide)) hs_26) (fun s_30 hs_30 => ?_)
          refine pf_ltE ?_
          exact ih _ _ _ _ _ hs_30
theorem cf_Play_run_B_N {W : Nat → Prop} (hW : gb_sc W) {n : Nat} {σ0 : gb_S} {σ : gb_S} {p1 : Nat} {p2 : Nat} {p3 : Int32} {p4 : Int32} (h : gb_fs W σ0 σ) : gb_pf W σ0 (cs_Play_run_B_N n σ p1 p2 p3 p4) := by
  unfold cs_Play_run_B_N
  refine pf_kk (fun ck_p1 => ?_)
  refine pf_kk (fun ck_p2 => ?_)
  refine pf_cd (cf_Play_begin_B hW h) (fun s_3 _ hs_3 => ?_)
  refine pf_cd (cf_Lines_size_N hW hs_3) (fun s_7 r_8 hs_7 => ?_)
  refine pf_ltV (fun x_11 => ?_)
  exact cf_Play_run_B_N_18 hW _ _ _ _ _ _ hs_7
theorem cf_Face_playedOut_B_N {W : Nat → Prop} (hW : gb_sc W) {n : Nat} {σ0 : gb_S} {σ : gb_S} {p1 : Nat} {p2 : Nat} (h : gb_fs W σ0 σ) : gb_pf W σ0 (cs_Face_playedOut_B_N n σ p1 p2) := by
  unfold cs_Face_playedOut_B_N
  refine pf_kk (fun ck_p1 => ?_)
  refine pf_kk (fun ck_p2 => ?_)
  refine pf_cd (cf_Lines_size_N hW h) (fun s_3 r_4 hs_3 => ?_)
  refine pf_cd (cf_Play_run_B_N hW hs_3) (fun s_7 _ hs_7 => ?_)
  exact pf_some hs_7
theorem cf_Face_stop {W : Nat → Prop} (hW : gb_sc W) {n : Nat} {σ0 : gb_S} {σ : gb_S} {p1 : Int32} {p2 : Int32} (h : gb_fs W σ0 σ) : gb_pf W σ0 (cs_Face_stop n σ p1 p2) := by
  unfold cs_Face_stop
  refine pf_cd (cf_Face_borderAt hW h) (fun s_1 r_2 hs_1 => ?_)
  refine pf_if ?_ ?_
  · refine pf_cd (cf_Face_nightAt hW hs_1) (fun s_6 r_7 hs_6 => ?_)
    refine pf_if ?_ ?_
    · refine pf_cd (cf_Face_playedOut_n_n hW hs_6) (fun s_11 r_12 hs_11 => ?_)
      refine pf_if ?_ ?_
      · exact pf_some hs_11
      · exact pf_some hs_11
    · refine pf_kk (fun ck_r_7 => ?_)
      refine pf_cd (cf_Face_playedOut_n_N hW hs_6) (fun s_17 r_18 hs_17 => ?_)
      refine pf_if ?_ ?_
      · exact pf_some hs_17
      · exact pf_some hs_17
  · refine pf_kk (fun ck_r_2 => ?_)
    refine pf_cd (cf_Face_nightAt hW hs_1) (fun s_23 r_24 hs_23 => ?_)
    refine pf_if ?_ ?_
    · refine pf_cd (cf_Face_playedOut_B_n hW hs_23) (fun s_28 r_29 hs_28 => ?_)
      refine pf_if ?_ ?_
      · exact pf_some hs_28
      · exact pf_some hs_28
    · refine pf_kk (fun ck_r_24 => ?_)
      refine pf_cd (cf_Face_playedOut_B_N hW hs_23) (fun s_34 r_35 hs_34 => ?_)
      refine pf_if ?_ ?_
      · exact pf_some hs_34
      · exact pf_some hs_34
theorem cf_Face_playedTo_B_n {W : Nat → Prop} (hW : gb_sc W) {n : Nat} {σ0 : gb_S} {σ : gb_S} {p1 : Nat} {p3 : Int32} (h : gb_fs W σ0 σ) : gb_pf W σ0 (cs_Face_playedTo_B_n n σ p1 p3) := by
  unfold cs_Face_playedTo_B_n
  refine pf_kk (fun ck_p1 => ?_)
  exact pf_some h
theorem cf_Face_playedTo_B_N {W : Nat → Prop} (hW : gb_sc W) {n : Nat} {σ0 : gb_S} {σ : gb_S} {p1 : Nat} {p2 : Nat} {p3 : Int32} (h : gb_fs W σ0 σ) : gb_pf W σ0 (cs_Face_playedTo_B_N n σ p1 p2 p3) := by
  unfold cs_Face_playedTo_B_N
  refine pf_kk (fun ck_p1 => ?_)
  refine pf_kk (fun ck_p2 => ?_)
  refine pf_if ?_ ?_
  · exact pf_some h
  · refine pf_cd (cf_Lines_size_N hW h) (fun s_4 r_5 hs_4 => ?_)
    refine pf_if ?_ ?_
    · refine pf_cd (cf_Play_run_B_N hW hs_4) (fun s_9 _ hs_9 => ?_)
      refine pf_if ?_ ?_
      · exact pf_some hs_9
      · exact pf_some hs_9
    · exact pf_some hs_4
theorem cf_Face_goose {W : Nat → Prop} (hW : gb_sc W) {n : Nat} {σ0 : gb_S} {σ : gb_S} {p1 : Int32} {p2 : Int32} {p3 : Int32} {p4 : Int32} {p5 : Int32} (h : gb_fs W σ0 σ) : gb_pf W σ0 (cs_Face_goose n σ p1 p2 p3 p4 p5) := by
  unfold cs_Face_goose
  refine pf_cd (cf_Face_borderAt hW h) (fun s_1 r_2 hs_1 => ?_)
  refine pf_if ?_ ?_
  · exact pf_some hs_1
  · refine pf_kk (fun ck_r_2 => ?_)
    refine pf_cd (cf_Border_hasGoose_B hW hs_1) (fun s_7 r_8 hs_7 => ?_)
    refine pf_if ?_ ?_
    · exact pf_some hs_7
    · refine pf_cd (cf_Face_nightAt hW hs_7) (fun s_12 r_13 hs_12 => ?_)
      refine pf_if ?_ ?_
      · refine pf_cd (cf_Face_playedTo_B_n hW hs_12) (fun s_17 r_18 hs_17 => ?_)
        refine pf_if ?_ ?_
        · exact pf_some hs_17
        · refine pf_if ?_ ?_
          · refine pf_ck ?_
            refine pf_ltV (fun x_24 => ?_)
            exact pf_some hs_17
          · refine pf_if ?_ ?_
            · refine pf_ck ?_
              refine pf_ltV (fun x_27 => ?_)
              exact pf_some hs_17
            · refine pf_if ?_ ?_
              · refine pf_ck ?_
                refine pf_ltV (fun x_30 => ?_)
                exact pf_some hs_17
              · refine pf_if ?_ ?_
                · refine pf_ck ?_
                  refine pf_ltV (fun x_33 => ?_)
                  exact pf_some hs_17
                · exact pf_some hs_17
      · refine pf_kk (fun ck_r_13 => ?_)
        refine pf_cd (cf_Face_playedTo_B_N hW hs_12) (fun s_35 r_36 hs_35 => ?_)
        refine pf_if ?_ ?_
        · exact pf_some hs_35
        · refine pf_if ?_ ?_
          · refine pf_ck ?_
            refine pf_ltV (fun x_42 => ?_)
            exact pf_some hs_35
          · refine pf_if ?_ ?_
            · refine pf_ck ?_
              refine pf_ltV (fun x_45 => ?_)
              exact pf_some hs_35
            · refine pf_if ?_ ?_
              · refine pf_ck ?_
                refine pf_ltV (fun x_48 => ?_)
                exact pf_some hs_35
              · refine pf_if ?_ ?_
                · refine pf_ck ?_
                  refine pf_ltV (fun x_51 => ?_)
                  exact pf_some hs_35
                · exact pf_some hs_35
theorem cf_Play_tally {W : Nat → Prop} (hW : gb_sc W) {n : Nat} {σ0 : gb_S} {σ : gb_S} {p1 : Int32} (h : gb_fs W σ0 σ) : gb_pf W σ0 (cs_Play_tally n σ p1) := by
  unfold cs_Play_tally
  refine pf_ck ?_
  refine pf_ltV (fun x_2 => ?_)
  refine pf_ck ?_
  refine pf_ltV (fun x_4 => ?_)
  refine pf_ltV (fun x_5 => ?_)
  exact pf_some h
theorem cf_Face_path {W : Nat → Prop} (hW : gb_sc W) {n : Nat} {σ0 : gb_S} {σ : gb_S} {p1 : Int32} {p2 : Int32} {p3 : Int32} {p4 : Int32} {p5 : Int32} (h : gb_fs W σ0 σ) : gb_pf W σ0 (cs_Face_path n σ p1 p2 p3 p4 p5) := by
  unfold cs_Face_path
  refine pf_cd (cf_Face_borderAt hW h) (fun s_1 r_2 hs_1 => ?_)
  refine pf_if ?_ ?_
  · exact pf_some hs_1
  · refine pf_kk (fun ck_r_2 => ?_)
    refine pf_cd (cf_Border_hasPath_B hW hs_1) (fun s_7 r_8 hs_7 => ?_)
    refine pf_if ?_ ?_
    · exact pf_some hs_7
    · refine pf_cd (cf_Face_nightAt hW hs_7) (fun s_12 r_13 hs_12 => ?_)
      refine pf_if ?_ ?_
      · refine pf_cd (cf_Face_playedTo_B_n hW hs_12) (fun s_17 r_18 hs_17 => ?_)
        refine pf_if ?_ ?_
        · exact pf_some hs_17
        · refine pf_if ?_ ?_
          · refine pf_ck ?_
            refine pf_ltV (fun x_24 => ?_)
            exact pf_some hs_17
          · refine pf_if ?_ ?_
            · refine pf_ck ?_
              refine pf_ltV (fun x_27 => ?_)
              exact pf_some hs_17
            · refine pf_if ?_ ?_
              · refine pf_cd (cf_Play_tally hW hs_17) (fun s_29 r_30 hs_29 => ?_)
                exact pf_some hs_29
              · refine pf_if ?_ ?_
                · refine pf_cd (cf_Play_tally hW hs_17) (fun s_34 r_35 hs_34 => ?_)
                  refine pf_cd (cf_Border_padded_B hW hs_34) (fun s_38 r_39 hs_38 => ?_)
                  exact pf_some hs_38
                · refine pf_if ?_ ?_
                  · refine pf_cd (cf_Play_tally hW hs_17) (fun s_43 r_44 hs_43 => ?_)
                    refine pf_cd (cf_Border_payOf_B hW hs_43) (fun s_47 r_48 hs_47 => ?_)
                    exact pf_some hs_47
                  · refine pf_if ?_ ?_
                    · refine pf_ck ?_
                      refine pf_ltV (fun x_53 => ?_)
                      exact pf_some hs_17
                    · exact pf_some hs_17
      · refine pf_kk (fun ck_r_13 => ?_)
        refine pf_cd (cf_Face_playedTo_B_N hW hs_12) (fun s_55 r_56 hs_55 => ?_)
        refine pf_if ?_ ?_
        · exact pf_some hs_55
        · refine pf_if ?_ ?_
          · refine pf_ck ?_
            refine pf_ltV (fun x_62 => ?_)
            exact pf_some hs_55
          · refine pf_if ?_ ?_
            · refine pf_ck ?_
              refine pf_ltV (fun x_65 => ?_)
              exact pf_some hs_55
            · refine pf_if ?_ ?_
              · refine pf_cd (cf_Play_tally hW hs_55) (fun s_67 r_68 hs_67 => ?_)
                exact pf_some hs_67
              · refine pf_if ?_ ?_
                · refine pf_cd (cf_Play_tally hW hs_55) (fun s_72 r_73 hs_72 => ?_)
                  refine pf_cd (cf_Border_padded_B hW hs_72) (fun s_76 r_77 hs_76 => ?_)
                  exact pf_some hs_76
                · refine pf_if ?_ ?_
                  · refine pf_cd (cf_Play_tally hW hs_55) (fun s_81 r_82 hs_81 => ?_)
                    refine pf_cd (cf_Border_payOf_B hW hs_81) (fun s_85 r_86 hs_85 => ?_)
                    exact pf_some hs_85
                  · refine pf_if ?_ ?_
                    · refine pf_ck ?_
                      refine pf_ltV (fun x_91 => ?_)
                      exact pf_some hs_55
                    · exact pf_some hs_55
theorem cf_Play_whoIs_4 {W : Nat → Prop} (hW : gb_sc W) {n : Nat} {σ0 : gb_S} : ∀ (mm : Nat) (σ : gb_S) (v1 : Int32) (v2 : Int32) (v3 : Int32), gb_fs W σ0 σ → gb_pf W σ0 (cs_Play_whoIs_4 n mm σ v1 v2 v3) := by
  intro mm
  induction mm with
  | zero =>
    intros
    exact pf_none
  | succ mm ih =>
    intro σ v1 v2 v3  h
    unfold cs_Play_whoIs_4
    refine pf_kk (fun _ => ?_)
    refine pf_cd (cf_Border_geese_B hW h) (fun s_2 r_3 hs_2 => ?_)
    refine pf_if ?_ ?_
    · exact pf_some hs_2
    · refine pf_ck ?_
      refine pf_ltV (fun x_8 => ?_)
      refine pf_if ?_ ?_
      · refine pf_ltE ?_
        refine pf_ltE ?_
        exact ih _ _ _ _ hs_2
      · refine pf_ltE ?_
        exact ih _ _ _ _ hs_2
theorem cf_Play_whoIs {W : Nat → Prop} (hW : gb_sc W) {n : Nat} {σ0 : gb_S} {σ : gb_S} {p1 : Int32} (h : gb_fs W σ0 σ) : gb_pf W σ0 (cs_Play_whoIs n σ p1) := by
  unfold cs_Play_whoIs
  exact cf_Play_whoIs_4 hW _ _ _ _ _ h
theorem cf_Play_worn_43 {W : Nat → Prop} (hW : gb_sc W) {n : Nat} {σ0 : gb_S} {k4 : gb_S → Int32 → Int32 → gb_CR Int32} {σ : gb_S} {v1 : Int32} {v2 : Int32} {t0 : Int32} (h_k4 : ∀ (s : gb_S) (x1 : Int32) (x2 : Int32), gb_fs W σ0 s → gb_pf W σ0 (k4 s x1 x2)) (h : gb_fs W σ0 σ) : gb_pf W σ0 (cs_Play_worn_43 n k4 σ v1 v2 t0) := by
  unfold cs_Play_worn_43
  refine pf_if ?_ ?_
  · refine pf_ltE ?_
    exact h_k4 _ _ _ h
  · refine pf_ck ?_
    refine pf_ltV (fun x_16 => ?_)
    refine pf_if ?_ ?_
    · refine pf_ltE ?_
      refine pf_ltE ?_
      exact h_k4 _ _ _ h
    · refine pf_ltE ?_
      exact h_k4 _ _ _ h
theorem cf_Play_worn_38 {W : Nat → Prop} (hW : gb_sc W) {n : Nat} {σ0 : gb_S} {k4 : gb_S → Int32 → Int32 → gb_CR Int32} {σ : gb_S} {v1 : Int32} {v2 : Int32} (h_k4 : ∀ (s : gb_S) (x1 : Int32) (x2 : Int32), gb_fs W σ0 s → gb_pf W σ0 (k4 s x1 x2)) (h : gb_fs W σ0 σ) : gb_pf W σ0 (cs_Play_worn_38 n k4 σ v1 v2) := by
  unfold cs_Play_worn_38
  exact cf_Play_worn_43 hW h_k4 h
theorem cf_Play_worn_4 {W : Nat → Prop} (hW : gb_sc W) {n : Nat} {σ0 : gb_S} : ∀ (mm : Nat) (σ : gb_S) (v1 : Int32) (v2 : Int32), gb_fs W σ0 σ → gb_pf W σ0 (cs_Play_worn_4 n mm σ v1 v2) := by
  intro mm
  induction mm with
  | zero =>
    intros
    exact pf_none
  | succ mm ih =>
    intro σ v1 v2  h
    unfold cs_Play_worn_4
    refine pf_kk (fun _ => ?_)
    refine pf_cd (cf_Border_geese_B hW h) (fun s_2 r_3 hs_2 => ?_)
    refine pf_if ?_ ?_
    · exact pf_some hs_2
    · refine pf_kk (fun _ => ?_)
      refine pf_cd (cf_Border_boots_B hW hs_2) (fun s_8 r_9 hs_8 => ?_)
      refine pf_if ?_ ?_
      · refine cf_Play_worn_38 hW ?_ hs_8
        · intro σ v1 v2 hσ
          exact ih _ _ _ hσ
      · refine pf_if ?_ ?_
        · refine cf_Play_worn_38 hW ?_ hs_8
          · intro σ v1 v2 hσ
            exact ih _ _ _ hσ
        · refine cf_Play_worn_43 hW ?_ hs_8
          · intro σ v1 v2 hσ
            exact ih _ _ _ hσ
theorem cf_Play_worn {W : Nat → Prop} (hW : gb_sc W) {n : Nat} {σ0 : gb_S} {σ : gb_S} (h : gb_fs W σ0 σ) : gb_pf W σ0 (cs_Play_worn n σ) := by
  unfold cs_Play_worn
  exact cf_Play_worn_4 hW _ _ _ _ h
theorem cf_Play_payTold_14 {W : Nat → Prop} (hW : gb_sc W) {n : Nat} {σ0 : gb_S} {σ : gb_S} {v2 : Int32} {t0 : Int32} (h : gb_fs W σ0 σ) : gb_pf W σ0 (cs_Play_payTold_14 n σ v2 t0) := by
  unfold cs_Play_payTold_14
  refine pf_kk (fun _ => ?_)
  refine pf_cd (cf_Border_rate_B hW h) (fun s_3 r_4 hs_3 => ?_)
  refine pf_if ?_ ?_
  · refine pf_cd (cf_Play_tally hW hs_3) (fun s_8 r_9 hs_8 => ?_)
    exact pf_some hs_8
  · refine pf_kk (fun _ => ?_)
    refine pf_cd (cf_Play_tally hW hs_3) (fun s_13 r_14 hs_13 => ?_)
    refine pf_cd (cf_Border_padded_B hW hs_13) (fun s_17 r_18 hs_17 => ?_)
    exact pf_some hs_17
theorem cf_Play_payTold {W : Nat → Prop} (hW : gb_sc W) {n : Nat} {σ0 : gb_S} {σ : gb_S} {p1 : Int32} {p2 : Int32} (h : gb_fs W σ0 σ) : gb_pf W σ0 (cs_Play_payTold n σ p1 p2) := by
  unfold cs_Play_payTold
  refine pf_if ?_ ?_
  · exact cf_Play_payTold_14 hW h
  · exact cf_Play_payTold_14 hW h
theorem cf_Play_payBy_4 {W : Nat → Prop} (hW : gb_sc W) {n : Nat} {σ0 : gb_S} : ∀ (mm : Nat) (σ : gb_S) (v1 : Int32) (v2 : Int32) (v3 : Int32), gb_fs W σ0 σ → gb_pf W σ0 (cs_Play_payBy_4 n mm σ v1 v2 v3) := by
  intro mm
  induction mm with
  | zero =>
    intros
    exact pf_none
  | succ mm ih =>
    intro σ v1 v2 v3  h
    unfold cs_Play_payBy_4
    refine pf_kk (fun _ => ?_)
    refine pf_cd (cf_Border_paths_B hW h) (fun s_2 r_3 hs_2 => ?_)
    refine pf_if ?_ ?_
    · exact pf_some hs_2
    · refine pf_cd (cf_Play_payTold hW hs_2) (fun s_7 r_8 hs_7 => ?_)
      refine pf_ltE ?_
      refine pf_ltE ?_
      exact ih _ _ _ _ hs_7
theorem cf_Play_payBy {W : Nat → Prop} (hW : gb_sc W) {n : Nat} {σ0 : gb_S} {σ : gb_S} {p1 : Int32} (h : gb_fs W σ0 σ) : gb_pf W σ0 (cs_Play_payBy n σ p1) := by
  unfold cs_Play_payBy
  exact cf_Play_payBy_4 hW _ _ _ _ _ h
theorem cf_Play_allPay {W : Nat → Prop} (hW : gb_sc W) {n : Nat} {σ0 : gb_S} {σ : gb_S} (h : gb_fs W σ0 σ) : gb_pf W σ0 (cs_Play_allPay n σ) := by
  unfold cs_Play_allPay
  refine pf_kk (fun _ => ?_)
  refine pf_cd (cf_Border_paths_B hW h) (fun s_2 r_3 hs_2 => ?_)
  refine pf_cd (cf_Play_payBy hW hs_2) (fun s_6 r_7 hs_6 => ?_)
  exact pf_some hs_6
theorem cf_Face_state {W : Nat → Prop} (hW : gb_sc W) {n : Nat} {σ0 : gb_S} {σ : gb_S} {p1 : Int32} {p2 : Int32} {p3 : Int32} {p4 : Int32} (h : gb_fs W σ0 σ) : gb_pf W σ0 (cs_Face_state n σ p1 p2 p3 p4) := by
  unfold cs_Face_state
  refine pf_cd (cf_Face_borderAt hW h) (fun s_1 r_2 hs_1 => ?_)
  refine pf_if ?_ ?_
  · exact pf_some hs_1
  · refine pf_kk (fun ck_r_2 => ?_)
    refine pf_cd (cf_Face_nightAt hW hs_1) (fun s_7 r_8 hs_7 => ?_)
    refine pf_if ?_ ?_
    · refine pf_cd (cf_Face_playedTo_B_n hW hs_7) (fun s_12 r_13 hs_12 => ?_)
      refine pf_if ?_ ?_
      · exact pf_some hs_12
      · refine pf_if ?_ ?_
        · refine pf_cd (cf_Play_whoIs hW hs_12) (fun s_18 r_19 hs_18 => ?_)
          exact pf_some hs_18
        · refine pf_if ?_ ?_
          · refine pf_cd (cf_Play_whoIs hW hs_12) (fun s_23 r_24 hs_23 => ?_)
            exact pf_some hs_23
          · refine pf_if ?_ ?_
            · refine pf_cd (cf_Play_whoIs hW hs_12) (fun s_28 r_29 hs_28 => ?_)
              exact pf_some hs_28
            · refine pf_if ?_ ?_
              · refine pf_cd (cf_Play_whoIs hW hs_12) (fun s_33 r_34 hs_33 => ?_)
                refine pf_cd (cf_Border_worthOf_B hW hs_33) (fun s_37 r_38 hs_37 => ?_)
                exact pf_some hs_37
              · refine pf_if ?_ ?_
                · refine pf_cd (cf_Play_whoIs hW hs_12) (fun s_42 r_43 hs_42 => ?_)
                  refine pf_cd (cf_Border_worthOf_B hW hs_42) (fun s_46 r_47 hs_46 => ?_)
                  exact pf_some hs_46
                · refine pf_if ?_ ?_
                  · refine pf_cd (cf_Play_whoIs hW hs_12) (fun s_51 r_52 hs_51 => ?_)
                    refine pf_cd (cf_Border_worthOf_B hW hs_51) (fun s_55 r_56 hs_55 => ?_)
                    exact pf_some hs_55
                  · refine pf_if ?_ ?_
                    · refine pf_cd (cf_Play_worn hW hs_12) (fun s_60 r_61 hs_60 => ?_)
                      exact pf_some hs_60
                    · refine pf_if ?_ ?_
                      · refine pf_cd (cf_Play_allPay hW hs_12) (fun s_65 r_66 hs_65 => ?_)
                        exact pf_some hs_65
                      · refine pf_if ?_ ?_
                        · refine pf_if ?_ ?_
                          · exact pf_some hs_12
                          · exact pf_some hs_12
                        · exact pf_some hs_12
    · refine pf_kk (fun ck_r_8 => ?_)
      refine pf_cd (cf_Face_playedTo_B_N hW hs_7) (fun s_72 r_73 hs_72 => ?_)
      refine pf_if ?_ ?_
      · exact pf_some hs_72
      · refine pf_if ?_ ?_
        · refine pf_cd (cf_Play_whoIs hW hs_72) (fun s_78 r_79 hs_78 => ?_)
          exact pf_some hs_78
        · refine pf_if ?_ ?_
          · refine pf_cd (cf_Play_whoIs hW hs_72) (fun s_83 r_84 hs_83 => ?_)
            exact pf_some hs_83
          · refine pf_if ?_ ?_
            · refine pf_cd (cf_Play_whoIs hW hs_72) (fun s_88 r_89 hs_88 => ?_)
              exact pf_some hs_88
            · refine pf_if ?_ ?_
              · refine pf_cd (cf_Play_whoIs hW hs_72) (fun s_93 r_94 hs_93 => ?_)
                refine pf_cd (cf_Border_worthOf_B hW hs_93) (fun s_97 r_98 hs_97 => ?_)
                exact pf_some hs_97
              · refine pf_if ?_ ?_
                · refine pf_cd (cf_Play_whoIs hW hs_72) (fun s_102 r_103 hs_102 => ?_)
                  refine pf_cd (cf_Border_worthOf_B hW hs_102) (fun s_106 r_107 hs_106 => ?_)
                  exact pf_some hs_106
                · refine pf_if ?_ ?_
                  · refine pf_cd (cf_Play_whoIs hW hs_72) (fun s_111 r_112 hs_111 => ?_)
                    refine pf_cd (cf_Border_worthOf_B hW hs_111) (fun s_115 r_116 hs_115 => ?_)
                    exact pf_some hs_115
                  · refine pf_if ?_ ?_
                    · refine pf_cd (cf_Play_worn hW hs_72) (fun s_120 r_121 hs_120 => ?_)
                      exact pf_some hs_120
                    · refine pf_if ?_ ?_
                      · refine pf_cd (cf_Play_allPay hW hs_72) (fun s_125 r_126 hs_125 => ?_)
                        exact pf_some hs_125
                      · refine pf_if ?_ ?_
                        · refine pf_if ?_ ?_
                          · exact pf_some hs_72
                          · exact pf_some hs_72
                        · exact pf_some hs_72
theorem cf_Play_taken_14 {W : Nat → Prop} (hW : gb_sc W) {n : Nat} {σ0 : gb_S} {σ : gb_S} {v1 : Int32} {v2 : Int32} {t0 : Int32} (h : gb_fs W σ0 σ) : gb_pf W σ0 (cs_Play_taken_14 n σ v1 v2 t0) := by
  unfold cs_Play_taken_14
  refine pf_if ?_ ?_
  · refine pf_if ?_ ?_
    · refine pf_cd (cf_Play_payTold hW h) (fun s_4 r_5 hs_4 => ?_)
      exact pf_some hs_4
    · exact pf_some h
  · refine pf_kk (fun _ => ?_)
    refine pf_cd (cf_Border_cap_B hW h) (fun s_9 r_10 hs_9 => ?_)
    refine pf_if ?_ ?_
    · refine pf_if ?_ ?_
      · refine pf_cd (cf_Play_payTold hW hs_9) (fun s_15 r_16 hs_15 => ?_)
        exact pf_some hs_15
      · exact pf_some hs_9
    · refine pf_cd (cf_Play_payBy hW hs_9) (fun s_19 r_20 hs_19 => ?_)
      refine pf_kk (fun _ => ?_)
      refine pf_cd (cf_Border_cap_B hW hs_19) (fun s_24 r_25 hs_24 => ?_)
      refine pf_if ?_ ?_
      · refine pf_if ?_ ?_
        · refine pf_cd (cf_Play_payTold hW hs_24) (fun s_30 r_31 hs_30 => ?_)
          exact pf_some hs_30
        · exact pf_some hs_24
      · refine pf_if ?_ ?_
        · refine pf_cd (cf_Play_payTold hW hs_24) (fun s_35 r_36 hs_35 => ?_)
          exact pf_some hs_35
        · exact pf_some hs_24
theorem cf_Play_taken {W : Nat → Prop} (hW : gb_sc W) {n : Nat} {σ0 : gb_S} {σ : gb_S} {p1 : Int32} {p2 : Int32} (h : gb_fs W σ0 σ) : gb_pf W σ0 (cs_Play_taken n σ p1 p2) := by
  unfold cs_Play_taken
  refine pf_if ?_ ?_
  · exact cf_Play_taken_14 hW h
  · exact cf_Play_taken_14 hW h
theorem cf_Play_isAtRest_2 {W : Nat → Prop} (hW : gb_sc W) {n : Nat} {σ0 : gb_S} : ∀ (mm : Nat) (σ : gb_S) (v1 : Int32) (v2 : Int32), gb_fs W σ0 σ → gb_pf W σ0 (cs_Play_isAtRest_2 n mm σ v1 v2) := by
  intro mm
  induction mm with
  | zero =>
    intros
    exact pf_none
  | succ mm ih =>
    intro σ v1 v2  h
    unfold cs_Play_isAtRest_2
    refine pf_kk (fun _ => ?_)
    refine pf_cd (cf_Border_paths_B hW h) (fun s_2 r_3 hs_2 => ?_)
    refine pf_if ?_ ?_
    · exact pf_some hs_2
    · refine pf_cd (cf_Play_taken hW hs_2) (fun s_7 r_8 hs_7 => ?_)
      refine pf_cd (cf_Play_taken hW hs_7) (fun s_11 r_12 hs_11 => ?_)
      refine pf_if ?_ ?_
      · refine pf_ltE ?_
        exact ih _ _ _ hs_11
      · exact pf_some hs_11
theorem cf_Play_isAtRest {W : Nat → Prop} (hW : gb_sc W) {n : Nat} {σ0 : gb_S} {σ : gb_S} {p1 : Int32} (h : gb_fs W σ0 σ) : gb_pf W σ0 (cs_Play_isAtRest n σ p1) := by
  unfold cs_Play_isAtRest
  exact cf_Play_isAtRest_2 hW _ _ _ _ h
theorem cf_Face_rest_49 {W : Nat → Prop} (hW : gb_sc W) {n : Nat} {σ0 : gb_S} : ∀ (mm : Nat) (σ : gb_S) (v3 : Int32) (v5 : Int32) (v6 : Int32) (v7 : Int32), gb_fs W σ0 σ → gb_pf W σ0 (cs_Face_rest_49 n mm σ v3 v5 v6 v7) := by
  intro mm
  induction mm with
  | zero =>
    intros
    exact pf_none
  | succ mm ih =>
    intro σ v3 v5 v6 v7  h
    unfold cs_Face_rest_49
    refine pf_if ?_ ?_
    · refine pf_if ?_ ?_
      · exact pf_some h
      · exact pf_some h
    · refine pf_cd (cf_Play_isAtRest hW h) (fun s_26 r_27 hs_26 => ?_)
      refine pf_if ?_ ?_
      · refine pf_ltE ?_
        exact ih _ _ _ _ _ hs_26
      · refine pf_if ?_ ?_
        · exact pf_some hs_26
        · refine pf_ltE ?_
          refine pf_ltE ?_
          exact ih _ _ _ _ _ hs_26
theorem cf_Face_rest {W : Nat → Prop} (hW : gb_sc W) {n : Nat} {σ0 : gb_S} {σ : gb_S} {p1 : Int32} {p2 : Int32} {p3 : Int32} (h : gb_fs W σ0 σ) : gb_pf W σ0 (cs_Face_rest n σ p1 p2 p3) := by
  unfold cs_Face_rest
  refine pf_cd (cf_Face_borderAt hW h) (fun s_1 r_2 hs_1 => ?_)
  refine pf_if ?_ ?_
  · refine pf_if ?_ ?_
    · exact pf_some hs_1
    · exact pf_some hs_1
  · refine pf_kk (fun ck_r_2 => ?_)
    refine pf_if ?_ ?_
    · exact pf_some hs_1
    · refine pf_cd (cf_Face_nightAt hW hs_1) (fun s_9 r_10 hs_9 => ?_)
      refine pf_if ?_ ?_
      · refine pf_cd (cf_Face_playedOut_B_n hW hs_9) (fun s_14 r_15 hs_14 => ?_)
        refine pf_if ?_ ?_
        · exact pf_some hs_14
        · refine pf_cd (cf_Border_paths_B hW hs_14) (fun s_19 r_20 hs_19 => ?_)
          refine pf_ltE ?_
          exact cf_Face_rest_49 hW _ _ _ _ _ _ hs_19
      · refine pf_kk (fun ck_r_10 => ?_)
        refine pf_cd (cf_Face_playedOut_B_N hW hs_9) (fun s_36 r_37 hs_36 => ?_)
        refine pf_if ?_ ?_
        · exact pf_some hs_36
        · refine pf_cd (cf_Border_paths_B hW hs_36) (fun s_41 r_42 hs_41 => ?_)
          refine pf_ltE ?_
          exact cf_Face_rest_49 hW _ _ _ _ _ _ hs_41
theorem cf_Face_take {W : Nat → Prop} (hW : gb_sc W) {n : Nat} {σ0 : gb_S} {σ : gb_S} {p1 : Int32} {p2 : Int32} {p3 : Int32} {p4 : Int32} (h : gb_fs W σ0 σ) : gb_pf W σ0 (cs_Face_take n σ p1 p2 p3 p4) := by
  unfold cs_Face_take
  refine pf_cd (cf_Face_borderAt hW h) (fun s_1 r_2 hs_1 => ?_)
  refine pf_if ?_ ?_
  · exact pf_some hs_1
  · refine pf_kk (fun ck_r_2 => ?_)
    refine pf_cd (cf_Border_hasPath_B hW hs_1) (fun s_7 r_8 hs_7 => ?_)
    refine pf_if ?_ ?_
    · exact pf_some hs_7
    · refine pf_if ?_ ?_
      · exact pf_some hs_7
      · refine pf_cd (cf_Border_paths_B hW hs_7) (fun s_13 r_14 hs_13 => ?_)
        refine pf_if ?_ ?_
        · refine pf_cd (cf_Face_nightAt hW hs_13) (fun s_18 r_19 hs_18 => ?_)
          refine pf_if ?_ ?_
          · refine pf_cd (cf_Face_playedOut_B_n hW hs_18) (fun s_23 r_24 hs_23 => ?_)
            refine pf_if ?_ ?_
            · exact pf_some hs_23
            · refine pf_cd (cf_Play_taken hW hs_23) (fun s_28 r_29 hs_28 => ?_)
              exact pf_some hs_28
          · refine pf_kk (fun ck_r_19 => ?_)
            refine pf_cd (cf_Face_playedOut_B_N hW hs_18) (fun s_33 r_34 hs_33 => ?_)
            refine pf_if ?_ ?_
            · exact pf_some hs_33
            · refine pf_cd (cf_Play_taken hW hs_33) (fun s_38 r_39 hs_38 => ?_)
              exact pf_some hs_38
        · exact pf_some hs_13
theorem cf_Face_honest {W : Nat → Prop} (hW : gb_sc W) {n : Nat} {σ0 : gb_S} {σ : gb_S} {p1 : Int32} {p2 : Int32} {p3 : Int32} (h : gb_fs W σ0 σ) : gb_pf W σ0 (cs_Face_honest n σ p1 p2 p3) := by
  unfold cs_Face_honest
  refine pf_cd (cf_Face_borderAt hW h) (fun s_1 r_2 hs_1 => ?_)
  refine pf_if ?_ ?_
  · exact pf_some hs_1
  · refine pf_kk (fun ck_r_2 => ?_)
    refine pf_cd (cf_Border_hasPath_B hW hs_1) (fun s_7 r_8 hs_7 => ?_)
    refine pf_if ?_ ?_
    · exact pf_some hs_7
    · refine pf_cd (cf_Face_nightAt hW hs_7) (fun s_12 r_13 hs_12 => ?_)
      refine pf_if ?_ ?_
      · refine pf_cd (cf_Face_playedOut_B_n hW hs_12) (fun s_17 r_18 hs_17 => ?_)
        refine pf_if ?_ ?_
        · exact pf_some hs_17
        · refine pf_cd (cf_Play_tally hW hs_17) (fun s_22 r_23 hs_22 => ?_)
          refine pf_cd (cf_Border_payOf_B hW hs_22) (fun s_26 r_27 hs_26 => ?_)
          refine pf_cd (cf_Border_rate_B hW hs_26) (fun s_30 r_31 hs_30 => ?_)
          exact pf_some hs_30
      · refine pf_kk (fun ck_r_13 => ?_)
        refine pf_cd (cf_Face_playedOut_B_N hW hs_12) (fun s_35 r_36 hs_35 => ?_)
        refine pf_if ?_ ?_
        · exact pf_some hs_35
        · refine pf_cd (cf_Play_tally hW hs_35) (fun s_40 r_41 hs_40 => ?_)
          refine pf_cd (cf_Border_payOf_B hW hs_40) (fun s_44 r_45 hs_44 => ?_)
          refine pf_cd (cf_Border_rate_B hW hs_44) (fun s_48 r_49 hs_48 => ?_)
          exact pf_some hs_48
theorem cf_Dawn_marksSeen_D {W : Nat → Prop} (hW : gb_sc W) {n : Nat} {σ0 : gb_S} {σ : gb_S} {k0 : Nat} {p1 : Int32} (h : gb_fs W σ0 σ) : gb_pf W σ0 (cs_Dawn_marksSeen_D n σ k0 p1) := by
  unfold cs_Dawn_marksSeen_D
  refine pf_kk (fun ck_k0 => ?_)
  refine pf_cd (cf_Lines_cell_D hW h) (fun s_2 r_3 hs_2 => ?_)
  exact pf_some hs_2
theorem cf_Dawn_leftOn_D_2 {W : Nat → Prop} (hW : gb_sc W) {n : Nat} {σ0 : gb_S} : ∀ (mm : Nat) (σ : gb_S) (v0 : Nat) (v1 : Int32) (v2 : Int32), gb_fs W σ0 σ → gb_pf W σ0 (cs_Dawn_leftOn_D_2 n mm σ v0 v1 v2) := by
  intro mm
  induction mm with
  | zero =>
    intros
    exact pf_none
  | succ mm ih =>
    intro σ v0 v1 v2  h
    unfold cs_Dawn_leftOn_D_2
    refine pf_kk (fun ck_v0 => ?_)
    refine pf_cd (cf_Lines_size_D hW h) (fun s_3 r_4 hs_3 => ?_)
    refine pf_if ?_ ?_
    · exact pf_some hs_3
    · refine pf_cd (cf_Dawn_pathSeen_D hW hs_3) (fun s_8 r_9 hs_8 => ?_)
      refine pf_if ?_ ?_
      · refine pf_cd (cf_Dawn_marksSeen_D hW hs_8) (fun s_14 r_15 hs_14 => ?_)
        exact pf_some hs_14
      · refine pf_ltE ?_
        exact ih _ _ _ _ hs_8
theorem cf_Dawn_leftOn_D {W : Nat → Prop} (hW : gb_sc W) {n : Nat} {σ0 : gb_S} {σ : gb_S} {k0 : Nat} {p1 : Int32} (h : gb_fs W σ0 σ) : gb_pf W σ0 (cs_Dawn_leftOn_D n σ k0 p1) := by
  unfold cs_Dawn_leftOn_D
  refine pf_kk (fun ck_k0 => ?_)
  exact cf_Dawn_leftOn_D_2 hW _ _ _ _ _ h
theorem cf_Face_lacks_46 {W : Nat → Prop} (hW : gb_sc W) {n : Nat} {σ0 : gb_S} : ∀ (mm : Nat) (σ : gb_S) (v4 : Nat) (v5 : Nat) (v6 : Int32) (v7 : Int32), gb_fs W σ0 σ → gb_pf W σ0 (cs_Face_lacks_46 n mm σ v4 v5 v6 v7) := by
  intro mm
  induction mm with
  | zero =>
    intros
    exact pf_none
  | succ mm ih =>
    intro σ v4 v5 v6 v7  h
    unfold cs_Face_lacks_46
    refine pf_kk (fun ck_v4 => ?_)
    refine pf_kk (fun ck_v5 => ?_)
    refine pf_cd (cf_Border_paths_B hW h) (fun s_31 r_32 hs_31 => ?_)
    refine pf_if ?_ ?_
    · exact pf_some hs_31
    · refine pf_cd (cf_Dawn_leftOn_D hW hs_31) (fun s_36 r_37 hs_36 => ?_)
      refine pf_cd (cf_Play_tally hW hs_36) (fun s_40 r_41 hs_40 => ?_)
      refine pf_if ?_ ?_
      · refine pf_ltE ?_
        exact ih _ _ _ _ _ hs_40
      · refine pf_ltE ?_
        refine pf_ltE ?_
        exact ih _ _ _ _ _ hs_40
theorem cf_Face_lacks {W : Nat → Prop} (hW : gb_sc W) {n : Nat} {σ0 : gb_S} {σ : gb_S} {p1 : Int32} {p2 : Int32} {p3 : Int32} (h : gb_fs W σ0 σ) : gb_pf W σ0 (cs_Face_lacks n σ p1 p2 p3) := by
  unfold cs_Face_lacks
  refine pf_cd (cf_Face_borderAt hW h) (fun s_1 r_2 hs_1 => ?_)
  refine pf_if ?_ ?_
  · refine pf_cd (cf_Face_dawnAt hW hs_1) (fun s_6 r_7 hs_6 => ?_)
    refine pf_if ?_ ?_
    · exact pf_some hs_6
    · refine pf_kk (fun ck_r_7 => ?_)
      exact pf_some hs_6
  · refine pf_kk (fun ck_r_2 => ?_)
    refine pf_cd (cf_Face_dawnAt hW hs_1) (fun s_13 r_14 hs_13 => ?_)
    refine pf_if ?_ ?_
    · exact pf_some hs_13
    · refine pf_kk (fun ck_r_14 => ?_)
      refine pf_cd (cf_Face_nightAt hW hs_13) (fun s_19 r_20 hs_19 => ?_)
      refine pf_if ?_ ?_
      · refine pf_cd (cf_Face_playedOut_B_n hW hs_19) (fun s_24 r_25 hs_24 => ?_)
        refine pf_if ?_ ?_
        · exact pf_some hs_24
        · exact cf_Face_lacks_46 hW _ _ _ _ _ _ hs_24
      · refine pf_kk (fun ck_r_20 => ?_)
        refine pf_cd (cf_Face_playedOut_B_N hW hs_19) (fun s_49 r_50 hs_49 => ?_)
        refine pf_if ?_ ?_
        · exact pf_some hs_49
        · exact cf_Face_lacks_46 hW _ _ _ _ _ _ hs_49
theorem cf_Face_who_58 {W : Nat → Prop} (hW : gb_sc W) {n : Nat} {σ0 : gb_S} : ∀ (mm : Nat) (σ : gb_S) (v3 : Int32) (v4 : Int32) (v5 : Nat) (v6 : Nat) (v7 : Int32) (v8 : Int32), gb_fs W σ0 σ → gb_pf W σ0 (cs_Face_who_58 n mm σ v3 v4 v5 v6 v7 v8) := by
  intro mm
  induction mm with
  | zero =>
    intros
    exact pf_none
  | succ mm ih =>
    intro σ v3 v4 v5 v6 v7 v8  h
    unfold cs_Face_who_58
    refine pf_kk (fun ck_v5 => ?_)
    refine pf_kk (fun ck_v6 => ?_)
    refine pf_if ?_ ?_
    · exact pf_some h
    · refine pf_cd (cf_Lines_kind_N hW h) (fun s_33 r_34 hs_33 => ?_)
      refine pf_if ?_ ?_
      · refine pf_cd (cf_Lines_cell_N hW hs_33) (fun s_39 r_40 hs_39 => ?_)
        refine pf_if ?_ ?_
        · refine pf_cd (cf_Play_run_B_N hW hs_39) (fun s_45 _ hs_45 => ?_)
          refine pf_cd (cf_Play_tally hW hs_45) (fun s_49 r_50 hs_49 => ?_)
          refine pf_if ?_ ?_
          · exact pf_some hs_49
          · refine pf_ltE ?_
            exact ih _ _ _ _ _ _ _ hs_49
        · refine pf_ltE ?_
          exact ih _ _ _ _ _ _ _ hs_39
      · refine pf_ltE ?_
        exact ih _ _ _ _ _ _ _ hs_33
theorem cf_Face_who {W : Nat → Prop} (hW : gb_sc W) {n : Nat} {σ0 : gb_S} {σ : gb_S} {p1 : Int32} {p2 : Int32} {p3 : Int32} {p4 : Int32} (h : gb_fs W σ0 σ) : gb_pf W σ0 (cs_Face_who n σ p1 p2 p3 p4) := by
  unfold cs_Face_who
  refine pf_cd (cf_Face_borderAt hW h) (fun s_1 r_2 hs_1 => ?_)
  refine pf_if ?_ ?_
  · refine pf_cd (cf_Face_nightAt hW hs_1) (fun s_6 r_7 hs_6 => ?_)
    refine pf_if ?_ ?_
    · exact pf_some hs_6
    · refine pf_kk (fun ck_r_7 => ?_)
      exact pf_some hs_6
  · refine pf_kk (fun ck_r_2 => ?_)
    refine pf_cd (cf_Face_nightAt hW hs_1) (fun s_13 r_14 hs_13 => ?_)
    refine pf_if ?_ ?_
    · exact pf_some hs_13
    · refine pf_kk (fun ck_r_14 => ?_)
      refine pf_cd (cf_Border_hasPath_B hW hs_13) (fun s_19 r_20 hs_19 => ?_)
      refine pf_if ?_ ?_
      · exact pf_some hs_19
      · refine pf_cd (cf_Face_playedOut_B_N hW hs_19) (fun s_24 r_25 hs_24 => ?_)
        refine pf_if ?_ ?_
        · exact pf_some hs_24
        · refine pf_ltV (fun x_29 => ?_)
          exact cf_Face_who_58 hW _ _ _ _ _ _ _ _ hs_24
theorem cf_Lines_size {W : Nat → Prop} (hW : gb_sc W) {n : Nat} {σ0 : gb_S} {σ : gb_S} (h : gb_fs W σ0 σ) : gb_pf W σ0 (cs_Lines_size n σ) := by
  unfold cs_Lines_size
  refine pf_ltV (fun x_1 => ?_)
  exact pf_some h
theorem cf_Night_changeWithNext_31 {W : Nat → Prop} (hW : gb_sc W) {n : Nat} {σ0 : gb_S} : ∀ (mm : Nat) (σ : gb_S) (v2 : Int32) (v3 : Int32) (v4 : Int32), gb_fs W σ0 σ → gb_pf W σ0 (cs_Night_changeWithNext_31 n mm σ v2 v3 v4) := by
  intro mm
  induction mm with
  | zero =>
    intros
    exact pf_none
  | succ mm ih =>
    intro σ v2 v3 v4  h
    unfold cs_Night_changeWithNext_31
    refine pf_if ?_ ?_
    · exact pf_some h
    · refine pf_ck ?_
      refine pf_ltV (fun x_11 => ?_)
      refine pf_ck ?_
      refine pf_ltV (fun x_13 => ?_)
      refine pf_ck ?_
      refine pf_ltS (fs_su (hW.2 _ (by decide)) h) (fun s_15 hs_15 => ?_)
      refine pf_ck ?_
      refine pf_ltS (fs_su (hW.2 _ (by decide)) hs_15) (fun s_17 hs_17 => ?_)
      refine pf_ltE ?_
      exact ih _ _ _ _ hs_17
theorem cf_Night_changeWithNext {W : Nat → Prop} (hW : gb_sc W) {n : Nat} {σ0 : gb_S} {σ : gb_S} {p1 : Int32} (h : gb_fs W σ0 σ) : gb_pf W σ0 (cs_Night_changeWithNext n σ p1) := by
  unfold cs_Night_changeWithNext
  refine pf_if ?_ ?_
  · exact pf_some h
  · refine pf_cd (cf_Lines_size hW h) (fun s_2 r_3 hs_2 => ?_)
    refine pf_if ?_ ?_
    · refine pf_ltE ?_
      refine pf_ltE ?_
      exact cf_Night_changeWithNext_31 hW _ _ _ _ _ hs_2
    · exact pf_some hs_2
theorem cf_Lines_cell {W : Nat → Prop} (hW : gb_sc W) {n : Nat} {σ0 : gb_S} {σ : gb_S} {p1 : Int32} {p2 : Int32} (h : gb_fs W σ0 σ) : gb_pf W σ0 (cs_Lines_cell n σ p1 p2) := by
  unfold cs_Lines_cell
  refine pf_ck ?_
  refine pf_ltV (fun x_2 => ?_)
  exact pf_some h
theorem cf_Lines_kind {W : Nat → Prop} (hW : gb_sc W) {n : Nat} {σ0 : gb_S} {σ : gb_S} {p1 : Int32} (h : gb_fs W σ0 σ) : gb_pf W σ0 (cs_Lines_kind n σ p1) := by
  unfold cs_Lines_kind
  refine pf_cd (cf_Lines_cell hW h) (fun s_1 r_2 hs_1 => ?_)
  exact pf_some hs_1
theorem cf_Play_canBe_c104 {W : Nat → Prop} (hW : gb_sc W) {n : Nat} {σ0 : gb_S} {σ : gb_S} {p2 : Int32} (h : gb_fs W σ0 σ) : gb_pf W σ0 (cs_Play_canBe_c104 n σ p2) := by
  unfold cs_Play_canBe_c104
  refine pf_cd (cf_Lines_cell hW h) (fun s_1 r_2 hs_1 => ?_)
  refine pf_cd (cf_Lines_cell hW hs_1) (fun s_5 r_6 hs_5 => ?_)
  refine pf_cd (cf_Lines_kind hW hs_5) (fun s_9 r_10 hs_9 => ?_)
  refine pf_if ?_ ?_
  · refine pf_cd (cf_Play_stands hW hs_9) (fun s_14 r_15 hs_14 => ?_)
    refine pf_if ?_ ?_
    · exact pf_some hs_14
    · refine pf_kk (fun _ => ?_)
      refine pf_cd (cf_Border_hasPath_B hW hs_14) (fun s_20 r_21 hs_20 => ?_)
      refine pf_if ?_ ?_
      · exact pf_some hs_20
      · exact pf_some hs_20
  · refine pf_if ?_ ?_
    · refine pf_cd (cf_Play_stands hW hs_9) (fun s_26 r_27 hs_26 => ?_)
      refine pf_if ?_ ?_
      · exact pf_some hs_26
      · refine pf_kk (fun _ => ?_)
        refine pf_cd (cf_Border_hasPath_B hW hs_26) (fun s_32 r_33 hs_32 => ?_)
        refine pf_if ?_ ?_
        · exact pf_some hs_32
        · exact pf_some hs_32
    · refine pf_if ?_ ?_
      · refine pf_cd (cf_Play_stands hW hs_9) (fun s_38 r_39 hs_38 => ?_)
        refine pf_if ?_ ?_
        · exact pf_some hs_38
        · refine pf_kk (fun _ => ?_)
          refine pf_cd (cf_Border_hasPath_B hW hs_38) (fun s_44 r_45 hs_44 => ?_)
          refine pf_if ?_ ?_
          · exact pf_some hs_44
          · exact pf_some hs_44
      · refine pf_if ?_ ?_
        · refine pf_cd (cf_Play_stands hW hs_9) (fun s_50 r_51 hs_50 => ?_)
          refine pf_if ?_ ?_
          · exact pf_some hs_50
          · refine pf_cd (cf_Play_stands hW hs_50) (fun s_55 r_56 hs_55 => ?_)
            refine pf_if ?_ ?_
            · exact pf_some hs_55
            · refine pf_kk (fun _ => ?_)
              refine pf_cd (cf_Lines_cell hW hs_55) (fun s_61 r_62 hs_61 => ?_)
              refine pf_cd (cf_Border_hasPath_B hW hs_61) (fun s_65 r_66 hs_65 => ?_)
              refine pf_if ?_ ?_
              · exact pf_some hs_65
              · exact pf_some hs_65
        · refine pf_if ?_ ?_
          · refine pf_cd (cf_Play_stands hW hs_9) (fun s_71 r_72 hs_71 => ?_)
            refine pf_if ?_ ?_
            · refine pf_cd (cf_Play_stands hW hs_71) (fun s_76 r_77 hs_76 => ?_)
              refine pf_if ?_ ?_
              · exact pf_some hs_76
              · exact pf_some hs_76
            · exact pf_some hs_71
          · refine pf_if ?_ ?_
            · exact pf_some hs_9
            · refine pf_if ?_ ?_
              · exact pf_some hs_9
              · refine pf_if ?_ ?_
                · exact pf_some hs_9
                · refine pf_if ?_ ?_
                  · refine pf_kk (fun _ => ?_)
                    refine pf_cd (cf_Border_hasPath_B hW hs_9) (fun s_86 r_87 hs_86 => ?_)
                    refine pf_if ?_ ?_
                    · exact pf_some hs_86
                    · refine pf_cd (cf_Play_latestGoer hW hs_86) (fun s_91 r_92 hs_91 => ?_)
                      refine pf_if ?_ ?_
                      · exact pf_some hs_91
                      · exact pf_some hs_91
                  · exact pf_some hs_9
theorem cf_Play_doDeed_c104 {W : Nat → Prop} (hW : gb_sc W) {n : Nat} {σ0 : gb_S} {σ : gb_S} {p2 : Int32} {p3 : Int32} (h : gb_fs W σ0 σ) : gb_pf W σ0 (cs_Play_doDeed_c104 n σ p2 p3) := by
  unfold cs_Play_doDeed_c104
  refine pf_cd (cf_Lines_cell hW h) (fun s_1 r_2 hs_1 => ?_)
  refine pf_cd (cf_Lines_cell hW hs_1) (fun s_5 r_6 hs_5 => ?_)
  refine pf_cd (cf_Lines_kind hW hs_5) (fun s_9 r_10 hs_9 => ?_)
  refine pf_if ?_ ?_
  · refine pf_if ?_ ?_
    · refine pf_cd (cf_Play_go_n hW hs_9) (fun s_15 _ hs_15 => ?_)
      exact pf_some hs_15
    · refine pf_cd (cf_Play_go_c116 hW hs_9) (fun s_19 _ hs_19 => ?_)
      exact pf_some hs_19
  · refine pf_if ?_ ?_
    · refine pf_cd (cf_Play_go_c117 hW hs_9) (fun s_24 _ hs_24 => ?_)
      exact pf_some hs_24
    · refine pf_if ?_ ?_
      · refine pf_cd (cf_Play_go_c117 hW hs_9) (fun s_29 _ hs_29 => ?_)
        exact pf_some hs_29
      · refine pf_if ?_ ?_
        · refine pf_cd (cf_Lines_cell hW hs_9) (fun s_34 r_35 hs_34 => ?_)
          refine pf_cd (cf_Play_go_c116 hW hs_34) (fun s_38 _ hs_38 => ?_)
          refine pf_ck ?_
          refine pf_ltS (fs_su (hW.2 _ (by decide)) hs_38) (fun s_43 hs_43 => ?_)
          refine pf_cd (cf_Lines_cell hW hs_43) (fun s_44 r_45 hs_44 => ?_)
          refine pf_ck ?_
          refine pf_ltS (fs_su (hW.2 _ (by decide)) hs_44) (fun s_49 hs_49 => ?_)
          exact pf_some hs_49
        · refine pf_if ?_ ?_
          · refine pf_ck ?_
            refine pf_ltS (fs_su (hW.2 _ (by decide)) hs_9) (fun s_52 hs_52 => ?_)
            refine pf_ltS (fs_su (hW.2 _ (by decide)) hs_52) (fun s_53 hs_53 => ?_)
            exact pf_some hs_53
          · refine pf_if ?_ ?_
            · refine pf_cd (cf_Play_rainDown hW hs_9) (fun s_55 _ hs_55 => ?_)
              exact pf_some hs_55
            · refine pf_if ?_ ?_
              · refine pf_ltS (fs_su (hW.2 _ (by decide)) hs_9) (fun s_60 hs_60 => ?_)
                exact pf_some hs_60
              · refine pf_if ?_ ?_
                · refine pf_ltS (fs_su (hW.2 _ (by decide)) hs_9) (fun s_62 hs_62 => ?_)
                  exact pf_some hs_62
                · refine pf_if ?_ ?_
                  · refine pf_cd (cf_Play_latestGoer hW hs_9) (fun s_64 r_65 hs_64 => ?_)
                    refine pf_cd (cf_Play_eat hW hs_64) (fun s_68 _ hs_68 => ?_)
                    exact pf_some hs_68
                  · exact pf_some hs_9
theorem cf_Play_run_B_c104_18 {W : Nat → Prop} (hW : gb_sc W) {n : Nat} {σ0 : gb_S} : ∀ (mm : Nat) (σ : gb_S) (v4 : Int32) (v5 : Int32) (v6 : Int32), gb_fs W σ0 σ → gb_pf W σ0 (cs_Play_run_B_c104_18 n mm σ v4 v5 v6) := by
  intro mm
  induction mm with
  | zero =>
    intros
    exact pf_none
  | succ mm ih =>
    intro σ v4 v5 v6  h
    unfold cs_Play_run_B_c104_18
    refine pf_if ?_ ?_
    · exact pf_some h
    · refine pf_cd (cf_Play_canBe_c104 hW h) (fun s_12 r_13 hs_12 => ?_)
      refine pf_if ?_ ?_
      · exact pf_some hs_12
      · refine pf_if ?_ ?_
        · refine pf_cd (cf_Play_doDeed_c104 hW hs_12) (fun s_18 _ hs_18 => ?_)
          refine pf_ltS (fs_su (hW.2 _ (by decide)) hs_18) (fun s_22 hs_22 => ?_)
          refine pf_ltE ?_
          exact ih _ _ _ _ hs_22
        · refine pf_cd (cf_Play_doDeed_c104 hW hs_12) (fun s_24 _ hs_24 => ?_)
          refine pf_ltS (fs_su (hW.2 _ (by decide)) hs_24) (fun s_28 hs_28 => ?_)
          refine pf_ltE ?_
          exact ih _ _ _ _ hs_28
theorem cf_Play_run_B_c104 {W : Nat → Prop} (hW : gb_sc W) {n : Nat} {σ0 : gb_S} {σ : gb_S} {p1 : Nat} {p3 : Int32} {p4 : Int32} (h : gb_fs W σ0 σ) : gb_pf W σ0 (cs_Play_run_B_c104 n σ p1 p3 p4) := by
  unfold cs_Play_run_B_c104
  refine pf_kk (fun ck_p1 => ?_)
  refine pf_cd (cf_Play_begin_B hW h) (fun s_2 _ hs_2 => ?_)
  refine pf_cd (cf_Lines_size hW hs_2) (fun s_6 r_7 hs_6 => ?_)
  refine pf_ltV (fun x_10 => ?_)
  exact cf_Play_run_B_c104_18 hW _ _ _ _ _ hs_6
theorem cf_Face_shift_61 {W : Nat → Prop} (hW : gb_sc W) {n : Nat} {σ0 : gb_S} : ∀ (mm : Nat) (σ : gb_S) (v3 : Int32) (v4 : Nat) (v5 : Nat) (v6 : Int32) (v7 : Int32) (v8 : Int32) (v9 : Int32), gb_fs W σ0 σ → gb_pf W σ0 (cs_Face_shift_61 n mm σ v3 v4 v5 v6 v7 v8 v9) := by
  intro mm
  induction mm with
  | zero =>
    intros
    exact pf_none
  | succ mm ih =>
    intro σ v3 v4 v5 v6 v7 v8 v9  h
    unfold cs_Face_shift_61
    refine pf_kk (fun ck_v4 => ?_)
    refine pf_kk (fun ck_v5 => ?_)
    refine pf_if ?_ ?_
    · refine pf_if ?_ ?_
      · exact pf_some h
      · refine pf_if ?_ ?_
        · exact pf_some h
        · exact pf_some h
    · refine pf_cd (cf_Sheet_copyFrom_N_N hW (hW.2 _ (by decide)) h) (fun s_34 _ hs_34 => ?_)
      refine pf_cd (cf_Night_changeWithNext hW hs_34) (fun s_38 _ hs_38 => ?_)
      refine pf_cd (cf_Lines_size hW hs_38) (fun s_42 r_43 hs_42 => ?_)
      refine pf_cd (cf_Play_run_B_c104 hW hs_42) (fun s_46 _ hs_46 => ?_)
      refine pf_if ?_ ?_
      · refine pf_ltE ?_
        exact ih _ _ _ _ _ _ _ _ hs_46
      · refine pf_cd (cf_Play_allPay hW hs_46) (fun s_52 r_53 hs_52 => ?_)
        refine pf_if ?_ ?_
        · refine pf_ltE ?_
          exact ih _ _ _ _ _ _ _ _ hs_52
        · refine pf_cd (cf_Play_allPay hW hs_52) (fun s_58 r_59 hs_58 => ?_)
          refine pf_ltE ?_
          exact ih _ _ _ _ _ _ _ _ hs_58
theorem cf_Face_shift {W : Nat → Prop} (hW : gb_sc W) {n : Nat} {σ0 : gb_S} {σ : gb_S} {p1 : Int32} {p2 : Int32} {p3 : Int32} (h : gb_fs W σ0 σ) : gb_pf W σ0 (cs_Face_shift n σ p1 p2 p3) := by
  unfold cs_Face_shift
  refine pf_cd (cf_Face_borderAt hW h) (fun s_1 r_2 hs_1 => ?_)
  refine pf_if ?_ ?_
  · refine pf_cd (cf_Face_nightAt hW hs_1) (fun s_6 r_7 hs_6 => ?_)
    refine pf_if ?_ ?_
    · exact pf_some hs_6
    · refine pf_kk (fun ck_r_7 => ?_)
      exact pf_some hs_6
  · refine pf_kk (fun ck_r_2 => ?_)
    refine pf_cd (cf_Face_nightAt hW hs_1) (fun s_13 r_14 hs_13 => ?_)
    refine pf_if ?_ ?_
    · exact pf_some hs_13
    · refine pf_kk (fun ck_r_14 => ?_)
      refine pf_cd (cf_Face_playedOut_B_N hW hs_13) (fun s_19 r_20 hs_19 => ?_)
      refine pf_if ?_ ?_
      · exact pf_some hs_19
      · refine pf_ltV (fun x_24 => ?_)
        refine pf_cd (cf_Play_allPay hW hs_19) (fun s_25 r_26 hs_25 => ?_)
        exact cf_Face_shift_61 hW _ _ _ _ _ _ _ _ _ hs_25
theorem cf_Sharing_canShare_B {W : Nat → Prop} (hW : gb_sc W) {n : Nat} {σ0 : gb_S} {σ : gb_S} {p1 : Nat} (h : gb_fs W σ0 σ) : gb_pf W σ0 (cs_Sharing_canShare_B n σ p1) := by
  unfold cs_Sharing_canShare_B
  refine pf_kk (fun ck_p1 => ?_)
  refine pf_cd (cf_Border_paths_B hW h) (fun s_2 r_3 hs_2 => ?_)
  refine pf_if ?_ ?_
  · exact pf_some hs_2
  · refine pf_cd (cf_Border_geese_B hW hs_2) (fun s_7 r_8 hs_7 => ?_)
    refine pf_if ?_ ?_
    · exact pf_some hs_7
    · exact pf_some hs_7
theorem cf_Sharing_payAnew {W : Nat → Prop} (hW : gb_sc W) {n : Nat} {σ0 : gb_S} {σ : gb_S} {p1 : Int32} (h : gb_fs W σ0 σ) : gb_pf W σ0 (cs_Sharing_payAnew n σ p1) := by
  unfold cs_Sharing_payAnew
  refine pf_if ?_ ?_
  · refine pf_kk (fun _ => ?_)
    refine pf_ck ?_
    refine pf_ltV (fun x_4 => ?_)
    refine pf_cd (cf_Border_payOf_B hW h) (fun s_5 r_6 hs_5 => ?_)
    refine pf_ck ?_
    refine pf_ltS (fs_su (hW.2 _ (by decide)) hs_5) (fun s_10 hs_10 => ?_)
    exact pf_some hs_10
  · refine pf_kk (fun _ => ?_)
    refine pf_if ?_ ?_
    · refine pf_kk (fun _ => ?_)
      refine pf_ck ?_
      refine pf_ltV (fun x_15 => ?_)
      refine pf_cd (cf_Border_padded_B hW h) (fun s_16 r_17 hs_16 => ?_)
      exact pf_none
    · refine pf_kk (fun _ => ?_)
      refine pf_kk (fun _ => ?_)
      refine pf_ck ?_
      refine pf_ltV (fun x_23 => ?_)
      refine pf_cd (cf_Border_padded_B hW h) (fun s_24 r_25 hs_24 => ?_)
      refine pf_cd (cf_Law_payFor_L hW hs_24) (fun s_28 r_29 hs_28 => ?_)
      refine pf_ck ?_
      refine pf_ltS (fs_su (hW.2 _ (by decide)) hs_28) (fun s_33 hs_33 => ?_)
      exact pf_some hs_33
theorem cf_Sharing_begin_B_n_177 {W : Nat → Prop} (hW : gb_sc W) {n : Nat} {σ0 : gb_S} : ∀ (mm : Nat) (σ : gb_S) (v4 : Int32), gb_fs W σ0 σ → gb_pf W σ0 (cs_Sharing_begin_B_n_177 n mm σ v4) := by
  intro mm
  induction mm with
  | zero =>
    intros
    exact pf_none
  | succ mm ih =>
    intro σ v4  h
    unfold cs_Sharing_begin_B_n_177
    refine pf_if ?_ ?_
    · exact pf_some h
    · refine pf_ck ?_
      refine pf_ltV (fun x_19 => ?_)
      refine pf_cd (cf_Sharing_payAnew hW h) (fun s_20 _ hs_20 => ?_)
      refine pf_ltE ?_
      exact ih _ _ hs_20
theorem cf_Sharing_begin_B_n_97 {W : Nat → Prop} (hW : gb_sc W) {n : Nat} {σ0 : gb_S} {k74 : gb_S → Int32 → gb_CR Unit} (h_k74 : ∀ (s : gb_S) (x1 : Int32), gb_fs W σ0 s → gb_pf W σ0 (k74 s x1)) : ∀ (mm : Nat) (σ : gb_S) (v4 : Int32) (v5 : Int32), gb_fs W σ0 σ → gb_pf W σ0 (cs_Sharing_begin_B_n_97 n k74 mm σ v4 v5) := by
  intro mm
  induction mm with
  | zero =>
    intros
    exact pf_none
  | succ mm ih =>
    intro σ v4 v5  h
    unfold cs_Sharing_begin_B_n_97
    refine pf_kk (fun _ => ?_)
    refine pf_cd (cf_Border_paths_B hW h) (fun s_28 r_29 hs_28 => ?_)
    refine pf_if ?_ ?_
    · refine pf_ltV (fun x_33 => ?_)
      refine pf_ck ?_
      refine pf_ltV (fun x_35 => ?_)
      refine pf_ltV (fun x_36 => ?_)
      refine pf_ck ?_
      refine pf_ltV (fun x_38 => ?_)
      refine pf_ck ?_
      refine pf_ltS (fs_su (hW.2 _ (by decide)) hs_28) (fun s_40 hs_40 => ?_)
      refine pf_ltE ?_
      exact h_k74 _ _ hs_40
    · refine pf_kk (fun _ => ?_)
      refine pf_cd (cf_Border_marksFirst_B hW hs_28) (fun s_43 r_44 hs_43 => ?_)
      refine pf_ck ?_
      refine pf_ltS (fs_su (hW.2 _ (by decide)) hs_43) (fun s_48 hs_48 => ?_)
      refine pf_ltE ?_
      exact ih _ _ _ hs_48
theorem cf_Sharing_begin_B_n_74 {W : Nat → Prop} (hW : gb_sc W) {n : Nat} {σ0 : gb_S} : ∀ (mm : Nat) (σ : gb_S) (v4 : Int32), gb_fs W σ0 σ → gb_pf W σ0 (cs_Sharing_begin_B_n_74 n mm σ v4) := by
  intro mm
  induction mm with
  | zero =>
    intros
    exact pf_none
  | succ mm ih =>
    intro σ v4  h
    unfold cs_Sharing_begin_B_n_74
    refine pf_kk (fun _ => ?_)
    refine pf_cd (cf_Border_geese_B hW h) (fun s_12 r_13 hs_12 => ?_)
    refine pf_if ?_ ?_
    · exact cf_Sharing_begin_B_n_177 hW _ _ _ hs_12
    · refine pf_ck ?_
      refine pf_ltS (fs_su (hW.2 _ (by decide)) hs_12) (fun s_26 hs_26 => ?_)
      refine cf_Sharing_begin_B_n_97 hW ?_ _ _ _ _ hs_26
      · intro σ v4 hσ
        exact ih _ _ hσ
theorem cf_Sharing_begin_B_n_18 {W : Nat → Prop} (hW : gb_sc W) {n : Nat} {σ0 : gb_S} : ∀ (mm : Nat) (σ : gb_S) (v3 : Int32) (v4 : Int32), gb_fs W σ0 σ → gb_pf W σ0 (cs_Sharing_begin_B_n_18 n mm σ v3 v4) := by
  intro mm
  induction mm with
  | zero =>
    intros
    exact pf_none
  | succ mm ih =>
    intro σ v3 v4  h
    unfold cs_Sharing_begin_B_n_18
    refine pf_kk (fun _ => ?_)
    refine pf_cd (cf_Border_paths_B hW h) (fun s_6 r_7 hs_6 => ?_)
    refine pf_if ?_ ?_
    · exact cf_Sharing_begin_B_n_74 hW _ _ _ hs_6
    · refine pf_ck ?_
      refine pf_ltS (fs_su (hW.2 _ (by decide)) hs_6) (fun s_51 hs_51 => ?_)
      refine pf_if ?_ ?_
      · refine pf_ltE ?_
        exact ih _ _ _ hs_51
      · refine pf_ck ?_
        refine pf_ltS (fs_su (hW.2 _ (by decide)) hs_51) (fun s_55 hs_55 => ?_)
        refine pf_ltS (fs_su (hW.2 _ (by decide)) hs_55) (fun s_56 hs_56 => ?_)
        refine pf_ltE ?_
        exact ih _ _ _ hs_56
theorem cf_Sharing_begin_B_n {W : Nat → Prop} (hW : gb_sc W) {n : Nat} {σ0 : gb_S} {σ : gb_S} {p1 : Nat} {p3 : Int32} (h : gb_fs W σ0 σ) : gb_pf W σ0 (cs_Sharing_begin_B_n n σ p1 p3) := by
  unfold cs_Sharing_begin_B_n
  refine pf_kk (fun ck_p1 => ?_)
  refine pf_ltS (fs_sq h) (fun s_2 hs_2 => ?_)
  refine pf_ltS (fs_sq hs_2) (fun s_3 hs_3 => ?_)
  refine pf_ltS (fs_su (hW.2 _ (by decide)) hs_3) (fun s_4 hs_4 => ?_)
  exact cf_Sharing_begin_B_n_18 hW _ _ _ _ hs_4
theorem cf_Sharing_spread_16 {W : Nat → Prop} (hW : gb_sc W) {n : Nat} {σ0 : gb_S} : ∀ (mm : Nat) (σ : gb_S) (v1 : Int32) (v2 : Int32) (v3 : Int32), gb_fs W σ0 σ → gb_pf W σ0 (cs_Sharing_spread_16 n mm σ v1 v2 v3) := by
  intro mm
  induction mm with
  | zero =>
    intros
    exact pf_none
  | succ mm ih =>
    intro σ v1 v2 v3  h
    unfold cs_Sharing_spread_16
    refine pf_if ?_ ?_
    · exact pf_some h
    · refine pf_ck ?_
      refine pf_ltV (fun x_6 => ?_)
      refine pf_ck ?_
      refine pf_ltV (fun x_8 => ?_)
      refine pf_ltV (fun x_9 => ?_)
      refine pf_ck ?_
      refine pf_ltV (fun x_11 => ?_)
      refine pf_ck ?_
      refine pf_ltV (fun x_13 => ?_)
      refine pf_ltV (fun x_14 => ?_)
      refine pf_ltE ?_
      exact ih _ _ _ _ h
theorem cf_Sharing_spread {W : Nat → Prop} (hW : gb_sc W) {n : Nat} {σ0 : gb_S} {σ : gb_S} (h : gb_fs W σ0 σ) : gb_pf W σ0 (cs_Sharing_spread n σ) := by
  unfold cs_Sharing_spread
  refine pf_ltV (fun x_1 => ?_)
  refine pf_ck ?_
  refine pf_ltV (fun x_3 => ?_)
  exact cf_Sharing_spread_16 hW _ _ _ _ _ h
theorem cf_Sharing_keepRow_2 {W : Nat → Prop} (hW : gb_sc W) {n : Nat} {σ0 : gb_S} : ∀ (mm : Nat) (σ : gb_S) (v1 : Int32), gb_fs W σ0 σ → gb_pf W σ0 (cs_Sharing_keepRow_2 n mm σ v1) := by
  intro mm
  induction mm with
  | zero =>
    intros
    exact pf_none
  | succ mm ih =>
    intro σ v1  h
    unfold cs_Sharing_keepRow_2
    refine pf_kk (fun _ => ?_)
    refine pf_cd (cf_Border_geese_B hW h) (fun s_2 r_3 hs_2 => ?_)
    refine pf_if ?_ ?_
    · refine pf_ac ?_
      refine pf_ltS (fs_su (hW.2 _ (by decide)) hs_2) (fun s_8 hs_8 => ?_)
      exact pf_some hs_8
    · refine pf_ck ?_
      refine pf_ltV (fun x_10 => ?_)
      refine pf_ck ?_
      refine pf_ltV (fun x_12 => ?_)
      refine pf_ck ?_
      refine pf_ltS (fs_su (hW.2 _ (by decide)) hs_2) (fun s_14 hs_14 => ?_)
      refine pf_ltE ?_
      exact ih _ _ hs_14
theorem cf_Sharing_keepRow {W : Nat → Prop} (hW : gb_sc W) {n : Nat} {σ0 : gb_S} {σ : gb_S} (h : gb_fs W σ0 σ) : gb_pf W σ0 (cs_Sharing_keepRow n σ) := by
  unfold cs_Sharing_keepRow
  exact cf_Sharing_keepRow_2 hW _ _ _ h
theorem cf_Sharing_advance_68 {W : Nat → Prop} (hW : gb_sc W) {n : Nat} {σ0 : gb_S} {k10 : gb_S → Int32 → gb_CR Unit} {σ : gb_S} {v1 : Int32} {v2 : Int32} {v3 : Int32} {t0 : Int32} {t1 : Int32} (h_k10 : ∀ (s : gb_S) (x1 : Int32), gb_fs W σ0 s → gb_pf W σ0 (k10 s x1)) (h : gb_fs W σ0 σ) : gb_pf W σ0 (cs_Sharing_advance_68 n k10 σ v1 v2 v3 t0 t1) := by
  unfold cs_Sharing_advance_68
  refine pf_ck ?_
  refine pf_ltS (fs_su (hW.2 _ (by decide)) h) (fun s_19 hs_19 => ?_)
  refine pf_ck ?_
  refine pf_ltV (fun x_21 => ?_)
  refine pf_ck ?_
  refine pf_ltV (fun x_23 => ?_)
  refine pf_ck ?_
  refine pf_ltV (fun x_25 => ?_)
  refine pf_ck ?_
  refine pf_ltV (fun x_27 => ?_)
  refine pf_ck ?_
  refine pf_ltS (fs_su (hW.2 _ (by decide)) hs_19) (fun s_29 hs_29 => ?_)
  refine pf_ck ?_
  refine pf_ltV (fun x_31 => ?_)
  refine pf_ck ?_
  refine pf_ltV (fun x_33 => ?_)
  refine pf_ck ?_
  refine pf_ltS (fs_su (hW.2 _ (by decide)) hs_29) (fun s_35 hs_35 => ?_)
  refine pf_cd (cf_Sharing_payAnew hW hs_35) (fun s_36 _ hs_36 => ?_)
  refine pf_cd (cf_Sharing_payAnew hW hs_36) (fun s_40 _ hs_40 => ?_)
  refine pf_if ?_ ?_
  · exact pf_some hs_40
  · refine pf_ltE ?_
    exact h_k10 _ _ hs_40
theorem cf_Sharing_advance_46 {W : Nat → Prop} (hW : gb_sc W) {n : Nat} {σ0 : gb_S} {k10 : gb_S → Int32 → gb_CR Unit} {σ : gb_S} {v1 : Int32} {v2 : Int32} {t0 : Int32} (h_k10 : ∀ (s : gb_S) (x1 : Int32), gb_fs W σ0 s → gb_pf W σ0 (k10 s x1)) (h : gb_fs W σ0 σ) : gb_pf W σ0 (cs_Sharing_advance_46 n k10 σ v1 v2 t0) := by
  unfold cs_Sharing_advance_46
  refine pf_if ?_ ?_
  · refine pf_ck ?_
    refine pf_ltV (fun x_17 => ?_)
    exact cf_Sharing_advance_68 hW h_k10 h
  · exact cf_Sharing_advance_68 hW h_k10 h
theorem cf_Sharing_advance_10 {W : Nat → Prop} (hW : gb_sc W) {n : Nat} {σ0 : gb_S} : ∀ (mm : Nat) (σ : gb_S) (v1 : Int32), gb_fs W σ0 σ → gb_pf W σ0 (cs_Sharing_advance_10 n mm σ v1) := by
  intro mm
  induction mm with
  | zero =>
    intros
    exact pf_none
  | succ mm ih =>
    intro σ v1  h
    unfold cs_Sharing_advance_10
    refine pf_if ?_ ?_
    · exact pf_some h
    · refine pf_ck ?_
      refine pf_ltV (fun x_9 => ?_)
      refine pf_ck ?_
      refine pf_ltV (fun x_11 => ?_)
      refine pf_ck ?_
      refine pf_ltV (fun x_13 => ?_)
      refine pf_if ?_ ?_
      · refine cf_Sharing_advance_46 hW ?_ h
        · intro σ v1 hσ
          exact ih _ _ hσ
      · refine cf_Sharing_advance_46 hW ?_ h
        · intro σ v1 hσ
          exact ih _ _ hσ
theorem cf_Sharing_advance {W : Nat → Prop} (hW : gb_sc W) {n : Nat} {σ0 : gb_S} {σ : gb_S} (h : gb_fs W σ0 σ) : gb_pf W σ0 (cs_Sharing_advance n σ) := by
  unfold cs_Sharing_advance
  refine pf_kk (fun _ => ?_)
  refine pf_cd (cf_Border_geese_B hW h) (fun s_2 r_3 hs_2 => ?_)
  refine pf_ltE ?_
  exact cf_Sharing_advance_10 hW _ _ _ hs_2
theorem cf_Sharing_together_4 {W : Nat → Prop} (hW : gb_sc W) {n : Nat} {σ0 : gb_S} : ∀ (mm : Nat) (σ : gb_S) (v1 : Int32) (v2 : Int32), gb_fs W σ0 σ → gb_pf W σ0 (cs_Sharing_together_4 n mm σ v1 v2) := by
  intro mm
  induction mm with
  | zero =>
    intros
    exact pf_none
  | succ mm ih =>
    intro σ v1 v2  h
    unfold cs_Sharing_together_4
    refine pf_if ?_ ?_
    · exact pf_some h
    · refine pf_ck ?_
      refine pf_ltV (fun x_3 => ?_)
      refine pf_ck ?_
      refine pf_ltV (fun x_5 => ?_)
      refine pf_ltE ?_
      refine pf_ltE ?_
      exact ih _ _ _ h
theorem cf_Sharing_together {W : Nat → Prop} (hW : gb_sc W) {n : Nat} {σ0 : gb_S} {σ : gb_S} (h : gb_fs W σ0 σ) : gb_pf W σ0 (cs_Sharing_together n σ) := by
  unfold cs_Sharing_together
  exact cf_Sharing_together_4 hW _ _ _ _ h
theorem cf_Sharing_solve_B_n_74 {W : Nat → Prop} (hW : gb_sc W) {n : Nat} {σ0 : gb_S} {k48 : gb_S → Int32 → Int32 → gb_CR Unit} {σ : gb_S} {v4 : Int32} {v5 : Int32} {t0 : Int32} (h_k48 : ∀ (s : gb_S) (x1 : Int32) (x2 : Int32), gb_fs W σ0 s → gb_pf W σ0 (k48 s x1 x2)) (h : gb_fs W σ0 σ) : gb_pf W σ0 (cs_Sharing_solve_B_n_74 n k48 σ v4 v5 t0) := by
  unfold cs_Sharing_solve_B_n_74
  refine pf_if ?_ ?_
  · refine pf_ltS (fs_su (hW.2 _ (by decide)) h) (fun s_20 hs_20 => ?_)
    refine pf_cd (cf_Sharing_keepRow hW hs_20) (fun s_21 _ hs_21 => ?_)
    refine pf_cd (cf_Sharing_advance hW hs_21) (fun s_25 _ hs_25 => ?_)
    refine pf_ltE ?_
    exact h_k48 _ _ _ hs_25
  · refine pf_if ?_ ?_
    · refine pf_cd (cf_Sharing_advance hW h) (fun s_31 _ hs_31 => ?_)
      refine pf_ltE ?_
      exact h_k48 _ _ _ hs_31
    · refine pf_ltS (fs_su (hW.2 _ (by decide)) h) (fun s_36 hs_36 => ?_)
      refine pf_cd (cf_Sharing_keepRow hW hs_36) (fun s_37 _ hs_37 => ?_)
      refine pf_cd (cf_Sharing_advance hW hs_37) (fun s_41 _ hs_41 => ?_)
      refine pf_ltE ?_
      exact h_k48 _ _ _ hs_41
theorem cf_Sharing_solve_B_n_48 {W : Nat → Prop} (hW : gb_sc W) {n : Nat} {σ0 : gb_S} : ∀ (mm : Nat) (σ : gb_S) (v4 : Int32) (v5 : Int32), gb_fs W σ0 σ → gb_pf W σ0 (cs_Sharing_solve_B_n_48 n mm σ v4 v5) := by
  intro mm
  induction mm with
  | zero =>
    intros
    exact pf_none
  | succ mm ih =>
    intro σ v4 v5  h
    unfold cs_Sharing_solve_B_n_48
    refine pf_if ?_ ?_
    · exact pf_some h
    · refine pf_if ?_ ?_
      · refine pf_cd (cf_Sharing_spread hW h) (fun s_15 r_16 hs_15 => ?_)
        refine cf_Sharing_solve_B_n_74 hW ?_ hs_15
        · intro σ v4 v5 hσ
          exact ih _ _ _ hσ
      · refine pf_kk (fun _ => ?_)
        refine pf_cd (cf_Sharing_together hW h) (fun s_47 r_48 hs_47 => ?_)
        refine cf_Sharing_solve_B_n_74 hW ?_ hs_47
        · intro σ v4 v5 hσ
          exact ih _ _ _ hσ
theorem cf_Sharing_solve_B_n_18 {W : Nat → Prop} (hW : gb_sc W) {n : Nat} {σ0 : gb_S} : ∀ (mm : Nat) (σ : gb_S) (v4 : Int32) (v5 : Int32), gb_fs W σ0 σ → gb_pf W σ0 (cs_Sharing_solve_B_n_18 n mm σ v4 v5) := by
  intro mm
  induction mm with
  | zero =>
    intros
    exact pf_none
  | succ mm ih =>
    intro σ v4 v5  h
    unfold cs_Sharing_solve_B_n_18
    refine pf_kk (fun _ => ?_)
    refine pf_cd (cf_Border_geese_B hW h) (fun s_8 r_9 hs_8 => ?_)
    refine pf_if ?_ ?_
    · exact cf_Sharing_solve_B_n_48 hW _ _ _ _ hs_8
    · refine pf_ltE ?_
      refine pf_ltE ?_
      exact ih _ _ _ hs_8
theorem cf_Sharing_solve_B_n {W : Nat → Prop} (hW : gb_sc W) {n : Nat} {σ0 : gb_S} {σ : gb_S} {p1 : Nat} {p3 : Int32} (h : gb_fs W σ0 σ) : gb_pf W σ0 (cs_Sharing_solve_B_n n σ p1 p3) := by
  unfold cs_Sharing_solve_B_n
  refine pf_kk (fun ck_p1 => ?_)
  refine pf_cd (cf_Sharing_begin_B_n hW h) (fun s_2 _ hs_2 => ?_)
  refine pf_ltS (fs_su (hW.2 _ (by decide)) hs_2) (fun s_6 hs_6 => ?_)
  exact cf_Sharing_solve_B_n_18 hW _ _ _ _ hs_6
theorem cf_Sharing_difference {W : Nat → Prop} (hW : gb_sc W) {n : Nat} {σ0 : gb_S} {σ : gb_S} (h : gb_fs W σ0 σ) : gb_pf W σ0 (cs_Sharing_difference n σ) := by
  unfold cs_Sharing_difference
  exact pf_some h
theorem cf_Face_even_82 {W : Nat → Prop} (hW : gb_sc W) {n : Nat} {σ0 : gb_S} {σ : gb_S} {v2 : Int32} {v3 : Nat} (h : gb_fs W σ0 σ) : gb_pf W σ0 (cs_Face_even_82 n σ v2 v3) := by
  unfold cs_Face_even_82
  refine pf_kk (fun ck_v3 => ?_)
  refine pf_cd (cf_Sharing_solve_B_n hW h) (fun s_16 _ hs_16 => ?_)
  refine pf_if ?_ ?_
  · refine pf_cd (cf_Sharing_difference hW hs_16) (fun s_23 r_24 hs_23 => ?_)
    exact pf_some hs_23
  · refine pf_ck ?_
    refine pf_ltV (fun x_22 => ?_)
    exact pf_some hs_16
theorem cf_Face_even_59 {W : Nat → Prop} (hW : gb_sc W) {n : Nat} {σ0 : gb_S} {σ : gb_S} {v2 : Int32} {v3 : Nat} (h : gb_fs W σ0 σ) : gb_pf W σ0 (cs_Face_even_59 n σ v2 v3) := by
  unfold cs_Face_even_59
  refine pf_kk (fun ck_v3 => ?_)
  refine pf_if ?_ ?_
  · exact cf_Face_even_82 hW h
  · refine pf_if ?_ ?_
    · exact pf_some h
    · refine pf_cd (cf_Border_geese_B hW h) (fun s_28 r_29 hs_28 => ?_)
      refine pf_if ?_ ?_
      · exact cf_Face_even_82 hW hs_28
      · exact pf_some hs_28
theorem cf_Face_even {W : Nat → Prop} (hW : gb_sc W) {n : Nat} {σ0 : gb_S} {σ : gb_S} {p1 : Int32} {p2 : Int32} (h : gb_fs W σ0 σ) : gb_pf W σ0 (cs_Face_even n σ p1 p2) := by
  unfold cs_Face_even
  refine pf_cd (cf_Face_borderAt hW h) (fun s_1 r_2 hs_1 => ?_)
  refine pf_if ?_ ?_
  · exact pf_some hs_1
  · refine pf_kk (fun ck_r_2 => ?_)
    refine pf_cd (cf_Sharing_canShare_B hW hs_1) (fun s_7 r_8 hs_7 => ?_)
    refine pf_if ?_ ?_
    · exact pf_some hs_7
    · refine pf_if ?_ ?_
      · exact cf_Face_even_59 hW hs_7
      · refine pf_cd (cf_Border_paths_B hW hs_7) (fun s_33 r_34 hs_33 => ?_)
        refine pf_if ?_ ?_
        · exact cf_Face_even_59 hW hs_33
        · refine pf_cd (cf_Sharing_solve_B_n hW hs_33) (fun s_38 _ hs_38 => ?_)
          refine pf_ck ?_
          refine pf_ltV (fun x_43 => ?_)
          exact pf_some hs_38
theorem cf_Sharing_begin_B_L_177 {W : Nat → Prop} (hW : gb_sc W) {n : Nat} {σ0 : gb_S} : ∀ (mm : Nat) (σ : gb_S) (v4 : Int32), gb_fs W σ0 σ → gb_pf W σ0 (cs_Sharing_begin_B_L_177 n mm σ v4) := by
  intro mm
  induction mm with
  | zero =>
    intros
    exact pf_none
  | succ mm ih =>
    intro σ v4  h
    unfold cs_Sharing_begin_B_L_177
    refine pf_if ?_ ?_
    · exact pf_some h
    · refine pf_ck ?_
      refine pf_ltV (fun x_20 => ?_)
      refine pf_cd (cf_Sharing_payAnew hW h) (fun s_21 _ hs_21 => ?_)
      refine pf_ltE ?_
      exact ih _ _ hs_21
theorem cf_Sharing_begin_B_L_97 {W : Nat → Prop} (hW : gb_sc W) {n : Nat} {σ0 : gb_S} {k74 : gb_S → Int32 → gb_CR Unit} (h_k74 : ∀ (s : gb_S) (x1 : Int32), gb_fs W σ0 s → gb_pf W σ0 (k74 s x1)) : ∀ (mm : Nat) (σ : gb_S) (v4 : Int32) (v5 : Int32), gb_fs W σ0 σ → gb_pf W σ0 (cs_Sharing_begin_B_L_97 n k74 mm σ v4 v5) := by
  intro mm
  induction mm with
  | zero =>
    intros
    exact pf_none
  | succ mm ih =>
    intro σ v4 v5  h
    unfold cs_Sharing_begin_B_L_97
    refine pf_kk (fun _ => ?_)
    refine pf_cd (cf_Border_paths_B hW h) (fun s_29 r_30 hs_29 => ?_)
    refine pf_if ?_ ?_
    · refine pf_ltV (fun x_34 => ?_)
      refine pf_ck ?_
      refine pf_ltV (fun x_36 => ?_)
      refine pf_ltV (fun x_37 => ?_)
      refine pf_ck ?_
      refine pf_ltV (fun x_39 => ?_)
      refine pf_ck ?_
      refine pf_ltS (fs_su (hW.2 _ (by decide)) hs_29) (fun s_41 hs_41 => ?_)
      refine pf_ltE ?_
      exact h_k74 _ _ hs_41
    · refine pf_kk (fun _ => ?_)
      refine pf_cd (cf_Border_marksFirst_B hW hs_29) (fun s_44 r_45 hs_44 => ?_)
      refine pf_ck ?_
      refine pf_ltS (fs_su (hW.2 _ (by decide)) hs_44) (fun s_49 hs_49 => ?_)
      refine pf_ltE ?_
      exact ih _ _ _ hs_49
theorem cf_Sharing_begin_B_L_74 {W : Nat → Prop} (hW : gb_sc W) {n : Nat} {σ0 : gb_S} : ∀ (mm : Nat) (σ : gb_S) (v4 : Int32), gb_fs W σ0 σ → gb_pf W σ0 (cs_Sharing_begin_B_L_74 n mm σ v4) := by
  intro mm
  induction mm with
  | zero =>
    intros
    exact pf_none
  | succ mm ih =>
    intro σ v4  h
    unfold cs_Sharing_begin_B_L_74
    refine pf_kk (fun _ => ?_)
    refine pf_cd (cf_Border_geese_B hW h) (fun s_13 r_14 hs_13 => ?_)
    refine pf_if ?_ ?_
    · exact cf_Sharing_begin_B_L_177 hW _ _ _ hs_13
    · refine pf_ck ?_
      refine pf_ltS (fs_su (hW.2 _ (by decide)) hs_13) (fun s_27 hs_27 => ?_)
      refine cf_Sharing_begin_B_L_97 hW ?_ _ _ _ _ hs_27
      · intro σ v4 hσ
        exact ih _ _ hσ
theorem cf_Sharing_begin_B_L_18 {W : Nat → Prop} (hW : gb_sc W) {n : Nat} {σ0 : gb_S} : ∀ (mm : Nat) (σ : gb_S) (v3 : Int32) (v4 : Int32), gb_fs W σ0 σ → gb_pf W σ0 (cs_Sharing_begin_B_L_18 n mm σ v3 v4) := by
  intro mm
  induction mm with
  | zero =>
    intros
    exact pf_none
  | succ mm ih =>
    intro σ v3 v4  h
    unfold cs_Sharing_begin_B_L_18
    refine pf_kk (fun _ => ?_)
    refine pf_cd (cf_Border_paths_B hW h) (fun s_7 r_8 hs_7 => ?_)
    refine pf_if ?_ ?_
    · exact cf_Sharing_begin_B_L_74 hW _ _ _ hs_7
    · refine pf_ck ?_
      refine pf_ltS (fs_su (hW.2 _ (by decide)) hs_7) (fun s_52 hs_52 => ?_)
      refine pf_if ?_ ?_
      · refine pf_ltE ?_
        exact ih _ _ _ hs_52
      · refine pf_ck ?_
        refine pf_ltS (fs_su (hW.2 _ (by decide)) hs_52) (fun s_56 hs_56 => ?_)
        refine pf_ltS (fs_su (hW.2 _ (by decide)) hs_56) (fun s_57 hs_57 => ?_)
        refine pf_ltE ?_
        exact ih _ _ _ hs_57
theorem cf_Sharing_begin_B_L {W : Nat → Prop} (hW : gb_sc W) {n : Nat} {σ0 : gb_S} {σ : gb_S} {p1 : Nat} {p2 : Nat} {p3 : Int32} (h : gb_fs W σ0 σ) : gb_pf W σ0 (cs_Sharing_begin_B_L n σ p1 p2 p3) := by
  unfold cs_Sharing_begin_B_L
  refine pf_kk (fun ck_p1 => ?_)
  refine pf_kk (fun ck_p2 => ?_)
  refine pf_ltS (fs_sq h) (fun s_3 hs_3 => ?_)
  refine pf_ltS (fs_sq hs_3) (fun s_4 hs_4 => ?_)
  refine pf_ltS (fs_su (hW.2 _ (by decide)) hs_4) (fun s_5 hs_5 => ?_)
  exact cf_Sharing_begin_B_L_18 hW _ _ _ _ hs_5
theorem cf_Sharing_solve_B_L_74 {W : Nat → Prop} (hW : gb_sc W) {n : Nat} {σ0 : gb_S} {k48 : gb_S → Int32 → Int32 → gb_CR Unit} {σ : gb_S} {v4 : Int32} {v5 : Int32} {t0 : Int32} (h_k48 : ∀ (s : gb_S) (x1 : Int32) (x2 : Int32), gb_fs W σ0 s → gb_pf W σ0 (k48 s x1 x2)) (h : gb_fs W σ0 σ) : gb_pf W σ0 (cs_Sharing_solve_B_L_74 n k48 σ v4 v5 t0) := by
  unfold cs_Sharing_solve_B_L_74
  refine pf_if ?_ ?_
  · refine pf_ltS (fs_su (hW.2 _ (by decide)) h) (fun s_21 hs_21 => ?_)
    refine pf_cd (cf_Sharing_keepRow hW hs_21) (fun s_22 _ hs_22 => ?_)
    refine pf_cd (cf_Sharing_advance hW hs_22) (fun s_26 _ hs_26 => ?_)
    refine pf_ltE ?_
    exact h_k48 _ _ _ hs_26
  · refine pf_if ?_ ?_
    · refine pf_cd (cf_Sharing_advance hW h) (fun s_32 _ hs_32 => ?_)
      refine pf_ltE ?_
      exact h_k48 _ _ _ hs_32
    · refine pf_ltS (fs_su (hW.2 _ (by decide)) h) (fun s_37 hs_37 => ?_)
      refine pf_cd (cf_Sharing_keepRow hW hs_37) (fun s_38 _ hs_38 => ?_)
      refine pf_cd (cf_Sharing_advance hW hs_38) (fun s_42 _ hs_42 => ?_)
      refine pf_ltE ?_
      exact h_k48 _ _ _ hs_42
theorem cf_Sharing_solve_B_L_48 {W : Nat → Prop} (hW : gb_sc W) {n : Nat} {σ0 : gb_S} : ∀ (mm : Nat) (σ : gb_S) (v4 : Int32) (v5 : Int32), gb_fs W σ0 σ → gb_pf W σ0 (cs_Sharing_solve_B_L_48 n mm σ v4 v5) := by
  intro mm
  induction mm with
  | zero =>
    intros
    exact pf_none
  | succ mm ih =>
    intro σ v4 v5  h
    unfold cs_Sharing_solve_B_L_48
    refine pf_if ?_ ?_
    · exact pf_some h
    · refine pf_if ?_ ?_
      · refine pf_cd (cf_Sharing_spread hW h) (fun s_16 r_17 hs_16 => ?_)
        refine cf_Sharing_solve_B_L_74 hW ?_ hs_16
        · intro σ v4 v5 hσ
          exact ih _ _ _ hσ
      · refine pf_kk (fun _ => ?_)
        refine pf_cd (cf_Sharing_together hW h) (fun s_48 r_49 hs_48 => ?_)
        refine cf_Sharing_solve_B_L_74 hW ?_ hs_48
        · intro σ v4 v5 hσ
          exact ih _ _ _ hσ
theorem cf_Sharing_solve_B_L_18 {W : Nat → Prop} (hW : gb_sc W) {n : Nat} {σ0 : gb_S} : ∀ (mm : Nat) (σ : gb_S) (v4 : Int32) (v5 : Int32), gb_fs W σ0 σ → gb_pf W σ0 (cs_Sharing_solve_B_L_18 n mm σ v4 v5) := by
  intro mm
  induction mm with
  | zero =>
    intros
    exact pf_none
  | succ mm ih =>
    intro σ v4 v5  h
    unfold cs_Sharing_solve_B_L_18
    refine pf_kk (fun _ => ?_)
    refine pf_cd (cf_Border_geese_B hW h) (fun s_9 r_10 hs_9 => ?_)
    refine pf_if ?_ ?_
    · exact cf_Sharing_solve_B_L_48 hW _ _ _ _ hs_9
    · refine pf_ltE ?_
      refine pf_ltE ?_
      exact ih _ _ _ hs_9
theorem cf_Sharing_solve_B_L {W : Nat → Prop} (hW : gb_sc W) {n : Nat} {σ0 : gb_S} {σ : gb_S} {p1 : Nat} {p2 : Nat} {p3 : Int32} (h : gb_fs W σ0 σ) : gb_pf W σ0 (cs_Sharing_solve_B_L n σ p1 p2 p3) := by
  unfold cs_Sharing_solve_B_L
  refine pf_kk (fun ck_p1 => ?_)
  refine pf_kk (fun ck_p2 => ?_)
  refine pf_cd (cf_Sharing_begin_B_L hW h) (fun s_3 _ hs_3 => ?_)
  refine pf_ltS (fs_su (hW.2 _ (by decide)) hs_3) (fun s_7 hs_7 => ?_)
  exact cf_Sharing_solve_B_L_18 hW _ _ _ _ hs_7
theorem cf_Face_richest_58 {W : Nat → Prop} (hW : gb_sc W) {n : Nat} {σ0 : gb_S} {σ : gb_S} {v3 : Int32} {v4 : Nat} {v5 : Nat} (h : gb_fs W σ0 σ) : gb_pf W σ0 (cs_Face_richest_58 n σ v3 v4 v5) := by
  unfold cs_Face_richest_58
  refine pf_kk (fun ck_v4 => ?_)
  refine pf_kk (fun ck_v5 => ?_)
  refine pf_cd (cf_Sharing_solve_B_L hW h) (fun s_27 _ hs_27 => ?_)
  refine pf_if ?_ ?_
  · exact pf_some hs_27
  · refine pf_ck ?_
    refine pf_ltV (fun x_33 => ?_)
    exact pf_some hs_27
theorem cf_Face_richest {W : Nat → Prop} (hW : gb_sc W) {n : Nat} {σ0 : gb_S} {σ : gb_S} {p1 : Int32} {p2 : Int32} {p3 : Int32} (h : gb_fs W σ0 σ) : gb_pf W σ0 (cs_Face_richest n σ p1 p2 p3) := by
  unfold cs_Face_richest
  refine pf_cd (cf_Face_borderAt hW h) (fun s_1 r_2 hs_1 => ?_)
  refine pf_if ?_ ?_
  · refine pf_cd (cf_Face_lawAt hW hs_1) (fun s_6 r_7 hs_6 => ?_)
    refine pf_if ?_ ?_
    · exact pf_some hs_6
    · refine pf_kk (fun ck_r_7 => ?_)
      exact pf_some hs_6
  · refine pf_kk (fun ck_r_2 => ?_)
    refine pf_cd (cf_Face_lawAt hW hs_1) (fun s_13 r_14 hs_13 => ?_)
    refine pf_if ?_ ?_
    · exact pf_some hs_13
    · refine pf_kk (fun ck_r_14 => ?_)
      refine pf_cd (cf_Sharing_canShare_B hW hs_13) (fun s_19 r_20 hs_19 => ?_)
      refine pf_if ?_ ?_
      · exact pf_some hs_19
      · refine pf_if ?_ ?_
        · exact cf_Face_richest_58 hW hs_19
        · refine pf_if ?_ ?_
          · exact pf_some hs_19
          · refine pf_cd (cf_Border_geese_B hW hs_19) (fun s_35 r_36 hs_35 => ?_)
            refine pf_if ?_ ?_
            · exact cf_Face_richest_58 hW hs_35
            · exact pf_some hs_35
theorem cf_Face_close_36 {W : Nat → Prop} (hW : gb_sc W) {n : Nat} {σ0 : gb_S} : ∀ (mm : Nat) (σ : gb_S) (v2 : Int32) (v3 : Nat) (v4 : Int32) (v5 : Int32) (v6 : Int32), gb_fs W σ0 σ → gb_pf W σ0 (cs_Face_close_36 n mm σ v2 v3 v4 v5 v6) := by
  intro mm
  induction mm with
  | zero =>
    intros
    exact pf_none
  | succ mm ih =>
    intro σ v2 v3 v4 v5 v6  h
    unfold cs_Face_close_36
    refine pf_kk (fun ck_v3 => ?_)
    refine pf_cd (cf_Border_paths_B hW h) (fun s_18 r_19 hs_18 => ?_)
    refine pf_if ?_ ?_
    · refine pf_if ?_ ?_
      · exact pf_some hs_18
      · exact pf_some hs_18
    · refine pf_cd (cf_Sharing_solve_B_n hW hs_18) (fun s_24 _ hs_24 => ?_)
      refine pf_if ?_ ?_
      · refine pf_cd (cf_Sharing_difference hW hs_24) (fun s_29 r_30 hs_29 => ?_)
        refine pf_ltE ?_
        exact ih _ _ _ _ _ _ hs_29
      · refine pf_cd (cf_Sharing_difference hW hs_24) (fun s_34 r_35 hs_34 => ?_)
        refine pf_if ?_ ?_
        · refine pf_ltE ?_
          exact ih _ _ _ _ _ _ hs_34
        · refine pf_cd (cf_Sharing_difference hW hs_34) (fun s_40 r_41 hs_40 => ?_)
          refine pf_ltE ?_
          exact ih _ _ _ _ _ _ hs_40
theorem cf_Face_close {W : Nat → Prop} (hW : gb_sc W) {n : Nat} {σ0 : gb_S} {σ : gb_S} {p1 : Int32} {p2 : Int32} (h : gb_fs W σ0 σ) : gb_pf W σ0 (cs_Face_close n σ p1 p2) := by
  unfold cs_Face_close
  refine pf_cd (cf_Face_borderAt hW h) (fun s_1 r_2 hs_1 => ?_)
  refine pf_if ?_ ?_
  · exact pf_some hs_1
  · refine pf_kk (fun ck_r_2 => ?_)
    refine pf_cd (cf_Sharing_canShare_B hW hs_1) (fun s_7 r_8 hs_7 => ?_)
    refine pf_if ?_ ?_
    · exact pf_some hs_7
    · refine pf_cd (cf_Border_paths_B hW hs_7) (fun s_12 r_13 hs_12 => ?_)
      refine pf_if ?_ ?_
      · exact cf_Face_close_36 hW _ _ _ _ _ _ _ hs_12
      · exact pf_some hs_12
theorem cf_Face_tar_51 {W : Nat → Prop} (hW : gb_sc W) {n : Nat} {σ0 : gb_S} : ∀ (mm : Nat) (σ : gb_S) (v2 : Int32) (v4 : Nat) (v5 : Int32) (v6 : Int32) (v7 : Int32), gb_fs W σ0 σ → gb_pf W σ0 (cs_Face_tar_51 n mm σ v2 v4 v5 v6 v7) := by
  intro mm
  induction mm with
  | zero =>
    intros
    exact pf_none
  | succ mm ih =>
    intro σ v2 v4 v5 v6 v7  h
    unfold cs_Face_tar_51
    refine pf_kk (fun ck_v4 => ?_)
    refine pf_if ?_ ?_
    · refine pf_if ?_ ?_
      · exact pf_some h
      · exact pf_some h
    · refine pf_if ?_ ?_
      · refine pf_if ?_ ?_
        · exact pf_some h
        · exact pf_some h
      · refine pf_cd (cf_Border_milesThatSpare_B hW h) (fun s_24 r_25 hs_24 => ?_)
        refine pf_nz ?_
        refine pf_ltE ?_
        refine pf_ltV (fun x_30 => ?_)
        refine pf_ltE ?_
        refine pf_ltE ?_
        refine pf_ltE ?_
        exact ih _ _ _ _ _ _ hs_24
theorem cf_Face_tar {W : Nat → Prop} (hW : gb_sc W) {n : Nat} {σ0 : gb_S} {σ : gb_S} {p1 : Int32} {p2 : Int32} {p3 : Int32} (h : gb_fs W σ0 σ) : gb_pf W σ0 (cs_Face_tar n σ p1 p2 p3) := by
  unfold cs_Face_tar
  refine pf_cd (cf_Face_borderAt hW h) (fun s_1 r_2 hs_1 => ?_)
  refine pf_if ?_ ?_
  · exact pf_some hs_1
  · refine pf_kk (fun ck_r_2 => ?_)
    refine pf_cd (cf_Border_hasPath_B hW hs_1) (fun s_7 r_8 hs_7 => ?_)
    refine pf_if ?_ ?_
    · exact pf_some hs_7
    · refine pf_if ?_ ?_
      · exact pf_some hs_7
      · refine pf_if ?_ ?_
        · refine pf_cd (cf_Border_barefoot_B hW hs_7) (fun s_14 r_15 hs_14 => ?_)
          refine pf_ltE ?_
          exact cf_Face_tar_51 hW _ _ _ _ _ _ _ hs_14
        · exact pf_some hs_7
theorem cf_Face_bestPath_B_7 {W : Nat → Prop} (hW : gb_sc W) {n : Nat} {σ0 : gb_S} : ∀ (mm : Nat) (σ : gb_S) (v0 : Nat) (v1 : Int32) (v2 : Int32) (v3 : Int32) (v4 : Int32), gb_fs W σ0 σ → gb_pf W σ0 (cs_Face_bestPath_B_7 n mm σ v0 v1 v2 v3 v4) := by
  intro mm
  induction mm with
  | zero =>
    intros
    exact pf_none
  | succ mm ih =>
    intro σ v0 v1 v2 v3 v4  h
    unfold cs_Face_bestPath_B_7
    refine pf_kk (fun ck_v0 => ?_)
    refine pf_cd (cf_Border_paths_B hW h) (fun s_3 r_4 hs_3 => ?_)
    refine pf_if ?_ ?_
    · exact pf_some hs_3
    · refine pf_cd (cf_Border_marksFirst_B hW hs_3) (fun s_8 r_9 hs_8 => ?_)
      refine pf_cd (cf_Border_payOf_B hW hs_8) (fun s_12 r_13 hs_12 => ?_)
      refine pf_if ?_ ?_
      · refine pf_ltE ?_
        exact ih _ _ _ _ _ _ hs_12
      · refine pf_ltE ?_
        exact ih _ _ _ _ _ _ hs_12
theorem cf_Face_bestPath_B {W : Nat → Prop} (hW : gb_sc W) {n : Nat} {σ0 : gb_S} {σ : gb_S} {p1 : Nat} {p2 : Int32} (h : gb_fs W σ0 σ) : gb_pf W σ0 (cs_Face_bestPath_B n σ p1 p2) := by
  unfold cs_Face_bestPath_B
  refine pf_kk (fun ck_p1 => ?_)
  exact cf_Face_bestPath_B_7 hW _ _ _ _ _ _ _ h
theorem cf_Face_lame_64 {W : Nat → Prop} (hW : gb_sc W) {n : Nat} {σ0 : gb_S} : ∀ (mm : Nat) (σ : gb_S) (v2 : Int32) (v4 : Nat) (v5 : Int32) (v6 : Int32) (v7 : Int32), gb_fs W σ0 σ → gb_pf W σ0 (cs_Face_lame_64 n mm σ v2 v4 v5 v6 v7) := by
  intro mm
  induction mm with
  | zero =>
    intros
    exact pf_none
  | succ mm ih =>
    intro σ v2 v4 v5 v6 v7  h
    unfold cs_Face_lame_64
    refine pf_kk (fun ck_v4 => ?_)
    refine pf_cd (cf_Border_geese_B hW h) (fun s_14 r_15 hs_14 => ?_)
    refine pf_if ?_ ?_
    · refine pf_cd (cf_Border_payOf_B hW hs_14) (fun s_19 r_20 hs_19 => ?_)
      refine pf_cd (cf_Border_payOf_B hW hs_19) (fun s_23 r_24 hs_23 => ?_)
      exact pf_some hs_23
    · refine pf_cd (cf_Border_marksFirst_B hW hs_14) (fun s_27 r_28 hs_27 => ?_)
      refine pf_ltE ?_
      refine pf_cd (cf_Border_limps_B hW hs_27) (fun s_32 r_33 hs_32 => ?_)
      refine pf_if ?_ ?_
      · refine pf_ltE ?_
        refine pf_ltE ?_
        exact ih _ _ _ _ _ _ hs_32
      · refine pf_ltE ?_
        refine pf_ltE ?_
        refine pf_ltE ?_
        exact ih _ _ _ _ _ _ hs_32
theorem cf_Face_lame {W : Nat → Prop} (hW : gb_sc W) {n : Nat} {σ0 : gb_S} {σ : gb_S} {p1 : Int32} {p2 : Int32} {p3 : Int32} (h : gb_fs W σ0 σ) : gb_pf W σ0 (cs_Face_lame n σ p1 p2 p3) := by
  unfold cs_Face_lame
  refine pf_cd (cf_Face_borderAt hW h) (fun s_1 r_2 hs_1 => ?_)
  refine pf_if ?_ ?_
  · exact pf_some hs_1
  · refine pf_kk (fun ck_r_2 => ?_)
    refine pf_if ?_ ?_
    · refine pf_cd (cf_Border_hasPath_B hW hs_1) (fun s_8 r_9 hs_8 => ?_)
      refine pf_if ?_ ?_
      · exact pf_some hs_8
      · exact cf_Face_lame_64 hW _ _ _ _ _ _ _ hs_8
    · refine pf_if ?_ ?_
      · refine pf_cd (cf_Border_hasPath_B hW hs_1) (fun s_43 r_44 hs_43 => ?_)
        refine pf_if ?_ ?_
        · exact pf_some hs_43
        · exact cf_Face_lame_64 hW _ _ _ _ _ _ _ hs_43
      · refine pf_cd (cf_Border_hasGoose_B hW hs_1) (fun s_48 r_49 hs_48 => ?_)
        refine pf_if ?_ ?_
        · exact pf_some hs_48
        · refine pf_cd (cf_Face_bestPath_B hW hs_48) (fun s_53 r_54 hs_53 => ?_)
          exact pf_some hs_53
theorem cf_Face_two_108 {W : Nat → Prop} (hW : gb_sc W) {n : Nat} {σ0 : gb_S} {k58 : gb_S → Int32 → Int32 → Nat → Nat → Int32 → Int32 → Int32 → Int32 → gb_CR Int32} (h_k58 : ∀ (s : gb_S) (x1 : Int32) (x2 : Int32) (x3 : Nat) (x4 : Nat) (x5 : Int32) (x6 : Int32) (x7 : Int32) (x8 : Int32), gb_fs W σ0 s → gb_pf W σ0 (k58 s x1 x2 x3 x4 x5 x6 x7 x8)) : ∀ (mm : Nat) (σ : gb_S) (v2 : Int32) (v4 : Int32) (v5 : Nat) (v6 : Nat) (v7 : Int32) (v8 : Int32) (v9 : Int32) (v10 : Int32) (v11 : Int32) (v12 : Int32) (v13 : Int32), gb_fs W σ0 σ → gb_pf W σ0 (cs_Face_two_108 n k58 mm σ v2 v4 v5 v6 v7 v8 v9 v10 v11 v12 v13) := by
  intro mm
  induction mm with
  | zero =>
    intros
    exact pf_none
  | succ mm ih =>
    intro σ v2 v4 v5 v6 v7 v8 v9 v10 v11 v12 v13  h
    unfold cs_Face_two_108
    refine pf_kk (fun ck_v5 => ?_)
    refine pf_kk (fun ck_v6 => ?_)
    refine pf_cd (cf_Border_paths_B hW h) (fun s_54 r_55 hs_54 => ?_)
    refine pf_if ?_ ?_
    · refine pf_ltE ?_
      exact h_k58 _ _ _ _ _ _ _ _ _ hs_54
    · refine pf_cd (cf_Border_miles_B hW hs_54) (fun s_60 r_61 hs_60 => ?_)
      refine pf_cd (cf_Border_marksOver_B hW hs_60) (fun s_64 r_65 hs_64 => ?_)
      refine pf_cd (cf_Border_payOf_B hW hs_64) (fun s_68 r_69 hs_68 => ?_)
      refine pf_ltE ?_
      refine pf_if ?_ ?_
      · refine pf_ltE ?_
        exact ih _ _ _ _ _ _ _ _ _ _ _ _ hs_68
      · refine pf_ltE ?_
        exact ih _ _ _ _ _ _ _ _ _ _ _ _ hs_68
theorem cf_Face_two_58 {W : Nat → Prop} (hW : gb_sc W) {n : Nat} {σ0 : gb_S} : ∀ (mm : Nat) (σ : gb_S) (v2 : Int32) (v4 : Int32) (v5 : Nat) (v6 : Nat) (v7 : Int32) (v8 : Int32) (v9 : Int32) (v10 : Int32), gb_fs W σ0 σ → gb_pf W σ0 (cs_Face_two_58 n mm σ v2 v4 v5 v6 v7 v8 v9 v10) := by
  intro mm
  induction mm with
  | zero =>
    intros
    exact pf_none
  | succ mm ih =>
    intro σ v2 v4 v5 v6 v7 v8 v9 v10  h
    unfold cs_Face_two_58
    refine pf_kk (fun ck_v5 => ?_)
    refine pf_kk (fun ck_v6 => ?_)
    refine pf_cd (cf_Border_paths_B hW h) (fun s_28 r_29 hs_28 => ?_)
    refine pf_if ?_ ?_
    · refine pf_if ?_ ?_
      · exact pf_some hs_28
      · refine pf_if ?_ ?_
        · exact pf_some hs_28
        · exact pf_some hs_28
    · refine pf_cd (cf_Border_boots_B hW hs_28) (fun s_35 r_36 hs_35 => ?_)
      refine pf_cd (cf_Border_miles_B hW hs_35) (fun s_39 r_40 hs_39 => ?_)
      refine pf_ltV (fun x_43 => ?_)
      refine pf_cd (cf_Border_marksFirst_B hW hs_39) (fun s_44 r_45 hs_44 => ?_)
      refine pf_cd (cf_Border_payOf_B hW hs_44) (fun s_48 r_49 hs_48 => ?_)
      refine cf_Face_two_108 hW ?_ _ _ _ _ _ _ _ _ _ _ _ _ _ hs_48
      · intro σ v2 v4 v5 v6 v7 v8 v9 v10 hσ
        exact ih _ _ _ _ _ _ _ _ _ hσ
theorem cf_Face_two {W : Nat → Prop} (hW : gb_sc W) {n : Nat} {σ0 : gb_S} {σ : gb_S} {p1 : Int32} {p2 : Int32} {p3 : Int32} {p4 : Int32} (h : gb_fs W σ0 σ) : gb_pf W σ0 (cs_Face_two n σ p1 p2 p3 p4) := by
  unfold cs_Face_two
  refine pf_cd (cf_Face_borderAt hW h) (fun s_1 r_2 hs_1 => ?_)
  refine pf_if ?_ ?_
  · refine pf_cd (cf_Face_borderAt hW hs_1) (fun s_6 r_7 hs_6 => ?_)
    refine pf_if ?_ ?_
    · exact pf_some hs_6
    · refine pf_kk (fun ck_r_7 => ?_)
      exact pf_some hs_6
  · refine pf_kk (fun ck_r_2 => ?_)
    refine pf_cd (cf_Face_borderAt hW hs_1) (fun s_13 r_14 hs_13 => ?_)
    refine pf_if ?_ ?_
    · exact pf_some hs_13
    · refine pf_kk (fun ck_r_14 => ?_)
      refine pf_cd (cf_Border_hasGoose_B hW hs_13) (fun s_19 r_20 hs_19 => ?_)
      refine pf_if ?_ ?_
      · exact pf_some hs_19
      · refine pf_if ?_ ?_
        · exact pf_some hs_19
        · refine pf_if ?_ ?_
          · exact cf_Face_two_58 hW _ _ _ _ _ _ _ _ _ _ hs_19
          · exact pf_some hs_19
theorem cf_Face_alike_43 {W : Nat → Prop} (hW : gb_sc W) {n : Nat} {σ0 : gb_S} : ∀ (mm : Nat) (σ : gb_S) (v2 : Int32) (v3 : Int32) (v4 : Nat) (v5 : Int32) (v6 : Int32), gb_fs W σ0 σ → gb_pf W σ0 (cs_Face_alike_43 n mm σ v2 v3 v4 v5 v6) := by
  intro mm
  induction mm with
  | zero =>
    intros
    exact pf_none
  | succ mm ih =>
    intro σ v2 v3 v4 v5 v6  h
    unfold cs_Face_alike_43
    refine pf_kk (fun ck_v4 => ?_)
    refine pf_cd (cf_Border_paths_B hW h) (fun s_19 r_20 hs_19 => ?_)
    refine pf_if ?_ ?_
    · exact pf_some hs_19
    · refine pf_cd (cf_Border_marksFirst_B hW hs_19) (fun s_24 r_25 hs_24 => ?_)
      refine pf_cd (cf_Border_marksFirst_B hW hs_24) (fun s_28 r_29 hs_28 => ?_)
      refine pf_if ?_ ?_
      · refine pf_ltE ?_
        refine pf_ltE ?_
        exact ih _ _ _ _ _ _ hs_28
      · refine pf_ltE ?_
        exact ih _ _ _ _ _ _ hs_28
theorem cf_Face_alike {W : Nat → Prop} (hW : gb_sc W) {n : Nat} {σ0 : gb_S} {σ : gb_S} {p1 : Int32} {p2 : Int32} {p3 : Int32} (h : gb_fs W σ0 σ) : gb_pf W σ0 (cs_Face_alike n σ p1 p2 p3) := by
  unfold cs_Face_alike
  refine pf_cd (cf_Face_borderAt hW h) (fun s_1 r_2 hs_1 => ?_)
  refine pf_if ?_ ?_
  · exact pf_some hs_1
  · refine pf_kk (fun ck_r_2 => ?_)
    refine pf_if ?_ ?_
    · exact pf_some hs_1
    · refine pf_cd (cf_Border_hasGoose_B hW hs_1) (fun s_8 r_9 hs_8 => ?_)
      refine pf_if ?_ ?_
      · exact pf_some hs_8
      · refine pf_cd (cf_Border_hasGoose_B hW hs_8) (fun s_13 r_14 hs_13 => ?_)
        refine pf_if ?_ ?_
        · exact pf_some hs_13
        · exact cf_Face_alike_43 hW _ _ _ _ _ _ _ hs_13
theorem cf_Flocks_sumUp_B_c131_44 {W : Nat → Prop} (hW : gb_sc W) {n : Nat} {σ0 : gb_S} {k17 : gb_S → Nat → Int32 → Int32 → gb_CR Unit} (h_k17 : ∀ (s : gb_S) (x1 : Nat) (x2 : Int32) (x3 : Int32), gb_fs W σ0 s → gb_pf W σ0 (k17 s x1 x2 x3)) : ∀ (mm : Nat) (σ : gb_S) (v1 : Nat) (v2 : Int32) (v4 : Int32) (v5 : Int32) (v6 : Int32) (v7 : Int32), gb_fs W σ0 σ → gb_pf W σ0 (cs_Flocks_sumUp_B_c131_44 n k17 mm σ v1 v2 v4 v5 v6 v7) := by
  intro mm
  induction mm with
  | zero =>
    intros
    exact pf_none
  | succ mm ih =>
    intro σ v1 v2 v4 v5 v6 v7  h
    unfold cs_Flocks_sumUp_B_c131_44
    refine pf_kk (fun ck_v1 => ?_)
    refine pf_if ?_ ?_
    · refine pf_ltE ?_
      exact h_k17 _ _ _ _ h
    · refine pf_ck ?_
      refine pf_ltV (fun x_23 => ?_)
      refine pf_ck ?_
      refine pf_ltS (fs_su (hW.2 _ (by decide)) h) (fun s_25 hs_25 => ?_)
      refine pf_ltE ?_
      exact ih _ _ _ _ _ _ _ hs_25
theorem cf_Flocks_sumUp_B_c131_17 {W : Nat → Prop} (hW : gb_sc W) {n : Nat} {σ0 : gb_S} : ∀ (mm : Nat) (σ : gb_S) (v1 : Nat) (v2 : Int32) (v4 : Int32), gb_fs W σ0 σ → gb_pf W σ0 (cs_Flocks_sumUp_B_c131_17 n mm σ v1 v2 v4) := by
  intro mm
  induction mm with
  | zero =>
    intros
    exact pf_none
  | succ mm ih =>
    intro σ v1 v2 v4  h
    unfold cs_Flocks_sumUp_B_c131_17
    refine pf_kk (fun ck_v1 => ?_)
    refine pf_cd (cf_Border_geese_B hW h) (fun s_9 r_10 hs_9 => ?_)
    refine pf_if ?_ ?_
    · exact pf_some hs_9
    · refine pf_cd (cf_Border_marksFirst_B hW hs_9) (fun s_14 r_15 hs_14 => ?_)
      refine pf_ltE ?_
      refine cf_Flocks_sumUp_B_c131_44 hW ?_ _ _ _ _ _ _ _ _ hs_14
      · intro σ v1 v2 v4 hσ
        exact ih _ _ _ _ hσ
theorem cf_Flocks_sumUp_B_c131 {W : Nat → Prop} (hW : gb_sc W) {n : Nat} {σ0 : gb_S} {σ : gb_S} {p1 : Nat} {p2 : Int32} (h : gb_fs W σ0 σ) : gb_pf W σ0 (cs_Flocks_sumUp_B_c131 n σ p1 p2) := by
  unfold cs_Flocks_sumUp_B_c131
  refine pf_kk (fun ck_p1 => ?_)
  refine pf_cd (cf_Border_geese_B hW h) (fun s_2 r_3 hs_2 => ?_)
  refine pf_ltS (fs_su (hW.2 _ (by decide)) hs_2) (fun s_6 hs_6 => ?_)
  refine pf_ltS (fs_su (hW.2 _ (by decide)) hs_6) (fun s_7 hs_7 => ?_)
  exact cf_Flocks_sumUp_B_c131_17 hW _ _ _ _ _ hs_7
theorem cf_java_lang_Integer_bitCount {W : Nat → Prop} (hW : gb_sc W) {n : Nat} {σ0 : gb_S} {σ : gb_S} {p1 : Int32} (h : gb_fs W σ0 σ) : gb_pf W σ0 (cs_java_lang_Integer_bitCount n σ p1) := by
  unfold cs_java_lang_Integer_bitCount
  refine pf_ltE ?_
  refine pf_ltE ?_
  refine pf_ltE ?_
  refine pf_ltE ?_
  refine pf_ltE ?_
  exact pf_some h
theorem cf_Flocks_marksOfAny_B_76 {W : Nat → Prop} (hW : gb_sc W) {n : Nat} {σ0 : gb_S} {k16 : gb_S → Int32 → Int32 → Int32 → Int32 → gb_CR Int32} {σ : gb_S} {v3 : Int32} {v4 : Int32} {v5 : Int32} {v6 : Int32} {t0 : Int32} (h_k16 : ∀ (s : gb_S) (x1 : Int32) (x2 : Int32) (x3 : Int32) (x4 : Int32), gb_fs W σ0 s → gb_pf W σ0 (k16 s x1 x2 x3 x4)) (h : gb_fs W σ0 σ) : gb_pf W σ0 (cs_Flocks_marksOfAny_B_76 n k16 σ v3 v4 v5 v6 t0) := by
  unfold cs_Flocks_marksOfAny_B_76
  refine pf_if ?_ ?_
  · refine pf_ck ?_
    refine pf_ltV (fun x_19 => ?_)
    refine pf_ltE ?_
    exact h_k16 _ _ _ _ _ h
  · refine pf_if ?_ ?_
    · refine pf_ltE ?_
      exact h_k16 _ _ _ _ _ h
    · refine pf_ck ?_
      refine pf_ltV (fun x_24 => ?_)
      refine pf_ltE ?_
      exact h_k16 _ _ _ _ _ h
theorem cf_Flocks_marksOfAny_B_16 {W : Nat → Prop} (hW : gb_sc W) {n : Nat} {σ0 : gb_S} : ∀ (mm : Nat) (σ : gb_S) (v3 : Int32) (v4 : Int32) (v5 : Int32) (v6 : Int32), gb_fs W σ0 σ → gb_pf W σ0 (cs_Flocks_marksOfAny_B_16 n mm σ v3 v4 v5 v6) := by
  intro mm
  induction mm with
  | zero =>
    intros
    exact pf_none
  | succ mm ih =>
    intro σ v3 v4 v5 v6  h
    unfold cs_Flocks_marksOfAny_B_16
    refine pf_if ?_ ?_
    · exact pf_some h
    · refine pf_cd (cf_java_lang_Integer_bitCount hW h) (fun s_7 r_8 hs_7 => ?_)
      refine pf_if ?_ ?_
      · refine pf_if ?_ ?_
        · refine pf_ck ?_
          refine pf_ltV (fun x_15 => ?_)
          refine pf_if ?_ ?_
          · refine cf_Flocks_marksOfAny_B_76 hW ?_ hs_7
            · intro σ v3 v4 v5 v6 hσ
              exact ih _ _ _ _ _ hσ
          · refine cf_Flocks_marksOfAny_B_76 hW ?_ hs_7
            · intro σ v3 v4 v5 v6 hσ
              exact ih _ _ _ _ _ hσ
        · refine pf_ck ?_
          refine pf_ltV (fun x_27 => ?_)
          refine pf_if ?_ ?_
          · refine cf_Flocks_marksOfAny_B_76 hW ?_ hs_7
            · intro σ v3 v4 v5 v6 hσ
              exact ih _ _ _ _ _ hσ
          · refine cf_Flocks_marksOfAny_B_76 hW ?_ hs_7
            · intro σ v3 v4 v5 v6 hσ
              exact ih _ _ _ _ _ hσ
      · refine pf_ltE ?_
        exact ih _ _ _ _ _ hs_7
theorem cf_Flocks_marksOfAny_B {W : Nat → Prop} (hW : gb_sc W) {n : Nat} {σ0 : gb_S} {σ : gb_S} {p1 : Nat} {p2 : Int32} {p3 : Int32} {p4 : Int32} (h : gb_fs W σ0 σ) : gb_pf W σ0 (cs_Flocks_marksOfAny_B n σ p1 p2 p3 p4) := by
  unfold cs_Flocks_marksOfAny_B
  refine pf_kk (fun ck_p1 => ?_)
  refine pf_cd (cf_Flocks_sumUp_B_c131 hW h) (fun s_2 _ hs_2 => ?_)
  exact cf_Flocks_marksOfAny_B_16 hW _ _ _ _ _ _ hs_2
theorem cf_Face_span {W : Nat → Prop} (hW : gb_sc W) {n : Nat} {σ0 : gb_S} {σ : gb_S} {p1 : Int32} {p2 : Int32} {p3 : Int32} {p4 : Int32} (h : gb_fs W σ0 σ) : gb_pf W σ0 (cs_Face_span n σ p1 p2 p3 p4) := by
  unfold cs_Face_span
  refine pf_cd (cf_Face_borderAt hW h) (fun s_1 r_2 hs_1 => ?_)
  refine pf_if ?_ ?_
  · exact pf_some hs_1
  · refine pf_kk (fun ck_r_2 => ?_)
    refine pf_cd (cf_Border_hasPath_B hW hs_1) (fun s_7 r_8 hs_7 => ?_)
    refine pf_if ?_ ?_
    · exact pf_some hs_7
    · refine pf_if ?_ ?_
      · exact pf_some hs_7
      · refine pf_cd (cf_Border_geese_B hW hs_7) (fun s_13 r_14 hs_13 => ?_)
        refine pf_if ?_ ?_
        · refine pf_cd (cf_Flocks_marksOfAny_B hW hs_13) (fun s_18 r_19 hs_18 => ?_)
          exact pf_some hs_18
        · exact pf_some hs_13
theorem cf_Flocks_sumUp_B_c132_44 {W : Nat → Prop} (hW : gb_sc W) {n : Nat} {σ0 : gb_S} {k17 : gb_S → Nat → Int32 → Int32 → gb_CR Unit} (h_k17 : ∀ (s : gb_S) (x1 : Nat) (x2 : Int32) (x3 : Int32), gb_fs W σ0 s → gb_pf W σ0 (k17 s x1 x2 x3)) : ∀ (mm : Nat) (σ : gb_S) (v1 : Nat) (v2 : Int32) (v4 : Int32) (v5 : Int32) (v6 : Int32) (v7 : Int32), gb_fs W σ0 σ → gb_pf W σ0 (cs_Flocks_sumUp_B_c132_44 n k17 mm σ v1 v2 v4 v5 v6 v7) := by
  intro mm
  induction mm with
  | zero =>
    intros
    exact pf_none
  | succ mm ih =>
    intro σ v1 v2 v4 v5 v6 v7  h
    unfold cs_Flocks_sumUp_B_c132_44
    refine pf_kk (fun ck_v1 => ?_)
    refine pf_if ?_ ?_
    · refine pf_ltE ?_
      exact h_k17 _ _ _ _ h
    · refine pf_ck ?_
      refine pf_ltV (fun x_23 => ?_)
      refine pf_ck ?_
      refine pf_ltS (fs_su (hW.2 _ (by decide)) h) (fun s_25 hs_25 => ?_)
      refine pf_ltE ?_
      exact ih _ _ _ _ _ _ _ hs_25
theorem cf_Flocks_sumUp_B_c132_17 {W : Nat → Prop} (hW : gb_sc W) {n : Nat} {σ0 : gb_S} : ∀ (mm : Nat) (σ : gb_S) (v1 : Nat) (v2 : Int32) (v4 : Int32), gb_fs W σ0 σ → gb_pf W σ0 (cs_Flocks_sumUp_B_c132_17 n mm σ v1 v2 v4) := by
  intro mm
  induction mm with
  | zero =>
    intros
    exact pf_none
  | succ mm ih =>
    intro σ v1 v2 v4  h
    unfold cs_Flocks_sumUp_B_c132_17
    refine pf_kk (fun ck_v1 => ?_)
    refine pf_cd (cf_Border_geese_B hW h) (fun s_9 r_10 hs_9 => ?_)
    refine pf_if ?_ ?_
    · exact pf_some hs_9
    · refine pf_cd (cf_Border_marksFirst_B hW hs_9) (fun s_14 r_15 hs_14 => ?_)
      refine pf_ltE ?_
      refine cf_Flocks_sumUp_B_c132_44 hW ?_ _ _ _ _ _ _ _ _ hs_14
      · intro σ v1 v2 v4 hσ
        exact ih _ _ _ _ hσ
theorem cf_Flocks_sumUp_B_c132 {W : Nat → Prop} (hW : gb_sc W) {n : Nat} {σ0 : gb_S} {σ : gb_S} {p1 : Nat} {p2 : Int32} (h : gb_fs W σ0 σ) : gb_pf W σ0 (cs_Flocks_sumUp_B_c132 n σ p1 p2) := by
  unfold cs_Flocks_sumUp_B_c132
  refine pf_kk (fun ck_p1 => ?_)
  refine pf_cd (cf_Border_geese_B hW h) (fun s_2 r_3 hs_2 => ?_)
  refine pf_ltS (fs_su (hW.2 _ (by decide)) hs_2) (fun s_6 hs_6 => ?_)
  refine pf_ltS (fs_su (hW.2 _ (by decide)) hs_6) (fun s_7 hs_7 => ?_)
  exact cf_Flocks_sumUp_B_c132_17 hW _ _ _ _ _ hs_7
theorem cf_Flocks_evenest_B_41 {W : Nat → Prop} (hW : gb_sc W) {n : Nat} {σ0 : gb_S} : ∀ (mm : Nat) (σ : gb_S) (v4 : Int32) (v5 : Int32), gb_fs W σ0 σ → gb_pf W σ0 (cs_Flocks_evenest_B_41 n mm σ v4 v5) := by
  intro mm
  induction mm with
  | zero =>
    intros
    exact pf_none
  | succ mm ih =>
    intro σ v4 v5  h
    unfold cs_Flocks_evenest_B_41
    refine pf_if ?_ ?_
    · exact pf_some h
    · refine pf_ck ?_
      refine pf_ltV (fun x_15 => ?_)
      refine pf_ck ?_
      refine pf_ltV (fun x_17 => ?_)
      refine pf_ltV (fun x_18 => ?_)
      refine pf_if ?_ ?_
      · refine pf_ltE ?_
        exact ih _ _ _ h
      · refine pf_ltS (fs_su (hW.2 _ (by decide)) h) (fun s_21 hs_21 => ?_)
        refine pf_ltE ?_
        exact ih _ _ _ hs_21
theorem cf_Flocks_evenest_B {W : Nat → Prop} (hW : gb_sc W) {n : Nat} {σ0 : gb_S} {σ : gb_S} {p1 : Nat} {p2 : Int32} {p3 : Int32} (h : gb_fs W σ0 σ) : gb_pf W σ0 (cs_Flocks_evenest_B n σ p1 p2 p3) := by
  unfold cs_Flocks_evenest_B
  refine pf_kk (fun ck_p1 => ?_)
  refine pf_cd (cf_Flocks_sumUp_B_c131 hW h) (fun s_2 _ hs_2 => ?_)
  refine pf_cd (cf_Flocks_sumUp_B_c132 hW hs_2) (fun s_6 _ hs_6 => ?_)
  refine pf_ck ?_
  refine pf_ltV (fun x_11 => ?_)
  refine pf_ltS (fs_su (hW.2 _ (by decide)) hs_6) (fun s_12 hs_12 => ?_)
  exact cf_Flocks_evenest_B_41 hW _ _ _ _ hs_12
theorem cf_Face_split {W : Nat → Prop} (hW : gb_sc W) {n : Nat} {σ0 : gb_S} {σ : gb_S} {p1 : Int32} {p2 : Int32} {p3 : Int32} {p4 : Int32} (h : gb_fs W σ0 σ) : gb_pf W σ0 (cs_Face_split n σ p1 p2 p3 p4) := by
  unfold cs_Face_split
  refine pf_cd (cf_Face_borderAt hW h) (fun s_1 r_2 hs_1 => ?_)
  refine pf_if ?_ ?_
  · exact pf_some hs_1
  · refine pf_kk (fun ck_r_2 => ?_)
    refine pf_if ?_ ?_
    · exact pf_some hs_1
    · refine pf_cd (cf_Border_hasPath_B hW hs_1) (fun s_8 r_9 hs_8 => ?_)
      refine pf_if ?_ ?_
      · exact pf_some hs_8
      · refine pf_cd (cf_Border_hasPath_B hW hs_8) (fun s_13 r_14 hs_13 => ?_)
        refine pf_if ?_ ?_
        · exact pf_some hs_13
        · refine pf_cd (cf_Flocks_evenest_B hW hs_13) (fun s_18 r_19 hs_18 => ?_)
          refine pf_if ?_ ?_
          · exact pf_some hs_18
          · exact pf_some hs_18
theorem cf_Flocks_fewestBackwards_B_21 {W : Nat → Prop} (hW : gb_sc W) {n : Nat} {σ0 : gb_S} : ∀ (mm : Nat) (σ : gb_S) (v3 : Int32) (v4 : Int32) (v5 : Int32), gb_fs W σ0 σ → gb_pf W σ0 (cs_Flocks_fewestBackwards_B_21 n mm σ v3 v4 v5) := by
  intro mm
  induction mm with
  | zero =>
    intros
    exact pf_none
  | succ mm ih =>
    intro σ v3 v4 v5  h
    unfold cs_Flocks_fewestBackwards_B_21
    refine pf_if ?_ ?_
    · exact pf_some h
    · refine pf_ck ?_
      refine pf_ltV (fun x_9 => ?_)
      refine pf_ck ?_
      refine pf_ltV (fun x_11 => ?_)
      refine pf_if ?_ ?_
      · refine pf_if ?_ ?_
        · refine pf_ltE ?_
          exact ih _ _ _ _ h
        · refine pf_cd (cf_java_lang_Integer_bitCount hW h) (fun s_15 r_16 hs_15 => ?_)
          refine pf_cd (cf_java_lang_Integer_bitCount hW hs_15) (fun s_19 r_20 hs_19 => ?_)
          refine pf_if ?_ ?_
          · refine pf_ltE ?_
            exact ih _ _ _ _ hs_19
          · refine pf_ltE ?_
            exact ih _ _ _ _ hs_19
      · refine pf_if ?_ ?_
        · refine pf_ltE ?_
          exact ih _ _ _ _ h
        · refine pf_cd (cf_java_lang_Integer_bitCount hW h) (fun s_28 r_29 hs_28 => ?_)
          refine pf_cd (cf_java_lang_Integer_bitCount hW hs_28) (fun s_32 r_33 hs_32 => ?_)
          refine pf_if ?_ ?_
          · refine pf_ltE ?_
            exact ih _ _ _ _ hs_32
          · refine pf_ltE ?_
            exact ih _ _ _ _ hs_32
theorem cf_Flocks_fewestBackwards_B {W : Nat → Prop} (hW : gb_sc W) {n : Nat} {σ0 : gb_S} {σ : gb_S} {p1 : Nat} {p2 : Int32} {p3 : Int32} (h : gb_fs W σ0 σ) : gb_pf W σ0 (cs_Flocks_fewestBackwards_B n σ p1 p2 p3) := by
  unfold cs_Flocks_fewestBackwards_B
  refine pf_kk (fun ck_p1 => ?_)
  refine pf_cd (cf_Flocks_sumUp_B_c131 hW h) (fun s_2 _ hs_2 => ?_)
  refine pf_ltE ?_
  exact cf_Flocks_fewestBackwards_B_21 hW _ _ _ _ _ hs_2
theorem cf_Face_backs {W : Nat → Prop} (hW : gb_sc W) {n : Nat} {σ0 : gb_S} {σ : gb_S} {p1 : Int32} {p2 : Int32} {p3 : Int32} {p4 : Int32} (h : gb_fs W σ0 σ) : gb_pf W σ0 (cs_Face_backs n σ p1 p2 p3 p4) := by
  unfold cs_Face_backs
  refine pf_cd (cf_Face_borderAt hW h) (fun s_1 r_2 hs_1 => ?_)
  refine pf_if ?_ ?_
  · exact pf_some hs_1
  · refine pf_kk (fun ck_r_2 => ?_)
    refine pf_cd (cf_Border_hasPath_B hW hs_1) (fun s_7 r_8 hs_7 => ?_)
    refine pf_if ?_ ?_
    · exact pf_some hs_7
    · refine pf_if ?_ ?_
      · exact pf_some hs_7
      · refine pf_if ?_ ?_
        · refine pf_cd (cf_Flocks_fewestBackwards_B hW hs_7) (fun s_14 r_15 hs_14 => ?_)
          refine pf_if ?_ ?_
          · exact pf_some hs_14
          · refine pf_cd (cf_java_lang_Integer_bitCount hW hs_14) (fun s_19 r_20 hs_19 => ?_)
            exact pf_some hs_19
        · exact pf_some hs_7
theorem cf_Flocks_nearest_B_16 {W : Nat → Prop} (hW : gb_sc W) {n : Nat} {σ0 : gb_S} : ∀ (mm : Nat) (σ : gb_S) (v3 : Int32) (v4 : Int32) (v5 : Int32), gb_fs W σ0 σ → gb_pf W σ0 (cs_Flocks_nearest_B_16 n mm σ v3 v4 v5) := by
  intro mm
  induction mm with
  | zero =>
    intros
    exact pf_none
  | succ mm ih =>
    intro σ v3 v4 v5  h
    unfold cs_Flocks_nearest_B_16
    refine pf_if ?_ ?_
    · exact pf_some h
    · refine pf_ck ?_
      refine pf_ltV (fun x_8 => ?_)
      refine pf_ltV (fun x_9 => ?_)
      refine pf_ck ?_
      refine pf_ltV (fun x_11 => ?_)
      refine pf_ltV (fun x_12 => ?_)
      refine pf_if ?_ ?_
      · refine pf_ltE ?_
        exact ih _ _ _ _ h
      · refine pf_ltE ?_
        exact ih _ _ _ _ h
theorem cf_Flocks_nearest_B {W : Nat → Prop} (hW : gb_sc W) {n : Nat} {σ0 : gb_S} {σ : gb_S} {p1 : Nat} {p2 : Int32} {p3 : Int32} (h : gb_fs W σ0 σ) : gb_pf W σ0 (cs_Flocks_nearest_B n σ p1 p2 p3) := by
  unfold cs_Flocks_nearest_B
  refine pf_kk (fun ck_p1 => ?_)
  refine pf_cd (cf_Flocks_sumUp_B_c131 hW h) (fun s_2 _ hs_2 => ?_)
  exact cf_Flocks_nearest_B_16 hW _ _ _ _ _ hs_2
theorem cf_Face_near {W : Nat → Prop} (hW : gb_sc W) {n : Nat} {σ0 : gb_S} {σ : gb_S} {p1 : Int32} {p2 : Int32} {p3 : Int32} (h : gb_fs W σ0 σ) : gb_pf W σ0 (cs_Face_near n σ p1 p2 p3) := by
  unfold cs_Face_near
  refine pf_cd (cf_Face_borderAt hW h) (fun s_1 r_2 hs_1 => ?_)
  refine pf_if ?_ ?_
  · refine pf_cd (cf_Face_dawnAt hW hs_1) (fun s_6 r_7 hs_6 => ?_)
    refine pf_if ?_ ?_
    · exact pf_some hs_6
    · refine pf_kk (fun ck_r_7 => ?_)
      exact pf_some hs_6
  · refine pf_kk (fun ck_r_2 => ?_)
    refine pf_cd (cf_Face_dawnAt hW hs_1) (fun s_13 r_14 hs_13 => ?_)
    refine pf_if ?_ ?_
    · exact pf_some hs_13
    · refine pf_kk (fun ck_r_14 => ?_)
      refine pf_if ?_ ?_
      · exact pf_some hs_13
      · refine pf_cd (cf_Lines_size_D hW hs_13) (fun s_20 r_21 hs_20 => ?_)
        refine pf_if ?_ ?_
        · exact pf_some hs_20
        · refine pf_cd (cf_Dawn_pathSeen_D hW hs_20) (fun s_25 r_26 hs_25 => ?_)
          refine pf_cd (cf_Border_hasPath_B hW hs_25) (fun s_29 r_30 hs_29 => ?_)
          refine pf_if ?_ ?_
          · exact pf_some hs_29
          · refine pf_cd (cf_Dawn_pathSeen_D hW hs_29) (fun s_34 r_35 hs_34 => ?_)
            refine pf_cd (cf_Dawn_marksSeen_D hW hs_34) (fun s_38 r_39 hs_38 => ?_)
            refine pf_cd (cf_Flocks_nearest_B hW hs_38) (fun s_42 r_43 hs_42 => ?_)
            exact pf_some hs_42
theorem cf_Flocks_paysAll_B_3 {W : Nat → Prop} (hW : gb_sc W) {n : Nat} {σ0 : gb_S} : ∀ (mm : Nat) (σ : gb_S) (v1 : Nat) (v2 : Int32) (v3 : Int32) (v4 : Int32), gb_fs W σ0 σ → gb_pf W σ0 (cs_Flocks_paysAll_B_3 n mm σ v1 v2 v3 v4) := by
  intro mm
  induction mm with
  | zero =>
    intros
    exact pf_none
  | succ mm ih =>
    intro σ v1 v2 v3 v4  h
    unfold cs_Flocks_paysAll_B_3
    refine pf_kk (fun ck_v1 => ?_)
    refine pf_cd (cf_Border_geese_B hW h) (fun s_3 r_4 hs_3 => ?_)
    refine pf_if ?_ ?_
    · exact pf_some hs_3
    · refine pf_ltE ?_
      refine pf_if ?_ ?_
      · refine pf_ltE ?_
        exact ih _ _ _ _ _ hs_3
      · refine pf_kk (fun _ => ?_)
        refine pf_ck ?_
        refine pf_ltV (fun x_13 => ?_)
        refine pf_if ?_ ?_
        · refine pf_cd (cf_Border_marksFirst_B hW hs_3) (fun s_16 r_17 hs_16 => ?_)
          refine pf_cd (cf_Border_payOf_B hW hs_16) (fun s_20 r_21 hs_20 => ?_)
          refine pf_if ?_ ?_
          · refine pf_ltE ?_
            exact ih _ _ _ _ _ hs_20
          · exact pf_some hs_20
        · refine pf_ltE ?_
          exact ih _ _ _ _ _ hs_3
theorem cf_Flocks_paysAll_B {W : Nat → Prop} (hW : gb_sc W) {n : Nat} {σ0 : gb_S} {σ : gb_S} {p1 : Nat} {p2 : Int32} {p3 : Int32} (h : gb_fs W σ0 σ) : gb_pf W σ0 (cs_Flocks_paysAll_B n σ p1 p2 p3) := by
  unfold cs_Flocks_paysAll_B
  refine pf_kk (fun ck_p1 => ?_)
  exact cf_Flocks_paysAll_B_3 hW _ _ _ _ _ _ h
theorem cf_Flocks_thriftiest_B_71 {W : Nat → Prop} (hW : gb_sc W) {n : Nat} {σ0 : gb_S} {k28 : gb_S → Nat → Int32 → gb_CR Int32} {σ : gb_S} {v1 : Nat} {v2 : Int32} {v3 : Int32} {t0 : Int64} {t1 : Int32} {t2 : Nat} (h_k28 : ∀ (s : gb_S) (x1 : Nat) (x2 : Int32), gb_fs W σ0 s → gb_pf W σ0 (k28 s x1 x2)) (h : gb_fs W σ0 σ) : gb_pf W σ0 (cs_Flocks_thriftiest_B_71 n k28 σ v1 v2 v3 t0 t1 t2) := by
  unfold cs_Flocks_thriftiest_B_71
  refine pf_kk (fun ck_v1 => ?_)
  refine pf_kk (fun ck_t2 => ?_)
  refine pf_ck ?_
  refine pf_ltS (fs_sg h) (fun s_32 hs_32 => ?_)
  refine pf_kk (fun _ => ?_)
  refine pf_ck ?_
  refine pf_ltV (fun x_35 => ?_)
  refine pf_if ?_ ?_
  · refine pf_cd (cf_Border_paths_B hW hs_32) (fun s_38 r_39 hs_38 => ?_)
    refine pf_if ?_ ?_
    · exact pf_some hs_38
    · refine pf_ltE ?_
      exact h_k28 _ _ _ hs_38
  · refine pf_ltE ?_
    exact h_k28 _ _ _ hs_32
theorem cf_Flocks_thriftiest_B_70 {W : Nat → Prop} (hW : gb_sc W) {n : Nat} {σ0 : gb_S} {k28 : gb_S → Nat → Int32 → gb_CR Int32} {σ : gb_S} {v1 : Nat} {v2 : Int32} {v3 : Int32} {t0 : Int32} {t1 : Nat} (h_k28 : ∀ (s : gb_S) (x1 : Nat) (x2 : Int32), gb_fs W σ0 s → gb_pf W σ0 (k28 s x1 x2)) (h : gb_fs W σ0 σ) : gb_pf W σ0 (cs_Flocks_thriftiest_B_70 n k28 σ v1 v2 v3 t0 t1) := by
  unfold cs_Flocks_thriftiest_B_70
  refine pf_kk (fun ck_v1 => ?_)
  refine pf_kk (fun ck_t1 => ?_)
  exact cf_Flocks_thriftiest_B_71 hW h_k28 h
theorem cf_Flocks_thriftiest_B_28 {W : Nat → Prop} (hW : gb_sc W) {n : Nat} {σ0 : gb_S} : ∀ (mm : Nat) (σ : gb_S) (v1 : Nat) (v2 : Int32), gb_fs W σ0 σ → gb_pf W σ0 (cs_Flocks_thriftiest_B_28 n mm σ v1 v2) := by
  intro mm
  induction mm with
  | zero =>
    intros
    exact pf_none
  | succ mm ih =>
    intro σ v1 v2  h
    unfold cs_Flocks_thriftiest_B_28
    refine pf_kk (fun ck_v1 => ?_)
    refine pf_if ?_ ?_
    · exact pf_some h
    · refine pf_cd (cf_java_lang_Integer_bitCount hW h) (fun s_16 r_17 hs_16 => ?_)
      refine pf_ltE ?_
      refine pf_kk (fun _ => ?_)
      refine pf_cd (cf_Border_paths_B hW hs_16) (fun s_22 r_23 hs_22 => ?_)
      refine pf_if ?_ ?_
      · refine cf_Flocks_thriftiest_B_70 hW ?_ hs_22
        · intro σ v1 v2 hσ
          exact ih _ _ _ hσ
      · refine pf_cd (cf_Flocks_paysAll_B hW hs_22) (fun s_44 r_45 hs_44 => ?_)
        refine pf_if ?_ ?_
        · refine cf_Flocks_thriftiest_B_70 hW ?_ hs_44
          · intro σ v1 v2 hσ
            exact ih _ _ _ hσ
        · refine cf_Flocks_thriftiest_B_71 hW ?_ hs_44
          · intro σ v1 v2 hσ
            exact ih _ _ _ hσ
theorem cf_Flocks_thriftiest_B {W : Nat → Prop} (hW : gb_sc W) {n : Nat} {σ0 : gb_S} {σ : gb_S} {p1 : Nat} (h : gb_fs W σ0 σ) : gb_pf W σ0 (cs_Flocks_thriftiest_B n σ p1) := by
  unfold cs_Flocks_thriftiest_B
  refine pf_kk (fun ck_p1 => ?_)
  refine pf_cd (cf_Border_geese_B hW h) (fun s_2 r_3 hs_2 => ?_)
  refine pf_ltS (fs_su (hW.2 _ (by decide)) hs_2) (fun s_6 hs_6 => ?_)
  refine pf_kk (fun _ => ?_)
  refine pf_ltS (fs_sg hs_6) (fun s_8 hs_8 => ?_)
  refine pf_cd (cf_Border_paths_B hW hs_8) (fun s_9 r_10 hs_9 => ?_)
  refine pf_if ?_ ?_
  · exact pf_some hs_9
  · exact cf_Flocks_thriftiest_B_28 hW _ _ _ _ hs_9
theorem cf_Face_thrift {W : Nat → Prop} (hW : gb_sc W) {n : Nat} {σ0 : gb_S} {σ : gb_S} {p1 : Int32} (h : gb_fs W σ0 σ) : gb_pf W σ0 (cs_Face_thrift n σ p1) := by
  unfold cs_Face_thrift
  refine pf_cd (cf_Face_borderAt hW h) (fun s_1 r_2 hs_1 => ?_)
  refine pf_if ?_ ?_
  · exact pf_some hs_1
  · refine pf_kk (fun ck_r_2 => ?_)
    refine pf_cd (cf_Flocks_thriftiest_B hW hs_1) (fun s_7 r_8 hs_7 => ?_)
    exact pf_some hs_7
theorem cf_java_util_Arrays_fillJ_J_6 {W : Nat → Prop} (hW : gb_sc W) {n : Nat} {σ0 : gb_S} : ∀ (mm : Nat) (σ : gb_S) (v0 : Nat) (v1 : Int64) (v3 : Int32) (v4 : Int32), gb_fs W σ0 σ → gb_pf W σ0 (cs_java_util_Arrays_fillJ_J_6 n mm σ v0 v1 v3 v4) := by
  intro mm
  induction mm with
  | zero =>
    intros
    exact pf_none
  | succ mm ih =>
    intro σ v0 v1 v3 v4  h
    unfold cs_java_util_Arrays_fillJ_J_6
    refine pf_kk (fun ck_v0 => ?_)
    refine pf_if ?_ ?_
    · exact pf_some h
    · refine pf_ck ?_
      refine pf_ltS (fs_sg h) (fun s_5 hs_5 => ?_)
      refine pf_ltE ?_
      exact ih _ _ _ _ _ hs_5
theorem cf_java_util_Arrays_fillJ_J {W : Nat → Prop} (hW : gb_sc W) {n : Nat} {σ0 : gb_S} {σ : gb_S} {p1 : Nat} {p2 : Int64} (h : gb_fs W σ0 σ) : gb_pf W σ0 (cs_java_util_Arrays_fillJ_J n σ p1 p2) := by
  unfold cs_java_util_Arrays_fillJ_J
  refine pf_kk (fun ck_p1 => ?_)
  exact cf_java_util_Arrays_fillJ_J_6 hW _ _ _ _ _ _ h
theorem cf_Flocks_addGoing_13 {W : Nat → Prop} (hW : gb_sc W) {n : Nat} {σ0 : gb_S} : ∀ (mm : Nat) (σ : gb_S) (v1 : Int32) (v2 : Int32) (v3 : Int32), gb_fs W σ0 σ → gb_pf W σ0 (cs_Flocks_addGoing_13 n mm σ v1 v2 v3) := by
  intro mm
  induction mm with
  | zero =>
    intros
    exact pf_none
  | succ mm ih =>
    intro σ v1 v2 v3  h
    unfold cs_Flocks_addGoing_13
    refine pf_if ?_ ?_
    · refine pf_kk (fun _ => ?_)
      refine pf_ck ?_
      refine pf_ltV (fun x_5 => ?_)
      refine pf_kk (fun _ => ?_)
      refine pf_ltV (fun x_7 => ?_)
      refine pf_ck ?_
      refine pf_ltS (fs_sg h) (fun s_9 hs_9 => ?_)
      exact pf_some hs_9
    · refine pf_kk (fun _ => ?_)
      refine pf_ck ?_
      refine pf_ltV (fun x_12 => ?_)
      refine pf_kk (fun _ => ?_)
      refine pf_ck ?_
      refine pf_ltV (fun x_15 => ?_)
      refine pf_ck ?_
      refine pf_ltS (fs_sg h) (fun s_17 hs_17 => ?_)
      refine pf_ltE ?_
      exact ih _ _ _ _ hs_17
theorem cf_Flocks_addGoing {W : Nat → Prop} (hW : gb_sc W) {n : Nat} {σ0 : gb_S} {σ : gb_S} {p1 : Int32} (h : gb_fs W σ0 σ) : gb_pf W σ0 (cs_Flocks_addGoing n σ p1) := by
  unfold cs_Flocks_addGoing
  refine pf_ltE ?_
  exact cf_Flocks_addGoing_13 hW _ _ _ _ _ h
theorem cf_Flocks_goBy_10 {W : Nat → Prop} (hW : gb_sc W) {n : Nat} {σ0 : gb_S} : ∀ (mm : Nat) (σ : gb_S) (v1 : Int32) (v2 : Int32) (v3 : Int32), gb_fs W σ0 σ → gb_pf W σ0 (cs_Flocks_goBy_10 n mm σ v1 v2 v3) := by
  intro mm
  induction mm with
  | zero =>
    intros
    exact pf_none
  | succ mm ih =>
    intro σ v1 v2 v3  h
    unfold cs_Flocks_goBy_10
    refine pf_if ?_ ?_
    · refine pf_kk (fun _ => ?_)
      refine pf_kk (fun _ => ?_)
      refine pf_ltS (fs_sq h) (fun s_9 hs_9 => ?_)
      refine pf_ltS (fs_sq hs_9) (fun s_10 hs_10 => ?_)
      exact pf_some hs_10
    · refine pf_ck ?_
      refine pf_ltV (fun x_12 => ?_)
      refine pf_if ?_ ?_
      · refine pf_if ?_ ?_
        · refine pf_cd (cf_Flocks_addGoing hW h) (fun s_17 _ hs_17 => ?_)
          refine pf_ltE ?_
          exact ih _ _ _ _ hs_17
        · refine pf_ltE ?_
          exact ih _ _ _ _ h
      · refine pf_ltE ?_
        exact ih _ _ _ _ h
theorem cf_Flocks_goBy {W : Nat → Prop} (hW : gb_sc W) {n : Nat} {σ0 : gb_S} {σ : gb_S} {p1 : Int32} {p2 : Int32} (h : gb_fs W σ0 σ) : gb_pf W σ0 (cs_Flocks_goBy n σ p1 p2) := by
  unfold cs_Flocks_goBy
  refine pf_kk (fun _ => ?_)
  refine pf_cd (cf_java_util_Arrays_fillJ_J hW h) (fun s_2 _ hs_2 => ?_)
  exact cf_Flocks_goBy_10 hW _ _ _ _ _ hs_2
theorem cf_Flocks_findWays_B_D_28 {W : Nat → Prop} (hW : gb_sc W) {n : Nat} {σ0 : gb_S} : ∀ (mm : Nat) (σ : gb_S) (v1 : Nat) (v2 : Nat) (v3 : Int32) (v4 : Int32) (v5 : Int32), gb_fs W σ0 σ → gb_pf W σ0 (cs_Flocks_findWays_B_D_28 n mm σ v1 v2 v3 v4 v5) := by
  intro mm
  induction mm with
  | zero =>
    intros
    exact pf_none
  | succ mm ih =>
    intro σ v1 v2 v3 v4 v5  h
    unfold cs_Flocks_findWays_B_D_28
    refine pf_kk (fun ck_v1 => ?_)
    refine pf_kk (fun ck_v2 => ?_)
    refine pf_cd (cf_Lines_size_D hW h) (fun s_17 r_18 hs_17 => ?_)
    refine pf_if ?_ ?_
    · exact pf_some hs_17
    · refine pf_cd (cf_Dawn_pathSeen_D hW hs_17) (fun s_22 r_23 hs_22 => ?_)
      refine pf_cd (cf_Border_hasPath_B hW hs_22) (fun s_26 r_27 hs_26 => ?_)
      refine pf_if ?_ ?_
      · refine pf_cd (cf_Dawn_marksSeen_D hW hs_26) (fun s_31 r_32 hs_31 => ?_)
        refine pf_if ?_ ?_
        · refine pf_if ?_ ?_
          · refine pf_kk (fun _ => ?_)
            refine pf_cd (cf_java_util_Arrays_fillJ_J hW hs_31) (fun s_45 _ hs_45 => ?_)
            refine pf_ltE ?_
            exact ih _ _ _ _ _ _ hs_45
          · refine pf_ltE ?_
            exact ih _ _ _ _ _ _ hs_31
        · refine pf_kk (fun _ => ?_)
          refine pf_cd (cf_java_util_Arrays_fillJ_J hW hs_31) (fun s_37 _ hs_37 => ?_)
          refine pf_ltE ?_
          exact ih _ _ _ _ _ _ hs_37
      · refine pf_cd (cf_Flocks_sumUp_B_c131 hW hs_26) (fun s_50 _ hs_50 => ?_)
        refine pf_cd (cf_Dawn_marksSeen_D hW hs_50) (fun s_54 r_55 hs_54 => ?_)
        refine pf_if ?_ ?_
        · refine pf_cd (cf_Flocks_goBy hW hs_54) (fun s_59 _ hs_59 => ?_)
          refine pf_ltE ?_
          exact ih _ _ _ _ _ _ hs_59
        · refine pf_if ?_ ?_
          · refine pf_cd (cf_Flocks_goBy hW hs_54) (fun s_70 _ hs_70 => ?_)
            refine pf_ltE ?_
            exact ih _ _ _ _ _ _ hs_70
          · refine pf_cd (cf_Flocks_goBy hW hs_54) (fun s_65 _ hs_65 => ?_)
            refine pf_ltE ?_
            exact ih _ _ _ _ _ _ hs_65
theorem cf_Flocks_findWays_B_D {W : Nat → Prop} (hW : gb_sc W) {n : Nat} {σ0 : gb_S} {σ : gb_S} {p1 : Nat} {p2 : Nat} {p3 : Int32} {p4 : Int32} (h : gb_fs W σ0 σ) : gb_pf W σ0 (cs_Flocks_findWays_B_D n σ p1 p2 p3 p4) := by
  unfold cs_Flocks_findWays_B_D
  refine pf_kk (fun ck_p1 => ?_)
  refine pf_kk (fun ck_p2 => ?_)
  refine pf_cd (cf_Border_geese_B hW h) (fun s_3 r_4 hs_3 => ?_)
  refine pf_ltS (fs_su (hW.2 _ (by decide)) hs_3) (fun s_7 hs_7 => ?_)
  refine pf_kk (fun _ => ?_)
  refine pf_cd (cf_java_util_Arrays_fillJ_J hW hs_7) (fun s_9 _ hs_9 => ?_)
  refine pf_kk (fun _ => ?_)
  refine pf_ltS (fs_sg hs_9) (fun s_14 hs_14 => ?_)
  exact cf_Flocks_findWays_B_D_28 hW _ _ _ _ _ _ _ hs_14
theorem cf_Flocks_allWays_4 {W : Nat → Prop} (hW : gb_sc W) {n : Nat} {σ0 : gb_S} : ∀ (mm : Nat) (σ : gb_S) (v1 : Int64) (v3 : Int32), gb_fs W σ0 σ → gb_pf W σ0 (cs_Flocks_allWays_4 n mm σ v1 v3) := by
  intro mm
  induction mm with
  | zero =>
    intros
    exact pf_none
  | succ mm ih =>
    intro σ v1 v3  h
    unfold cs_Flocks_allWays_4
    refine pf_if ?_ ?_
    · exact pf_some h
    · refine pf_kk (fun _ => ?_)
      refine pf_ck ?_
      refine pf_ltV (fun x_4 => ?_)
      refine pf_ltE ?_
      refine pf_ltE ?_
      exact ih _ _ _ h
theorem cf_Flocks_allWays {W : Nat → Prop} (hW : gb_sc W) {n : Nat} {σ0 : gb_S} {σ : gb_S} (h : gb_fs W σ0 σ) : gb_pf W σ0 (cs_Flocks_allWays n σ) := by
  unfold cs_Flocks_allWays
  exact cf_Flocks_allWays_4 hW _ _ _ _ h
theorem cf_Face_fits {W : Nat → Prop} (hW : gb_sc W) {n : Nat} {σ0 : gb_S} {σ : gb_S} {p1 : Int32} {p2 : Int32} (h : gb_fs W σ0 σ) : gb_pf W σ0 (cs_Face_fits n σ p1 p2) := by
  unfold cs_Face_fits
  refine pf_cd (cf_Face_borderAt hW h) (fun s_1 r_2 hs_1 => ?_)
  refine pf_if ?_ ?_
  · refine pf_cd (cf_Face_dawnAt hW hs_1) (fun s_6 r_7 hs_6 => ?_)
    refine pf_if ?_ ?_
    · exact pf_some hs_6
    · refine pf_kk (fun ck_r_7 => ?_)
      exact pf_some hs_6
  · refine pf_kk (fun ck_r_2 => ?_)
    refine pf_cd (cf_Face_dawnAt hW hs_1) (fun s_13 r_14 hs_13 => ?_)
    refine pf_if ?_ ?_
    · exact pf_some hs_13
    · refine pf_kk (fun ck_r_14 => ?_)
      refine pf_cd (cf_Flocks_findWays_B_D hW hs_13) (fun s_19 _ hs_19 => ?_)
      refine pf_cd (cf_Flocks_allWays hW hs_19) (fun s_23 r_24 hs_23 => ?_)
      exact pf_some hs_23
theorem cf_Flocks_fewestGone_5 {W : Nat → Prop} (hW : gb_sc W) {n : Nat} {σ0 : gb_S} : ∀ (mm : Nat) (σ : gb_S) (v1 : Int32) (v2 : Int32), gb_fs W σ0 σ → gb_pf W σ0 (cs_Flocks_fewestGone_5 n mm σ v1 v2) := by
  intro mm
  induction mm with
  | zero =>
    intros
    exact pf_none
  | succ mm ih =>
    intro σ v1 v2  h
    unfold cs_Flocks_fewestGone_5
    refine pf_if ?_ ?_
    · exact pf_some h
    · refine pf_kk (fun _ => ?_)
      refine pf_ck ?_
      refine pf_ltV (fun x_4 => ?_)
      refine pf_if ?_ ?_
      · refine pf_ltE ?_
        exact ih _ _ _ h
      · refine pf_cd (cf_java_lang_Integer_bitCount hW h) (fun s_7 r_8 hs_7 => ?_)
        refine pf_ltV (fun x_11 => ?_)
        refine pf_ltE ?_
        exact ih _ _ _ hs_7
theorem cf_Flocks_fewestGone {W : Nat → Prop} (hW : gb_sc W) {n : Nat} {σ0 : gb_S} {σ : gb_S} (h : gb_fs W σ0 σ) : gb_pf W σ0 (cs_Flocks_fewestGone n σ) := by
  unfold cs_Flocks_fewestGone
  exact cf_Flocks_fewestGone_5 hW _ _ _ _ h
theorem cf_Flocks_mostGone_4 {W : Nat → Prop} (hW : gb_sc W) {n : Nat} {σ0 : gb_S} : ∀ (mm : Nat) (σ : gb_S) (v1 : Int32) (v2 : Int32), gb_fs W σ0 σ → gb_pf W σ0 (cs_Flocks_mostGone_4 n mm σ v1 v2) := by
  intro mm
  induction mm with
  | zero =>
    intros
    exact pf_none
  | succ mm ih =>
    intro σ v1 v2  h
    unfold cs_Flocks_mostGone_4
    refine pf_if ?_ ?_
    · exact pf_some h
    · refine pf_kk (fun _ => ?_)
      refine pf_ck ?_
      refine pf_ltV (fun x_4 => ?_)
      refine pf_if ?_ ?_
      · refine pf_ltE ?_
        exact ih _ _ _ h
      · refine pf_cd (cf_java_lang_Integer_bitCount hW h) (fun s_7 r_8 hs_7 => ?_)
        refine pf_ltV (fun x_11 => ?_)
        refine pf_ltE ?_
        exact ih _ _ _ hs_7
theorem cf_Flocks_mostGone {W : Nat → Prop} (hW : gb_sc W) {n : Nat} {σ0 : gb_S} {σ : gb_S} (h : gb_fs W σ0 σ) : gb_pf W σ0 (cs_Flocks_mostGone n σ) := by
  unfold cs_Flocks_mostGone
  exact cf_Flocks_mostGone_4 hW _ _ _ _ h
theorem cf_Flocks_sureOnes_9 {W : Nat → Prop} (hW : gb_sc W) {n : Nat} {σ0 : gb_S} : ∀ (mm : Nat) (σ : gb_S) (v1 : Int32) (v2 : Int32), gb_fs W σ0 σ → gb_pf W σ0 (cs_Flocks_sureOnes_9 n mm σ v1 v2) := by
  intro mm
  induction mm with
  | zero =>
    intros
    exact pf_none
  | succ mm ih =>
    intro σ v1 v2  h
    unfold cs_Flocks_sureOnes_9
    refine pf_if ?_ ?_
    · exact pf_some h
    · refine pf_kk (fun _ => ?_)
      refine pf_ck ?_
      refine pf_ltV (fun x_5 => ?_)
      refine pf_if ?_ ?_
      · refine pf_ltE ?_
        exact ih _ _ _ h
      · refine pf_ltE ?_
        refine pf_ltE ?_
        exact ih _ _ _ h
theorem cf_Flocks_sureOnes {W : Nat → Prop} (hW : gb_sc W) {n : Nat} {σ0 : gb_S} {σ : gb_S} (h : gb_fs W σ0 σ) : gb_pf W σ0 (cs_Flocks_sureOnes n σ) := by
  unfold cs_Flocks_sureOnes
  refine pf_ltE ?_
  exact cf_Flocks_sureOnes_9 hW _ _ _ _ h
theorem cf_Flocks_pathsInAnyWay_B_D_6 {W : Nat → Prop} (hW : gb_sc W) {n : Nat} {σ0 : gb_S} : ∀ (mm : Nat) (σ : gb_S) (v1 : Nat) (v2 : Nat) (v3 : Int32) (v4 : Int32) (v5 : Int32), gb_fs W σ0 σ → gb_pf W σ0 (cs_Flocks_pathsInAnyWay_B_D_6 n mm σ v1 v2 v3 v4 v5) := by
  intro mm
  induction mm with
  | zero =>
    intros
    exact pf_none
  | succ mm ih =>
    intro σ v1 v2 v3 v4 v5  h
    unfold cs_Flocks_pathsInAnyWay_B_D_6
    refine pf_kk (fun ck_v1 => ?_)
    refine pf_kk (fun ck_v2 => ?_)
    refine pf_cd (cf_Lines_size_D hW h) (fun s_5 r_6 hs_5 => ?_)
    refine pf_if ?_ ?_
    · exact pf_some hs_5
    · refine pf_cd (cf_Flocks_findWays_B_D hW hs_5) (fun s_10 _ hs_10 => ?_)
      refine pf_cd (cf_Flocks_allWays hW hs_10) (fun s_14 r_15 hs_14 => ?_)
      refine pf_if ?_ ?_
      · refine pf_ltE ?_
        exact ih _ _ _ _ _ _ hs_14
      · refine pf_cd (cf_Dawn_pathSeen_D hW hs_14) (fun s_20 r_21 hs_20 => ?_)
        refine pf_ltE ?_
        refine pf_ltE ?_
        exact ih _ _ _ _ _ _ hs_20
theorem cf_Flocks_pathsInAnyWay_B_D {W : Nat → Prop} (hW : gb_sc W) {n : Nat} {σ0 : gb_S} {σ : gb_S} {p1 : Nat} {p2 : Nat} {p3 : Int32} (h : gb_fs W σ0 σ) : gb_pf W σ0 (cs_Flocks_pathsInAnyWay_B_D n σ p1 p2 p3) := by
  unfold cs_Flocks_pathsInAnyWay_B_D
  refine pf_kk (fun ck_p1 => ?_)
  refine pf_kk (fun ck_p2 => ?_)
  exact cf_Flocks_pathsInAnyWay_B_D_6 hW _ _ _ _ _ _ _ h
theorem cf_Face_toeOf_B_D_12 {W : Nat → Prop} (hW : gb_sc W) {n : Nat} {σ0 : gb_S} {k2 : gb_S → Nat → Nat → Int32 → gb_CR Int32} (h_k2 : ∀ (s : gb_S) (x1 : Nat) (x2 : Nat) (x3 : Int32), gb_fs W σ0 s → gb_pf W σ0 (k2 s x1 x2 x3)) : ∀ (mm : Nat) (σ : gb_S) (v0 : Nat) (v1 : Nat) (v2 : Int32) (v3 : Int32), gb_fs W σ0 σ → gb_pf W σ0 (cs_Face_toeOf_B_D_12 n k2 mm σ v0 v1 v2 v3) := by
  intro mm
  induction mm with
  | zero =>
    intros
    exact pf_none
  | succ mm ih =>
    intro σ v0 v1 v2 v3  h
    unfold cs_Face_toeOf_B_D_12
    refine pf_kk (fun ck_v0 => ?_)
    refine pf_kk (fun ck_v1 => ?_)
    refine pf_cd (cf_Lines_size_D hW h) (fun s_12 r_13 hs_12 => ?_)
    refine pf_if ?_ ?_
    · refine pf_ltE ?_
      exact h_k2 _ _ _ _ hs_12
    · refine pf_cd (cf_Dawn_pathSeen_D hW hs_12) (fun s_18 r_19 hs_18 => ?_)
      refine pf_cd (cf_Border_hasPath_B hW hs_18) (fun s_22 r_23 hs_22 => ?_)
      refine pf_if ?_ ?_
      · refine pf_ltE ?_
        exact ih _ _ _ _ _ hs_22
      · refine pf_cd (cf_Border_marksFirst_B hW hs_22) (fun s_28 r_29 hs_28 => ?_)
        refine pf_cd (cf_Dawn_marksSeen_D hW hs_28) (fun s_32 r_33 hs_32 => ?_)
        refine pf_if ?_ ?_
        · exact pf_some hs_32
        · refine pf_ltE ?_
          exact ih _ _ _ _ _ hs_32
theorem cf_Face_toeOf_B_D_2 {W : Nat → Prop} (hW : gb_sc W) {n : Nat} {σ0 : gb_S} : ∀ (mm : Nat) (σ : gb_S) (v0 : Nat) (v1 : Nat) (v2 : Int32), gb_fs W σ0 σ → gb_pf W σ0 (cs_Face_toeOf_B_D_2 n mm σ v0 v1 v2) := by
  intro mm
  induction mm with
  | zero =>
    intros
    exact pf_none
  | succ mm ih =>
    intro σ v0 v1 v2  h
    unfold cs_Face_toeOf_B_D_2
    refine pf_kk (fun ck_v0 => ?_)
    refine pf_kk (fun ck_v1 => ?_)
    refine pf_cd (cf_Border_geese_B hW h) (fun s_5 r_6 hs_5 => ?_)
    refine pf_if ?_ ?_
    · exact pf_some hs_5
    · refine cf_Face_toeOf_B_D_12 hW ?_ _ _ _ _ _ _ hs_5
      · intro σ v0 v1 v2 hσ
        exact ih _ _ _ _ hσ
theorem cf_Face_toeOf_B_D {W : Nat → Prop} (hW : gb_sc W) {n : Nat} {σ0 : gb_S} {σ : gb_S} {p1 : Nat} {p2 : Nat} (h : gb_fs W σ0 σ) : gb_pf W σ0 (cs_Face_toeOf_B_D n σ p1 p2) := by
  unfold cs_Face_toeOf_B_D
  refine pf_kk (fun ck_p1 => ?_)
  refine pf_kk (fun ck_p2 => ?_)
  exact cf_Face_toeOf_B_D_2 hW _ _ _ _ _ h
theorem cf_Face_told_82 {W : Nat → Prop} (hW : gb_sc W) {n : Nat} {σ0 : gb_S} {σ : gb_S} {v3 : Int32} {v4 : Nat} {v5 : Nat} (h : gb_fs W σ0 σ) : gb_pf W σ0 (cs_Face_told_82 n σ v3 v4 v5) := by
  unfold cs_Face_told_82
  refine pf_kk (fun ck_v4 => ?_)
  refine pf_kk (fun ck_v5 => ?_)
  refine pf_cd (cf_Flocks_findWays_B_D hW h) (fun s_28 _ hs_28 => ?_)
  refine pf_cd (cf_Flocks_allWays hW hs_28) (fun s_32 r_33 hs_32 => ?_)
  refine pf_if ?_ ?_
  · exact pf_some hs_32
  · refine pf_if ?_ ?_
    · refine pf_cd (cf_Flocks_fewestGone hW hs_32) (fun s_38 r_39 hs_38 => ?_)
      exact pf_some hs_38
    · refine pf_if ?_ ?_
      · refine pf_cd (cf_Flocks_mostGone hW hs_32) (fun s_43 r_44 hs_43 => ?_)
        exact pf_some hs_43
      · refine pf_if ?_ ?_
        · refine pf_cd (cf_Flocks_sureOnes hW hs_32) (fun s_48 r_49 hs_48 => ?_)
          exact pf_some hs_48
        · refine pf_cd (cf_Flocks_pathsInAnyWay_B_D hW hs_32) (fun s_52 r_53 hs_52 => ?_)
          exact pf_some hs_52
theorem cf_Face_told_63 {W : Nat → Prop} (hW : gb_sc W) {n : Nat} {σ0 : gb_S} {σ : gb_S} {v3 : Int32} {v4 : Nat} {v5 : Nat} {t0 : Int32} (h : gb_fs W σ0 σ) : gb_pf W σ0 (cs_Face_told_63 n σ v3 v4 v5 t0) := by
  unfold cs_Face_told_63
  refine pf_kk (fun ck_v4 => ?_)
  refine pf_kk (fun ck_v5 => ?_)
  refine pf_if ?_ ?_
  · refine pf_if ?_ ?_
    · exact pf_some h
    · refine pf_if ?_ ?_
      · exact cf_Face_told_82 hW h
      · exact pf_some h
  · exact cf_Face_told_82 hW h
theorem cf_Face_told_62 {W : Nat → Prop} (hW : gb_sc W) {n : Nat} {σ0 : gb_S} {σ : gb_S} {v3 : Int32} {v4 : Nat} {v5 : Nat} (h : gb_fs W σ0 σ) : gb_pf W σ0 (cs_Face_told_62 n σ v3 v4 v5) := by
  unfold cs_Face_told_62
  refine pf_kk (fun ck_v4 => ?_)
  refine pf_kk (fun ck_v5 => ?_)
  exact cf_Face_told_63 hW h
theorem cf_Face_told {W : Nat → Prop} (hW : gb_sc W) {n : Nat} {σ0 : gb_S} {σ : gb_S} {p1 : Int32} {p2 : Int32} {p3 : Int32} (h : gb_fs W σ0 σ) : gb_pf W σ0 (cs_Face_told n σ p1 p2 p3) := by
  unfold cs_Face_told
  refine pf_cd (cf_Face_borderAt hW h) (fun s_1 r_2 hs_1 => ?_)
  refine pf_if ?_ ?_
  · refine pf_cd (cf_Face_dawnAt hW hs_1) (fun s_6 r_7 hs_6 => ?_)
    refine pf_if ?_ ?_
    · exact pf_some hs_6
    · refine pf_kk (fun ck_r_7 => ?_)
      exact pf_some hs_6
  · refine pf_kk (fun ck_r_2 => ?_)
    refine pf_cd (cf_Face_dawnAt hW hs_1) (fun s_13 r_14 hs_13 => ?_)
    refine pf_if ?_ ?_
    · exact pf_some hs_13
    · refine pf_kk (fun ck_r_14 => ?_)
      refine pf_if ?_ ?_
      · refine pf_cd (cf_Face_toeOf_B_D hW hs_13) (fun s_63 r_64 hs_63 => ?_)
        exact pf_some hs_63
      · refine pf_if ?_ ?_
        · exact cf_Face_told_62 hW hs_13
        · refine pf_cd (cf_Border_hasGoose_B hW hs_13) (fun s_58 r_59 hs_58 => ?_)
          refine pf_if ?_ ?_
          · exact cf_Face_told_62 hW hs_58
          · exact cf_Face_told_63 hW hs_58
theorem cf_Face_isDrawnOf_B_9 {W : Nat → Prop} (hW : gb_sc W) {n : Nat} {σ0 : gb_S} {σ : gb_S} {v0 : Nat} {v1 : Int32} (h : gb_fs W σ0 σ) : gb_pf W σ0 (cs_Face_isDrawnOf_B_9 n σ v0 v1) := by
  unfold cs_Face_isDrawnOf_B_9
  refine pf_kk (fun ck_v0 => ?_)
  refine pf_if ?_ ?_
  · refine pf_if ?_ ?_
    · exact pf_some h
    · refine pf_cd (cf_Border_hasGoose_B hW h) (fun s_6 r_7 hs_6 => ?_)
      refine pf_if ?_ ?_
      · exact pf_some hs_6
      · exact pf_some hs_6
  · refine pf_if ?_ ?_
    · refine pf_if ?_ ?_
      · exact pf_some h
      · refine pf_cd (cf_Border_hasGoose_B hW h) (fun s_13 r_14 hs_13 => ?_)
        refine pf_if ?_ ?_
        · exact pf_some hs_13
        · exact pf_some hs_13
    · refine pf_cd (cf_Border_hasPath_B hW h) (fun s_18 r_19 hs_18 => ?_)
      refine pf_if ?_ ?_
      · refine pf_if ?_ ?_
        · exact pf_some hs_18
        · refine pf_cd (cf_Border_hasGoose_B hW hs_18) (fun s_24 r_25 hs_24 => ?_)
          refine pf_if ?_ ?_
          · exact pf_some hs_24
          · exact pf_some hs_24
      · exact pf_some hs_18
theorem cf_Face_isDrawnOf_B {W : Nat → Prop} (hW : gb_sc W) {n : Nat} {σ0 : gb_S} {σ : gb_S} {p1 : Nat} {p2 : Int32} (h : gb_fs W σ0 σ) : gb_pf W σ0 (cs_Face_isDrawnOf_B n σ p1 p2) := by
  unfold cs_Face_isDrawnOf_B
  refine pf_kk (fun ck_p1 => ?_)
  refine pf_if ?_ ?_
  · exact cf_Face_isDrawnOf_B_9 hW h
  · refine pf_if ?_ ?_
    · exact pf_some h
    · exact cf_Face_isDrawnOf_B_9 hW h
theorem cf_Face_numberBelow {W : Nat → Prop} (hW : gb_sc W) {n : Nat} {σ0 : gb_S} {σ : gb_S} {p1 : Int32} (hw_0 : W 0) (h : gb_fs W σ0 σ) : gb_pf W σ0 (cs_Face_numberBelow n σ p1) := by
  unfold cs_Face_numberBelow
  refine pf_ltS (fs_su hW.1 h) (fun s_1 hs_1 => ?_)
  refine pf_if ?_ ?_
  · exact pf_some hs_1
  · refine pf_nz ?_
    refine pf_ltE ?_
    exact pf_some hs_1
theorem cf_Play_allTallies_4 {W : Nat → Prop} (hW : gb_sc W) {n : Nat} {σ0 : gb_S} : ∀ (mm : Nat) (σ : gb_S) (v1 : Int32) (v2 : Int32), gb_fs W σ0 σ → gb_pf W σ0 (cs_Play_allTallies_4 n mm σ v1 v2) := by
  intro mm
  induction mm with
  | zero =>
    intros
    exact pf_none
  | succ mm ih =>
    intro σ v1 v2  h
    unfold cs_Play_allTallies_4
    refine pf_kk (fun _ => ?_)
    refine pf_cd (cf_Border_paths_B hW h) (fun s_2 r_3 hs_2 => ?_)
    refine pf_if ?_ ?_
    · exact pf_some hs_2
    · refine pf_cd (cf_Play_tally hW hs_2) (fun s_7 r_8 hs_7 => ?_)
      refine pf_ltE ?_
      refine pf_ltE ?_
      exact ih _ _ _ hs_7
theorem cf_Play_allTallies {W : Nat → Prop} (hW : gb_sc W) {n : Nat} {σ0 : gb_S} {σ : gb_S} (h : gb_fs W σ0 σ) : gb_pf W σ0 (cs_Play_allTallies n σ) := by
  unfold cs_Play_allTallies
  exact cf_Play_allTallies_4 hW _ _ _ _ h
theorem cf_Face_drawnNight_B_70 {W : Nat → Prop} (hW : gb_sc W) {n : Nat} {σ0 : gb_S} : ∀ (mm : Nat) (σ : gb_S) (v1 : Nat) (v2 : Int32) (v3 : Int32) (v4 : Int32), W 0 → gb_fs W σ0 σ → gb_pf W σ0 (cs_Face_drawnNight_B_70 n mm σ v1 v2 v3 v4) := by
  intro mm
  induction mm with
  | zero =>
    intros
    exact pf_none
  | succ mm ih =>
    intro σ v1 v2 v3 v4 hw_0 h
    unfold cs_Face_drawnNight_B_70
    refine pf_kk (fun ck_v1 => ?_)
    refine pf_cd (cf_Border_paths_B hW h) (fun s_21 r_22 hs_21 => ?_)
    refine pf_if ?_ ?_
    · refine pf_if ?_ ?_
      · refine pf_cd (cf_Play_allTallies hW hs_21) (fun s_27 r_28 hs_27 => ?_)
        exact pf_some hs_27
      · refine pf_if ?_ ?_
        · refine pf_cd (cf_Play_allPay hW hs_21) (fun s_32 r_33 hs_32 => ?_)
          exact pf_some hs_32
        · refine pf_if ?_ ?_
          · exact pf_some hs_21
          · refine pf_if ?_ ?_
            · refine pf_ck ?_
              refine pf_ltV (fun x_39 => ?_)
              exact pf_some hs_21
            · refine pf_cd (cf_Play_tally hW hs_21) (fun s_40 r_41 hs_40 => ?_)
              exact pf_some hs_40
    · refine pf_cd (cf_Face_numberBelow hW hW.1 hs_21) (fun s_44 r_45 hs_44 => ?_)
      refine pf_cd (cf_Border_pad_B hW hs_44) (fun s_48 r_49 hs_48 => ?_)
      refine pf_if ?_ ?_
      · refine pf_ltE ?_
        exact ih _ _ _ _ _ hW.1 hs_48
      · refine pf_ltE ?_
        refine pf_ltE ?_
        exact ih _ _ _ _ _ hW.1 hs_48
theorem cf_Face_drawnNight_B_10 {W : Nat → Prop} (hW : gb_sc W) {n : Nat} {σ0 : gb_S} : ∀ (mm : Nat) (σ : gb_S) (v1 : Nat) (v2 : Int32) (v3 : Int32), W 0 → gb_fs W σ0 σ → gb_pf W σ0 (cs_Face_drawnNight_B_10 n mm σ v1 v2 v3) := by
  intro mm
  induction mm with
  | zero =>
    intros
    exact pf_none
  | succ mm ih =>
    intro σ v1 v2 v3 hw_0 h
    unfold cs_Face_drawnNight_B_10
    refine pf_kk (fun ck_v1 => ?_)
    refine pf_cd (cf_Border_geese_B hW h) (fun s_7 r_8 hs_7 => ?_)
    refine pf_if ?_ ?_
    · refine pf_cd (cf_Face_numberBelow hW hW.1 hs_7) (fun s_12 r_13 hs_12 => ?_)
      refine pf_cd (cf_Play_rainDown hW hs_12) (fun s_16 _ hs_16 => ?_)
      exact cf_Face_drawnNight_B_70 hW _ _ _ _ _ _ hW.1 hs_16
    · refine pf_cd (cf_Border_paths_B hW hs_7) (fun s_56 r_57 hs_56 => ?_)
      refine pf_cd (cf_Face_numberBelow hW hW.1 hs_56) (fun s_60 r_61 hs_60 => ?_)
      refine pf_cd (cf_Play_go_c116 hW hs_60) (fun s_64 _ hs_64 => ?_)
      refine pf_ltE ?_
      exact ih _ _ _ _ hW.1 hs_64
theorem cf_Face_drawnNight_B {W : Nat → Prop} (hW : gb_sc W) {n : Nat} {σ0 : gb_S} {σ : gb_S} {p1 : Nat} {p2 : Int32} (hw_0 : W 0) (h : gb_fs W σ0 σ) : gb_pf W σ0 (cs_Face_drawnNight_B n σ p1 p2) := by
  unfold cs_Face_drawnNight_B
  refine pf_kk (fun ck_p1 => ?_)
  refine pf_cd (cf_Play_begin_B hW h) (fun s_2 _ hs_2 => ?_)
  exact cf_Face_drawnNight_B_10 hW _ _ _ _ _ hW.1 hs_2
theorem cf_Face_drawn_54 {W : Nat → Prop} (hW : gb_sc W) {n : Nat} {σ0 : gb_S} : ∀ (mm : Nat) (σ : gb_S) (v3 : Int32) (v4 : Int32) (v5 : Nat) (v6 : Int32) (v7 : Int32), W 0 → gb_fs W σ0 σ → gb_pf W σ0 (cs_Face_drawn_54 n mm σ v3 v4 v5 v6 v7) := by
  intro mm
  induction mm with
  | zero =>
    intros
    exact pf_none
  | succ mm ih =>
    intro σ v3 v4 v5 v6 v7 hw_0 h
    unfold cs_Face_drawn_54
    refine pf_kk (fun ck_v5 => ?_)
    refine pf_if ?_ ?_
    · exact pf_some h
    · refine pf_cd (cf_Face_drawnNight_B hW hW.1 h) (fun s_22 r_23 hs_22 => ?_)
      refine pf_ltE ?_
      refine pf_ltE ?_
      exact ih _ _ _ _ _ _ hW.1 hs_22
theorem cf_Face_drawn {W : Nat → Prop} (hW : gb_sc W) {n : Nat} {σ0 : gb_S} {σ : gb_S} {p1 : Int32} {p2 : Int32} {p3 : Int32} {p4 : Int32} (hw_0 : W 0) (h : gb_fs W σ0 σ) : gb_pf W σ0 (cs_Face_drawn n σ p1 p2 p3 p4) := by
  unfold cs_Face_drawn
  refine pf_cd (cf_Face_borderAt hW h) (fun s_1 r_2 hs_1 => ?_)
  refine pf_if ?_ ?_
  · exact pf_some hs_1
  · refine pf_kk (fun ck_r_2 => ?_)
    refine pf_cd (cf_Border_paths_B hW hs_1) (fun s_7 r_8 hs_7 => ?_)
    refine pf_if ?_ ?_
    · exact pf_some hs_7
    · refine pf_if ?_ ?_
      · exact pf_some hs_7
      · refine pf_if ?_ ?_
        · exact pf_some hs_7
        · refine pf_cd (cf_Face_isDrawnOf_B hW hs_7) (fun s_14 r_15 hs_14 => ?_)
          refine pf_if ?_ ?_
          · exact pf_some hs_14
          · refine pf_ltS (fs_su hW.1 hs_14) (fun s_19 hs_19 => ?_)
            exact cf_Face_drawn_54 hW _ _ _ _ _ _ _ hW.1 hs_19
theorem cf_Reader_wordOf {W : Nat → Prop} (hW : gb_sc W) {n : Nat} {σ0 : gb_S} {σ : gb_S} {p1 : Int32} (h : gb_fs W σ0 σ) : gb_pf W σ0 (cs_Reader_wordOf n σ p1) := by
  unfold cs_Reader_wordOf
  refine pf_if ?_ ?_
  · exact pf_some h
  · refine pf_if ?_ ?_
    · exact pf_some h
    · refine pf_if ?_ ?_
      · exact pf_some h
      · refine pf_if ?_ ?_
        · exact pf_some h
        · refine pf_if ?_ ?_
          · exact pf_some h
          · refine pf_if ?_ ?_
            · exact pf_some h
            · refine pf_if ?_ ?_
              · exact pf_some h
              · refine pf_if ?_ ?_
                · exact pf_some h
                · refine pf_if ?_ ?_
                  · exact pf_some h
                  · refine pf_if ?_ ?_
                    · exact pf_some h
                    · refine pf_if ?_ ?_
                      · exact pf_some h
                      · refine pf_if ?_ ?_
                        · exact pf_some h
                        · refine pf_if ?_ ?_
                          · exact pf_some h
                          · refine pf_if ?_ ?_
                            · exact pf_some h
                            · refine pf_if ?_ ?_
                              · exact pf_some h
                              · refine pf_if ?_ ?_
                                · exact pf_some h
                                · refine pf_if ?_ ?_
                                  · exact pf_some h
                                  · exact pf_some h
theorem cf_java_lang_String_coder_W {W : Nat → Prop} (hW : gb_sc W) {n : Nat} {σ0 : gb_S} {σ : gb_S} {k0 : Nat} (h : gb_fs W σ0 σ) : gb_pf W σ0 (cs_java_lang_String_coder_W n σ k0) := by
  unfold cs_java_lang_String_coder_W
  refine pf_kk (fun ck_k0 => ?_)
  refine pf_if ?_ ?_
  · exact pf_some h
  · exact pf_some h
theorem cf_java_lang_String_length_W {W : Nat → Prop} (hW : gb_sc W) {n : Nat} {σ0 : gb_S} {σ : gb_S} {k0 : Nat} (h : gb_fs W σ0 σ) : gb_pf W σ0 (cs_java_lang_String_length_W n σ k0) := by
  unfold cs_java_lang_String_length_W
  refine pf_kk (fun ck_k0 => ?_)
  refine pf_cd (cf_java_lang_String_coder_W hW h) (fun s_2 r_3 hs_2 => ?_)
  exact pf_some hs_2
theorem cf_java_lang_String_isLatin1_W {W : Nat → Prop} (hW : gb_sc W) {n : Nat} {σ0 : gb_S} {σ : gb_S} {k0 : Nat} (h : gb_fs W σ0 σ) : gb_pf W σ0 (cs_java_lang_String_isLatin1_W n σ k0) := by
  unfold cs_java_lang_String_isLatin1_W
  refine pf_kk (fun ck_k0 => ?_)
  refine pf_if ?_ ?_
  · exact pf_some h
  · refine pf_if ?_ ?_
    · exact pf_some h
    · exact pf_some h
theorem cf_jdk_internal_util_Preconditions_checkIndex_n {W : Nat → Prop} (hW : gb_sc W) {n : Nat} {σ0 : gb_S} {σ : gb_S} {p1 : Int32} {p2 : Int32} (h : gb_fs W σ0 σ) : gb_pf W σ0 (cs_jdk_internal_util_Preconditions_checkIndex_n n σ p1 p2) := by
  unfold cs_jdk_internal_util_Preconditions_checkIndex_n
  refine pf_if ?_ ?_
  · exact pf_none
  · refine pf_if ?_ ?_
    · exact pf_some h
    · exact pf_none
theorem cf_java_lang_String_checkIndex {W : Nat → Prop} (hW : gb_sc W) {n : Nat} {σ0 : gb_S} {σ : gb_S} {p1 : Int32} {p2 : Int32} (h : gb_fs W σ0 σ) : gb_pf W σ0 (cs_java_lang_String_checkIndex n σ p1 p2) := by
  unfold cs_java_lang_String_checkIndex
  refine pf_cd (cf_jdk_internal_util_Preconditions_checkIndex_n hW h) (fun s_1 r_2 hs_1 => ?_)
  exact pf_some hs_1
theorem cf_java_lang_StringLatin1_charAt_V {W : Nat → Prop} (hW : gb_sc W) {n : Nat} {σ0 : gb_S} {σ : gb_S} {p1 : Nat} {p2 : Int32} (h : gb_fs W σ0 σ) : gb_pf W σ0 (cs_java_lang_StringLatin1_charAt_V n σ p1 p2) := by
  unfold cs_java_lang_StringLatin1_charAt_V
  refine pf_kk (fun ck_p1 => ?_)
  refine pf_cd (cf_java_lang_String_checkIndex hW h) (fun s_2 _ hs_2 => ?_)
  refine pf_ck ?_
  exact pf_some hs_2
theorem cf_java_lang_String_charAt_W {W : Nat → Prop} (hW : gb_sc W) {n : Nat} {σ0 : gb_S} {σ : gb_S} {k0 : Nat} {p1 : Int32} (h : gb_fs W σ0 σ) : gb_pf W σ0 (cs_java_lang_String_charAt_W n σ k0 p1) := by
  unfold cs_java_lang_String_charAt_W
  refine pf_kk (fun ck_k0 => ?_)
  refine pf_cd (cf_java_lang_String_isLatin1_W hW h) (fun s_2 r_3 hs_2 => ?_)
  refine pf_if ?_ ?_
  · exact pf_none
  · refine pf_cd (cf_java_lang_StringLatin1_charAt_V hW hs_2) (fun s_7 r_8 hs_7 => ?_)
    refine pf_cc ?_
    exact pf_some hs_7
theorem cf_Reader_isWord_W_17 {W : Nat → Prop} (hW : gb_sc W) {n : Nat} {σ0 : gb_S} : ∀ (mm : Nat) (σ : gb_S) (v1 : Nat) (v3 : Int32), gb_fs W σ0 σ → gb_pf W σ0 (cs_Reader_isWord_W_17 n mm σ v1 v3) := by
  intro mm
  induction mm with
  | zero =>
    intros
    exact pf_none
  | succ mm ih =>
    intro σ v1 v3  h
    unfold cs_Reader_isWord_W_17
    refine pf_kk (fun ck_v1 => ?_)
    refine pf_cd (cf_java_lang_String_length_W hW h) (fun s_8 r_9 hs_8 => ?_)
    refine pf_if ?_ ?_
    · exact pf_some hs_8
    · refine pf_kk (fun _ => ?_)
      refine pf_ck ?_
      refine pf_ltV (fun x_15 => ?_)
      refine pf_cd (cf_java_lang_String_charAt_W hW hs_8) (fun s_16 r_17 hs_16 => ?_)
      refine pf_if ?_ ?_
      · refine pf_ltE ?_
        exact ih _ _ _ hs_16
      · exact pf_some hs_16
theorem cf_Reader_isWord_W {W : Nat → Prop} (hW : gb_sc W) {n : Nat} {σ0 : gb_S} {σ : gb_S} {p1 : Nat} {p2 : Int32} (h : gb_fs W σ0 σ) : gb_pf W σ0 (cs_Reader_isWord_W n σ p1 p2) := by
  unfold cs_Reader_isWord_W
  refine pf_kk (fun ck_p1 => ?_)
  refine pf_cd (cf_java_lang_String_length_W hW h) (fun s_2 r_3 hs_2 => ?_)
  refine pf_if ?_ ?_
  · exact cf_Reader_isWord_W_17 hW _ _ _ _ hs_2
  · exact pf_some hs_2
theorem cf_Reader_takeWord_47 {W : Nat → Prop} (hW : gb_sc W) {n : Nat} {σ0 : gb_S} : ∀ (mm : Nat) (σ : gb_S) (v1 : Int32) (v2 : Int32) (v3 : Int32), gb_fs W σ0 σ → gb_pf W σ0 (cs_Reader_takeWord_47 n mm σ v1 v2 v3) := by
  intro mm
  induction mm with
  | zero =>
    intros
    exact pf_none
  | succ mm ih =>
    intro σ v1 v2 v3  h
    unfold cs_Reader_takeWord_47
    refine pf_ck ?_
    refine pf_ltV (fun x_6 => ?_)
    refine pf_if ?_ ?_
    · exact pf_some h
    · refine pf_cd (cf_Reader_wordOf hW h) (fun s_8 r_9 hs_8 => ?_)
      refine pf_kk (fun ck_r_9 => ?_)
      refine pf_cd (cf_Reader_isWord_W hW hs_8) (fun s_13 r_14 hs_13 => ?_)
      refine pf_if ?_ ?_
      · refine pf_ltE ?_
        exact ih _ _ _ _ hs_13
      · refine pf_ltS (fs_su (hW.2 _ (by decide)) hs_13) (fun s_19 hs_19 => ?_)
        exact pf_some hs_19
theorem cf_Reader_takeWord_5 {W : Nat → Prop} (hW : gb_sc W) {n : Nat} {σ0 : gb_S} : ∀ (mm : Nat) (σ : gb_S) (v1 : Int32) (v2 : Int32), gb_fs W σ0 σ → gb_pf W σ0 (cs_Reader_takeWord_5 n mm σ v1 v2) := by
  intro mm
  induction mm with
  | zero =>
    intros
    exact pf_none
  | succ mm ih =>
    intro σ v1 v2  h
    unfold cs_Reader_takeWord_5
    refine pf_if ?_ ?_
    · refine pf_ck ?_
      refine pf_ltV (fun x_4 => ?_)
      exact cf_Reader_takeWord_47 hW _ _ _ _ _ h
    · refine pf_kk (fun _ => ?_)
      refine pf_ck ?_
      refine pf_ltV (fun x_22 => ?_)
      refine pf_if ?_ ?_
      · refine pf_ck ?_
        refine pf_ltV (fun x_25 => ?_)
        exact cf_Reader_takeWord_47 hW _ _ _ _ _ h
      · refine pf_kk (fun _ => ?_)
        refine pf_ck ?_
        refine pf_ltV (fun x_28 => ?_)
        refine pf_if ?_ ?_
        · refine pf_ck ?_
          refine pf_ltV (fun x_31 => ?_)
          exact cf_Reader_takeWord_47 hW _ _ _ _ _ h
        · refine pf_ltE ?_
          exact ih _ _ _ h
theorem cf_Reader_takeWord {W : Nat → Prop} (hW : gb_sc W) {n : Nat} {σ0 : gb_S} {σ : gb_S} {p1 : Int32} (h : gb_fs W σ0 σ) : gb_pf W σ0 (cs_Reader_takeWord n σ p1) := by
  unfold cs_Reader_takeWord
  refine pf_ltV (fun x_1 => ?_)
  exact cf_Reader_takeWord_5 hW _ _ _ _ h
theorem cf_Border_addLine_B_c107 {W : Nat → Prop} (hW : gb_sc W) {n : Nat} {σ0 : gb_S} {σ : gb_S} {k0 : Nat} {p1 : Int32} (hw_k0_1 : W (k0 + 1)) (h : gb_fs W σ0 σ) : gb_pf W σ0 (cs_Border_addLine_B_c107 n σ k0 p1) := by
  unfold cs_Border_addLine_B_c107
  refine pf_kk (fun ck_k0 => ?_)
  refine pf_cd (cf_Border_hasRoomFor_B hW h) (fun s_2 r_3 hs_2 => ?_)
  refine pf_if ?_ ?_
  · exact pf_some hs_2
  · refine pf_if ?_ ?_
    · refine pf_ltV (fun x_26 => ?_)
      refine pf_ltS (fs_su hw_k0_1 hs_2) (fun s_27 hs_27 => ?_)
      exact pf_some hs_27
    · refine pf_if ?_ ?_
      · refine pf_cd (cf_Border_paths_B hW hs_2) (fun s_18 r_19 hs_18 => ?_)
        refine pf_ac ?_
        refine pf_ltS (fs_su hw_k0_1 hs_18) (fun s_23 hs_23 => ?_)
        refine pf_ltV (fun x_24 => ?_)
        refine pf_ltS (fs_su hw_k0_1 hs_23) (fun s_25 hs_25 => ?_)
        exact pf_some hs_25
      · refine pf_if ?_ ?_
        · refine pf_cd (cf_Border_geese_B hW hs_2) (fun s_10 r_11 hs_10 => ?_)
          refine pf_ac ?_
          refine pf_ltS (fs_su hw_k0_1 hs_10) (fun s_15 hs_15 => ?_)
          refine pf_ltV (fun x_16 => ?_)
          refine pf_ltS (fs_su hw_k0_1 hs_15) (fun s_17 hs_17 => ?_)
          exact pf_some hs_17
        · exact pf_some hs_2
theorem cf_Lines_hasRoomFor_N {W : Nat → Prop} (hW : gb_sc W) {n : Nat} {σ0 : gb_S} {σ : gb_S} {k0 : Nat} {p1 : Int32} (h : gb_fs W σ0 σ) : gb_pf W σ0 (cs_Lines_hasRoomFor_N n σ k0 p1) := by
  unfold cs_Lines_hasRoomFor_N
  refine pf_kk (fun ck_k0 => ?_)
  refine pf_cd (cf_Lines_size_N hW h) (fun s_2 r_3 hs_2 => ?_)
  refine pf_if ?_ ?_
  · exact pf_some hs_2
  · exact pf_some hs_2
theorem cf_Lines_addLine_N_c107_48 {W : Nat → Prop} (hW : gb_sc W) {n : Nat} {σ0 : gb_S} : ∀ (mm : Nat) (σ : gb_S) (v0 : Nat) (v1 : Int32) (v3 : Int32) (v4 : Int32), W (v0 + 1) → gb_fs W σ0 σ → gb_pf W σ0 (cs_Lines_addLine_N_c107_48 n mm σ v0 v1 v3 v4) := by
  intro mm
  induction mm with
  | zero =>
    intros
    exact pf_none
  | succ mm ih =>
    intro σ v0 v1 v3 v4 hw_v0_1 h
    unfold cs_Lines_addLine_N_c107_48
    refine pf_kk (fun ck_v0 => ?_)
    refine pf_if ?_ ?_
    · refine pf_ltV (fun x_18 => ?_)
      refine pf_ltS (fs_su hw_v0_1 h) (fun s_19 hs_19 => ?_)
      exact pf_some hs_19
    · refine pf_ck ?_
      refine pf_ltV (fun x_21 => ?_)
      refine pf_if ?_ ?_
      · refine pf_ck ?_
        refine pf_ltS (fs_su hw_v0_1 h) (fun s_24 hs_24 => ?_)
        refine pf_ltE ?_
        exact ih _ _ _ _ _ hw_v0_1 hs_24
      · refine pf_ck ?_
        refine pf_ltV (fun x_27 => ?_)
        refine pf_ck ?_
        refine pf_ltS (fs_su hw_v0_1 h) (fun s_29 hs_29 => ?_)
        refine pf_ltE ?_
        exact ih _ _ _ _ _ hw_v0_1 hs_29
theorem cf_Lines_addLine_N_c107 {W : Nat → Prop} (hW : gb_sc W) {n : Nat} {σ0 : gb_S} {σ : gb_S} {k0 : Nat} {p1 : Int32} (hw_k0_1 : W (k0 + 1)) (h : gb_fs W σ0 σ) : gb_pf W σ0 (cs_Lines_addLine_N_c107 n σ k0 p1) := by
  unfold cs_Lines_addLine_N_c107
  refine pf_kk (fun ck_k0 => ?_)
  refine pf_cd (cf_Lines_hasRoomFor_N hW h) (fun s_2 r_3 hs_2 => ?_)
  refine pf_if ?_ ?_
  · exact pf_some hs_2
  · refine pf_if ?_ ?_
    · exact pf_some hs_2
    · refine pf_if ?_ ?_
      · refine pf_cd (cf_Lines_size_N hW hs_2) (fun s_9 r_10 hs_9 => ?_)
        refine pf_ltE ?_
        refine pf_ck ?_
        refine pf_ltS (fs_su hw_k0_1 hs_9) (fun s_15 hs_15 => ?_)
        exact cf_Lines_addLine_N_c107_48 hW _ _ _ _ _ _ hw_k0_1 hs_15
      · exact pf_some hs_2
theorem cf_Lines_hasRoomFor_L {W : Nat → Prop} (hW : gb_sc W) {n : Nat} {σ0 : gb_S} {σ : gb_S} {k0 : Nat} {p1 : Int32} (h : gb_fs W σ0 σ) : gb_pf W σ0 (cs_Lines_hasRoomFor_L n σ k0 p1) := by
  unfold cs_Lines_hasRoomFor_L
  refine pf_kk (fun ck_k0 => ?_)
  refine pf_cd (cf_Lines_size_L hW h) (fun s_2 r_3 hs_2 => ?_)
  refine pf_if ?_ ?_
  · exact pf_some hs_2
  · exact pf_some hs_2
theorem cf_Lines_addLine_L_c107_48 {W : Nat → Prop} (hW : gb_sc W) {n : Nat} {σ0 : gb_S} : ∀ (mm : Nat) (σ : gb_S) (v0 : Nat) (v1 : Int32) (v3 : Int32) (v4 : Int32), W (v0 + 1) → gb_fs W σ0 σ → gb_pf W σ0 (cs_Lines_addLine_L_c107_48 n mm σ v0 v1 v3 v4) := by
  intro mm
  induction mm with
  | zero =>
    intros
    exact pf_none
  | succ mm ih =>
    intro σ v0 v1 v3 v4 hw_v0_1 h
    unfold cs_Lines_addLine_L_c107_48
    refine pf_kk (fun ck_v0 => ?_)
    refine pf_if ?_ ?_
    · refine pf_ltV (fun x_18 => ?_)
      refine pf_ltS (fs_su hw_v0_1 h) (fun s_19 hs_19 => ?_)
      exact pf_some hs_19
    · refine pf_ck ?_
      refine pf_ltV (fun x_21 => ?_)
      refine pf_if ?_ ?_
      · refine pf_ck ?_
        refine pf_ltS (fs_su hw_v0_1 h) (fun s_24 hs_24 => ?_)
        refine pf_ltE ?_
        exact ih _ _ _ _ _ hw_v0_1 hs_24
      · refine pf_ck ?_
        refine pf_ltV (fun x_27 => ?_)
        refine pf_ck ?_
        refine pf_ltS (fs_su hw_v0_1 h) (fun s_29 hs_29 => ?_)
        refine pf_ltE ?_
        exact ih _ _ _ _ _ hw_v0_1 hs_29
theorem cf_Lines_addLine_L_c107 {W : Nat → Prop} (hW : gb_sc W) {n : Nat} {σ0 : gb_S} {σ : gb_S} {k0 : Nat} {p1 : Int32} (hw_k0_1 : W (k0 + 1)) (h : gb_fs W σ0 σ) : gb_pf W σ0 (cs_Lines_addLine_L_c107 n σ k0 p1) := by
  unfold cs_Lines_addLine_L_c107
  refine pf_kk (fun ck_k0 => ?_)
  refine pf_cd (cf_Lines_hasRoomFor_L hW h) (fun s_2 r_3 hs_2 => ?_)
  refine pf_if ?_ ?_
  · exact pf_some hs_2
  · refine pf_if ?_ ?_
    · exact pf_some hs_2
    · refine pf_if ?_ ?_
      · refine pf_cd (cf_Lines_size_L hW hs_2) (fun s_9 r_10 hs_9 => ?_)
        refine pf_ltE ?_
        refine pf_ck ?_
        refine pf_ltS (fs_su hw_k0_1 hs_9) (fun s_15 hs_15 => ?_)
        exact cf_Lines_addLine_L_c107_48 hW _ _ _ _ _ _ hw_k0_1 hs_15
      · exact pf_some hs_2
theorem cf_Lines_hasRoomFor_D {W : Nat → Prop} (hW : gb_sc W) {n : Nat} {σ0 : gb_S} {σ : gb_S} {k0 : Nat} {p1 : Int32} (h : gb_fs W σ0 σ) : gb_pf W σ0 (cs_Lines_hasRoomFor_D n σ k0 p1) := by
  unfold cs_Lines_hasRoomFor_D
  refine pf_kk (fun ck_k0 => ?_)
  refine pf_cd (cf_Lines_size_D hW h) (fun s_2 r_3 hs_2 => ?_)
  refine pf_if ?_ ?_
  · exact pf_some hs_2
  · exact pf_some hs_2
theorem cf_Lines_addLine_D_c107_48 {W : Nat → Prop} (hW : gb_sc W) {n : Nat} {σ0 : gb_S} : ∀ (mm : Nat) (σ : gb_S) (v0 : Nat) (v1 : Int32) (v3 : Int32) (v4 : Int32), W (v0 + 1) → gb_fs W σ0 σ → gb_pf W σ0 (cs_Lines_addLine_D_c107_48 n mm σ v0 v1 v3 v4) := by
  intro mm
  induction mm with
  | zero =>
    intros
    exact pf_none
  | succ mm ih =>
    intro σ v0 v1 v3 v4 hw_v0_1 h
    unfold cs_Lines_addLine_D_c107_48
    refine pf_kk (fun ck_v0 => ?_)
    refine pf_if ?_ ?_
    · refine pf_ltV (fun x_18 => ?_)
      refine pf_ltS (fs_su hw_v0_1 h) (fun s_19 hs_19 => ?_)
      exact pf_some hs_19
    · refine pf_ck ?_
      refine pf_ltV (fun x_21 => ?_)
      refine pf_if ?_ ?_
      · refine pf_ck ?_
        refine pf_ltS (fs_su hw_v0_1 h) (fun s_24 hs_24 => ?_)
        refine pf_ltE ?_
        exact ih _ _ _ _ _ hw_v0_1 hs_24
      · refine pf_ck ?_
        refine pf_ltV (fun x_27 => ?_)
        refine pf_ck ?_
        refine pf_ltS (fs_su hw_v0_1 h) (fun s_29 hs_29 => ?_)
        refine pf_ltE ?_
        exact ih _ _ _ _ _ hw_v0_1 hs_29
theorem cf_Lines_addLine_D_c107 {W : Nat → Prop} (hW : gb_sc W) {n : Nat} {σ0 : gb_S} {σ : gb_S} {k0 : Nat} {p1 : Int32} (hw_k0_1 : W (k0 + 1)) (h : gb_fs W σ0 σ) : gb_pf W σ0 (cs_Lines_addLine_D_c107 n σ k0 p1) := by
  unfold cs_Lines_addLine_D_c107
  refine pf_kk (fun ck_k0 => ?_)
  refine pf_cd (cf_Lines_hasRoomFor_D hW h) (fun s_2 r_3 hs_2 => ?_)
  refine pf_if ?_ ?_
  · exact pf_some hs_2
  · refine pf_if ?_ ?_
    · exact pf_some hs_2
    · refine pf_if ?_ ?_
      · refine pf_cd (cf_Lines_size_D hW hs_2) (fun s_9 r_10 hs_9 => ?_)
        refine pf_ltE ?_
        refine pf_ck ?_
        refine pf_ltS (fs_su hw_k0_1 hs_9) (fun s_15 hs_15 => ?_)
        exact cf_Lines_addLine_D_c107_48 hW _ _ _ _ _ _ hw_k0_1 hs_15
      · exact pf_some hs_2
theorem cf_Reader_canBe_36 {W : Nat → Prop} (hW : gb_sc W) {n : Nat} {σ0 : gb_S} {σ : gb_S} {v1 : Int32} {v2 : Int32} {v3 : Int32} {t0 : Int32} (h : gb_fs W σ0 σ) : gb_pf W σ0 (cs_Reader_canBe_36 n σ v1 v2 v3 t0) := by
  unfold cs_Reader_canBe_36
  refine pf_if ?_ ?_
  · exact pf_some h
  · refine pf_ck ?_
    refine pf_ltV (fun x_5 => ?_)
    refine pf_if ?_ ?_
    · exact pf_some h
    · exact pf_some h
theorem cf_Reader_canBe_35 {W : Nat → Prop} (hW : gb_sc W) {n : Nat} {σ0 : gb_S} {σ : gb_S} {v1 : Int32} {v2 : Int32} {v3 : Int32} (h : gb_fs W σ0 σ) : gb_pf W σ0 (cs_Reader_canBe_35 n σ v1 v2 v3) := by
  unfold cs_Reader_canBe_35
  exact cf_Reader_canBe_36 hW h
theorem cf_Reader_canBe_23 {W : Nat → Prop} (hW : gb_sc W) {n : Nat} {σ0 : gb_S} {σ : gb_S} {v1 : Int32} {v2 : Int32} {v3 : Int32} (h : gb_fs W σ0 σ) : gb_pf W σ0 (cs_Reader_canBe_23 n σ v1 v2 v3) := by
  unfold cs_Reader_canBe_23
  refine pf_if ?_ ?_
  · refine pf_if ?_ ?_
    · exact cf_Reader_canBe_36 hW h
    · exact cf_Reader_canBe_35 hW h
  · exact cf_Reader_canBe_35 hW h
theorem cf_Reader_canBe {W : Nat → Prop} (hW : gb_sc W) {n : Nat} {σ0 : gb_S} {σ : gb_S} {p1 : Int32} {p2 : Int32} {p3 : Int32} (h : gb_fs W σ0 σ) : gb_pf W σ0 (cs_Reader_canBe n σ p1 p2 p3) := by
  unfold cs_Reader_canBe
  refine pf_if ?_ ?_
  · refine pf_if ?_ ?_
    · refine pf_ltV (fun x_9 => ?_)
      refine pf_if ?_ ?_
      · exact pf_some h
      · exact cf_Reader_canBe_23 hW h
    · exact cf_Reader_canBe_23 hW h
  · exact cf_Reader_canBe_23 hW h
theorem cf_Reader_takeNumber_61 {W : Nat → Prop} (hW : gb_sc W) {n : Nat} {σ0 : gb_S} {σ : gb_S} {v1 : Int32} {v2 : Int32} {v3 : Int32} {v4 : Int32} (h : gb_fs W σ0 σ) : gb_pf W σ0 (cs_Reader_takeNumber_61 n σ v1 v2 v3 v4) := by
  unfold cs_Reader_takeNumber_61
  refine pf_if ?_ ?_
  · exact pf_some h
  · refine pf_if ?_ ?_
    · refine pf_ck ?_
      refine pf_ltS (fs_su (hW.2 _ (by decide)) h) (fun s_6 hs_6 => ?_)
      refine pf_cd (cf_Reader_canBe hW hs_6) (fun s_7 r_8 hs_7 => ?_)
      refine pf_if ?_ ?_
      · refine pf_cd (cf_Reader_note hW hs_7) (fun s_13 _ hs_13 => ?_)
        refine pf_ltS (fs_su (hW.2 _ (by decide)) hs_13) (fun s_17 hs_17 => ?_)
        exact pf_some hs_17
      · refine pf_ltS (fs_su (hW.2 _ (by decide)) hs_7) (fun s_12 hs_12 => ?_)
        exact pf_some hs_12
    · exact pf_some h
theorem cf_Reader_takeNumber_8 {W : Nat → Prop} (hW : gb_sc W) {n : Nat} {σ0 : gb_S} : ∀ (mm : Nat) (σ : gb_S) (v1 : Int32) (v2 : Int32) (v3 : Int32) (v4 : Int32), gb_fs W σ0 σ → gb_pf W σ0 (cs_Reader_takeNumber_8 n mm σ v1 v2 v3 v4) := by
  intro mm
  induction mm with
  | zero =>
    intros
    exact pf_none
  | succ mm ih =>
    intro σ v1 v2 v3 v4  h
    unfold cs_Reader_takeNumber_8
    refine pf_if ?_ ?_
    · exact cf_Reader_takeNumber_61 hW h
    · refine pf_kk (fun _ => ?_)
      refine pf_ck ?_
      refine pf_ltV (fun x_20 => ?_)
      refine pf_if ?_ ?_
      · exact cf_Reader_takeNumber_61 hW h
      · refine pf_kk (fun _ => ?_)
        refine pf_ck ?_
        refine pf_ltV (fun x_24 => ?_)
        refine pf_if ?_ ?_
        · exact cf_Reader_takeNumber_61 hW h
        · refine pf_kk (fun _ => ?_)
          refine pf_ck ?_
          refine pf_ltV (fun x_28 => ?_)
          refine pf_ltE ?_
          refine pf_ltE ?_
          exact ih _ _ _ _ _ h
theorem cf_Reader_takeNumber {W : Nat → Prop} (hW : gb_sc W) {n : Nat} {σ0 : gb_S} {σ : gb_S} {p1 : Int32} {p2 : Int32} (h : gb_fs W σ0 σ) : gb_pf W σ0 (cs_Reader_takeNumber n σ p1 p2) := by
  unfold cs_Reader_takeNumber
  refine pf_ltV (fun x_1 => ?_)
  exact cf_Reader_takeNumber_8 hW _ _ _ _ _ _ h
theorem cf_Reader_readLine_S_38 {W : Nat → Prop} (hW : gb_sc W) {n : Nat} {σ0 : gb_S} : ∀ (mm : Nat) (σ : gb_S) (v2 : Nat) (v4 : Int32) (v5 : Int32), W (v2 + 1) → gb_fs W σ0 σ → gb_pf W σ0 (cs_Reader_readLine_S_38 n mm σ v2 v4 v5) := by
  intro mm
  induction mm with
  | zero =>
    intros
    exact pf_none
  | succ mm ih =>
    intro σ v2 v4 v5 hw_v2_1 h
    unfold cs_Reader_readLine_S_38
    refine pf_ck ?_
    refine pf_ltV (fun x_14 => ?_)
    refine pf_if ?_ ?_
    · refine pf_cd (cf_Reader_skipBlanks hW h) (fun s_16 _ hs_16 => ?_)
      refine pf_if ?_ ?_
      · exact pf_some hs_16
      · refine pf_kk (fun _ => ?_)
        refine pf_ck ?_
        refine pf_ltV (fun x_23 => ?_)
        refine pf_if ?_ ?_
        · refine pf_ltS (fs_su (hW.2 _ (by decide)) hs_16) (fun s_25 hs_25 => ?_)
          refine pf_if ?_ ?_
          · refine pf_cd (cf_Border_addLine_B_c107 hW hw_v2_1 hs_25) (fun s_27 _ hs_27 => ?_)
            exact pf_some hs_27
          · refine pf_if ?_ ?_
            · refine pf_cd (cf_Lines_addLine_N_c107 hW hw_v2_1 hs_25) (fun s_32 _ hs_32 => ?_)
              exact pf_some hs_32
            · refine pf_if ?_ ?_
              · refine pf_cd (cf_Lines_addLine_L_c107 hW hw_v2_1 hs_25) (fun s_37 _ hs_37 => ?_)
                exact pf_some hs_37
              · refine pf_if ?_ ?_
                · refine pf_cd (cf_Lines_addLine_D_c107 hW hw_v2_1 hs_25) (fun s_42 _ hs_42 => ?_)
                  exact pf_some hs_42
                · exact pf_none
        · exact pf_some hs_16
    · refine pf_cd (cf_Reader_skipBlanks hW h) (fun s_46 _ hs_46 => ?_)
      refine pf_cd (cf_Reader_takeNumber hW hs_46) (fun s_50 r_51 hs_50 => ?_)
      refine pf_if ?_ ?_
      · exact pf_some hs_50
      · refine pf_ltE ?_
        exact ih _ _ _ _ hw_v2_1 hs_50
theorem cf_Reader_readLine_S {W : Nat → Prop} (hW : gb_sc W) {n : Nat} {σ0 : gb_S} {σ : gb_S} {p1 : Int32} {p2 : Nat} (hw_p2_1 : W (p2 + 1)) (h : gb_fs W σ0 σ) : gb_pf W σ0 (cs_Reader_readLine_S n σ p1 p2) := by
  unfold cs_Reader_readLine_S
  refine pf_ltV (fun x_1 => ?_)
  refine pf_cd (cf_Reader_takeWord hW h) (fun s_2 r_3 hs_2 => ?_)
  refine pf_if ?_ ?_
  · exact pf_some hs_2
  · refine pf_if ?_ ?_
    · refine pf_cd (cf_Border_hasRoomFor_B hW hs_2) (fun s_8 r_9 hs_8 => ?_)
      refine pf_if ?_ ?_
      · refine pf_cd (cf_Reader_note hW hs_8) (fun s_56 _ hs_56 => ?_)
        exact cf_Reader_readLine_S_38 hW _ _ _ _ _ hw_p2_1 hs_56
      · exact cf_Reader_readLine_S_38 hW _ _ _ _ _ hw_p2_1 hs_8
    · refine pf_if ?_ ?_
      · refine pf_cd (cf_Lines_hasRoomFor_N hW hs_2) (fun s_61 r_62 hs_61 => ?_)
        refine pf_if ?_ ?_
        · refine pf_cd (cf_Reader_note hW hs_61) (fun s_66 _ hs_66 => ?_)
          exact cf_Reader_readLine_S_38 hW _ _ _ _ _ hw_p2_1 hs_66
        · exact cf_Reader_readLine_S_38 hW _ _ _ _ _ hw_p2_1 hs_61
      · refine pf_if ?_ ?_
        · refine pf_cd (cf_Lines_hasRoomFor_L hW hs_2) (fun s_71 r_72 hs_71 => ?_)
          refine pf_if ?_ ?_
          · refine pf_cd (cf_Reader_note hW hs_71) (fun s_76 _ hs_76 => ?_)
            exact cf_Reader_readLine_S_38 hW _ _ _ _ _ hw_p2_1 hs_76
          · exact cf_Reader_readLine_S_38 hW _ _ _ _ _ hw_p2_1 hs_71
        · refine pf_if ?_ ?_
          · refine pf_cd (cf_Lines_hasRoomFor_D hW hs_2) (fun s_81 r_82 hs_81 => ?_)
            refine pf_if ?_ ?_
            · refine pf_cd (cf_Reader_note hW hs_81) (fun s_86 _ hs_86 => ?_)
              exact cf_Reader_readLine_S_38 hW _ _ _ _ _ hw_p2_1 hs_86
            · exact cf_Reader_readLine_S_38 hW _ _ _ _ _ hw_p2_1 hs_81
          · exact pf_none
theorem cf_Lines_clear_N {W : Nat → Prop} (hW : gb_sc W) {n : Nat} {σ0 : gb_S} {σ : gb_S} {k0 : Nat} (hw_k0_1 : W (k0 + 1)) (h : gb_fs W σ0 σ) : gb_pf W σ0 (cs_Lines_clear_N n σ k0) := by
  unfold cs_Lines_clear_N
  refine pf_kk (fun ck_k0 => ?_)
  refine pf_ltS (fs_su hw_k0_1 h) (fun s_2 hs_2 => ?_)
  exact pf_some hs_2
theorem cf_Lines_clear_L {W : Nat → Prop} (hW : gb_sc W) {n : Nat} {σ0 : gb_S} {σ : gb_S} {k0 : Nat} (hw_k0_1 : W (k0 + 1)) (h : gb_fs W σ0 σ) : gb_pf W σ0 (cs_Lines_clear_L n σ k0) := by
  unfold cs_Lines_clear_L
  refine pf_kk (fun ck_k0 => ?_)
  refine pf_ltS (fs_su hw_k0_1 h) (fun s_2 hs_2 => ?_)
  exact pf_some hs_2
theorem cf_Lines_clear_D {W : Nat → Prop} (hW : gb_sc W) {n : Nat} {σ0 : gb_S} {σ : gb_S} {k0 : Nat} (hw_k0_1 : W (k0 + 1)) (h : gb_fs W σ0 σ) : gb_pf W σ0 (cs_Lines_clear_D n σ k0) := by
  unfold cs_Lines_clear_D
  refine pf_kk (fun ck_k0 => ?_)
  refine pf_ltS (fs_su hw_k0_1 h) (fun s_2 hs_2 => ?_)
  exact pf_some hs_2
theorem cf_Reader_read_c23_S_42 {W : Nat → Prop} (hW : gb_sc W) {n : Nat} {σ0 : gb_S} : ∀ (mm : Nat) (σ : gb_S) (v3 : Int32) (v4 : Nat) (v5 : Int32), W (v4 + 1) → gb_fs W σ0 σ → gb_pf W σ0 (cs_Reader_read_c23_S_42 n mm σ v3 v4 v5) := by
  intro mm
  induction mm with
  | zero =>
    intros
    exact pf_none
  | succ mm ih =>
    intro σ v3 v4 v5 hw_v4_1 h
    unfold cs_Reader_read_c23_S_42
    refine pf_if ?_ ?_
    · refine pf_if ?_ ?_
      · refine pf_if ?_ ?_
        · refine pf_cd (cf_Border_clashes_B hW h) (fun s_19 r_20 hs_19 => ?_)
          refine pf_if ?_ ?_
          · exact pf_some hs_19
          · refine pf_cd (cf_Reader_note hW hs_19) (fun s_24 _ hs_24 => ?_)
            exact pf_some hs_24
        · refine pf_if ?_ ?_
          · refine pf_cd (cf_Lines_clashes_N hW h) (fun s_29 r_30 hs_29 => ?_)
            refine pf_if ?_ ?_
            · exact pf_some hs_29
            · refine pf_cd (cf_Reader_note hW hs_29) (fun s_34 _ hs_34 => ?_)
              exact pf_some hs_34
          · refine pf_if ?_ ?_
            · refine pf_cd (cf_Lines_clashes_L hW h) (fun s_39 r_40 hs_39 => ?_)
              refine pf_if ?_ ?_
              · exact pf_some hs_39
              · refine pf_cd (cf_Reader_note hW hs_39) (fun s_44 _ hs_44 => ?_)
                exact pf_some hs_44
            · refine pf_if ?_ ?_
              · refine pf_cd (cf_Dawn_clashes_D hW h) (fun s_49 r_50 hs_49 => ?_)
                refine pf_if ?_ ?_
                · exact pf_some hs_49
                · refine pf_cd (cf_Reader_note hW hs_49) (fun s_54 _ hs_54 => ?_)
                  exact pf_some hs_54
              · exact pf_none
      · exact pf_some h
    · refine pf_if ?_ ?_
      · refine pf_if ?_ ?_
        · refine pf_if ?_ ?_
          · refine pf_cd (cf_Border_clashes_B hW h) (fun s_61 r_62 hs_61 => ?_)
            refine pf_if ?_ ?_
            · exact pf_some hs_61
            · refine pf_cd (cf_Reader_note hW hs_61) (fun s_66 _ hs_66 => ?_)
              exact pf_some hs_66
          · refine pf_if ?_ ?_
            · refine pf_cd (cf_Lines_clashes_N hW h) (fun s_71 r_72 hs_71 => ?_)
              refine pf_if ?_ ?_
              · exact pf_some hs_71
              · refine pf_cd (cf_Reader_note hW hs_71) (fun s_76 _ hs_76 => ?_)
                exact pf_some hs_76
            · refine pf_if ?_ ?_
              · refine pf_cd (cf_Lines_clashes_L hW h) (fun s_81 r_82 hs_81 => ?_)
                refine pf_if ?_ ?_
                · exact pf_some hs_81
                · refine pf_cd (cf_Reader_note hW hs_81) (fun s_86 _ hs_86 => ?_)
                  exact pf_some hs_86
              · refine pf_if ?_ ?_
                · refine pf_cd (cf_Dawn_clashes_D hW h) (fun s_91 r_92 hs_91 => ?_)
                  refine pf_if ?_ ?_
                  · exact pf_some hs_91
                  · refine pf_cd (cf_Reader_note hW hs_91) (fun s_96 _ hs_96 => ?_)
                    exact pf_some hs_96
                · exact pf_none
        · exact pf_some h
      · refine pf_cd (cf_Reader_readLine_S hW hw_v4_1 h) (fun s_100 r_101 hs_100 => ?_)
        refine pf_if ?_ ?_
        · refine pf_ltS (fs_su (hW.2 _ (by decide)) hs_100) (fun s_110 hs_110 => ?_)
          refine pf_ltS (fs_su (hW.2 _ (by decide)) hs_110) (fun s_111 hs_111 => ?_)
          exact pf_some hs_111
        · refine pf_cd (cf_Reader_skipBlanks hW hs_100) (fun s_105 _ hs_105 => ?_)
          refine pf_ltE ?_
          exact ih _ _ _ _ hw_v4_1 hs_105
theorem cf_Reader_read_c23_S {W : Nat → Prop} (hW : gb_sc W) {n : Nat} {σ0 : gb_S} {σ : gb_S} {p2 : Int32} {p3 : Int32} {p4 : Nat} (hw_p4_1 : W (p4 + 1)) (h : gb_fs W σ0 σ) : gb_pf W σ0 (cs_Reader_read_c23_S n σ p2 p3 p4) := by
  unfold cs_Reader_read_c23_S
  refine pf_ltS (fs_sq h) (fun s_1 hs_1 => ?_)
  refine pf_ltV (fun x_2 => ?_)
  refine pf_ltS (fs_su (hW.2 _ (by decide)) hs_1) (fun s_3 hs_3 => ?_)
  refine pf_ltS (fs_su (hW.2 _ (by decide)) hs_3) (fun s_4 hs_4 => ?_)
  refine pf_ltS (fs_su (hW.2 _ (by decide)) hs_4) (fun s_5 hs_5 => ?_)
  refine pf_ltS (fs_su (hW.2 _ (by decide)) hs_5) (fun s_6 hs_6 => ?_)
  refine pf_if ?_ ?_
  · refine pf_cd (cf_Border_clear_B hW hw_p4_1 hs_6) (fun s_8 _ hs_8 => ?_)
    refine pf_cd (cf_Reader_skipBlanks hW hs_8) (fun s_12 _ hs_12 => ?_)
    exact cf_Reader_read_c23_S_42 hW _ _ _ _ _ hw_p4_1 hs_12
  · refine pf_if ?_ ?_
    · refine pf_cd (cf_Lines_clear_N hW hw_p4_1 hs_6) (fun s_113 _ hs_113 => ?_)
      refine pf_cd (cf_Reader_skipBlanks hW hs_113) (fun s_117 _ hs_117 => ?_)
      exact cf_Reader_read_c23_S_42 hW _ _ _ _ _ hw_p4_1 hs_117
    · refine pf_if ?_ ?_
      · refine pf_cd (cf_Lines_clear_L hW hw_p4_1 hs_6) (fun s_122 _ hs_122 => ?_)
        refine pf_cd (cf_Reader_skipBlanks hW hs_122) (fun s_126 _ hs_126 => ?_)
        exact cf_Reader_read_c23_S_42 hW _ _ _ _ _ hw_p4_1 hs_126
      · refine pf_if ?_ ?_
        · refine pf_cd (cf_Lines_clear_D hW hw_p4_1 hs_6) (fun s_131 _ hs_131 => ?_)
          refine pf_cd (cf_Reader_skipBlanks hW hs_131) (fun s_135 _ hs_135 => ?_)
          exact cf_Reader_read_c23_S_42 hW _ _ _ _ _ hw_p4_1 hs_135
        · exact pf_none
