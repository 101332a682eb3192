/-! THE CLASS: the Reader, by hand -/
def gb_TR (σ : gb_S) : Prop := gb_TC σ ∧ gb_kY (σ.2.1 0) = true
theorem gr_q0 {σ : gb_S} (h : gb_TR σ) : gb_kY (σ.2.1 0) = true := h.2
theorem gr_rd {σ : gb_S} {k j c : Nat} {lo hi : Int} (h : gb_TR σ) (e : gc_cat k = c) (q : lo ≤ (gc_ty c j).1 ∧ (gc_ty c j).2 ≤ hi) : gb_iv lo hi (σ.1 k j) := gc_rd h.1 e q
theorem gr_su {σ : gb_S} {k i c : Nat} {v : Int32} {lo hi : Int} (h : gb_TR σ) (e : gc_cat k = c) (hv : gb_iv lo hi v) (q : (gc_ty c i).1 ≤ lo ∧ hi ≤ (gc_ty c i).2) : gb_TR (gb_su σ k (upd (σ.1 k) i v)) := ⟨gc_su h.1 e hv q, h.2⟩
theorem gr_su0 {σ : gb_S} {k i : Nat} {v : Int32} (h : gb_TR σ) (e : gc_cat k = 0) : gb_TR (gb_su σ k (upd (σ.1 k) i v)) := ⟨gc_su0 h.1 e, h.2⟩
theorem gr_ltT {ρ : Type} {v : gb_S} {k : gb_S → gb_CR ρ} {Q : gb_S → ρ → Prop} (h : gb_TR v) (H : ∀ s, s = v → gb_TR s → gb_tc (k s) Q) : gb_tc (gb_lt v k) Q := H v rfl h
theorem gr_cdT {ρ τ : Type} {x : gb_CR ρ} {k : gb_S → ρ → gb_CR τ} {R : ρ → Prop} {Q : gb_S → τ → Prop} (h : gb_tc x (fun s r => gb_TR s ∧ R r)) (H : ∀ s r, gb_TR s → R r → gb_tc (k s r) Q) : gb_tc (gb_cd x k) Q := by
  obtain ⟨s, r, e, hf, hp⟩ := h
  rw [e]
  exact H s r hf hp
def gb_kS (k : Nat) : Bool := gb_kB k || gb_kN k || gb_kL k || gb_kD k
theorem gb_kS_no {k : Nat} (h : gb_kS k = true) (h1 : ¬ gb_kB k = true) (h2 : ¬ gb_kN k = true) (h3 : ¬ gb_kL k = true) (h4 : ¬ gb_kD k = true) : False := by
  unfold gb_kS at h
  rw [Bool.eq_false_iff.mpr h1, Bool.eq_false_iff.mpr h2, Bool.eq_false_iff.mpr h3, Bool.eq_false_iff.mpr h4] at h
  cases h
theorem gt_b0 (k : Nat) : gb_iv 0 18 (gb_tb0 k) := by
  unfold gb_tb0
  match k with
  | 0 => exact ⟨by decide, by decide⟩
  | 1 => exact ⟨by decide, by decide⟩
  | 2 => exact ⟨by decide, by decide⟩
  | 3 => exact ⟨by decide, by decide⟩
  | 4 => exact ⟨by decide, by decide⟩
  | k + 5 =>
    show gb_iv 0 18 (0 : Int32)
    exact ⟨by decide, by decide⟩
theorem gt_b1 (k : Nat) : gb_iv 0 5 (gb_tb1 k) := by
  unfold gb_tb1
  match k with
  | 0 => exact ⟨by decide, by decide⟩
  | 1 => exact ⟨by decide, by decide⟩
  | 2 => exact ⟨by decide, by decide⟩
  | 3 => exact ⟨by decide, by decide⟩
  | 4 => exact ⟨by decide, by decide⟩
  | 5 => exact ⟨by decide, by decide⟩
  | 6 => exact ⟨by decide, by decide⟩
  | 7 => exact ⟨by decide, by decide⟩
  | 8 => exact ⟨by decide, by decide⟩
  | 9 => exact ⟨by decide, by decide⟩
  | 10 => exact ⟨by decide, by decide⟩
  | 11 => exact ⟨by decide, by decide⟩
  | 12 => exact ⟨by decide, by decide⟩
  | 13 => exact ⟨by decide, by decide⟩
  | 14 => exact ⟨by decide, by decide⟩
  | 15 => exact ⟨by decide, by decide⟩
  | 16 => exact ⟨by decide, by decide⟩
  | 17 => exact ⟨by decide, by decide⟩
  | k + 18 =>
    show gb_iv 0 5 (0 : Int32)
    exact ⟨by decide, by decide⟩
/-! words -/
theorem ct_wordOf {n : Nat} {σ : gb_S} {p1 : Int32} : gb_tc (cs_Reader_wordOf n σ p1) (fun s r => s = σ ∧ gb_kW r = true) := by
  unfold cs_Reader_wordOf
  refine gc_if (fun _ => gc_some ⟨rfl, rfl⟩) (fun _ => ?_)
  refine gc_if (fun _ => gc_some ⟨rfl, rfl⟩) (fun _ => ?_)
  refine gc_if (fun _ => gc_some ⟨rfl, rfl⟩) (fun _ => ?_)
  refine gc_if (fun _ => gc_some ⟨rfl, rfl⟩) (fun _ => ?_)
  refine gc_if (fun _ => gc_some ⟨rfl, rfl⟩) (fun _ => ?_)
  refine gc_if (fun _ => gc_some ⟨rfl, rfl⟩) (fun _ => ?_)
  refine gc_if (fun _ => gc_some ⟨rfl, rfl⟩) (fun _ => ?_)
  refine gc_if (fun _ => gc_some ⟨rfl, rfl⟩) (fun _ => ?_)
  refine gc_if (fun _ => gc_some ⟨rfl, rfl⟩) (fun _ => ?_)
  refine gc_if (fun _ => gc_some ⟨rfl, rfl⟩) (fun _ => ?_)
  refine gc_if (fun _ => gc_some ⟨rfl, rfl⟩) (fun _ => ?_)
  refine gc_if (fun _ => gc_some ⟨rfl, rfl⟩) (fun _ => ?_)
  refine gc_if (fun _ => gc_some ⟨rfl, rfl⟩) (fun _ => ?_)
  refine gc_if (fun _ => gc_some ⟨rfl, rfl⟩) (fun _ => ?_)
  refine gc_if (fun _ => gc_some ⟨rfl, rfl⟩) (fun _ => ?_)
  refine gc_if (fun _ => gc_some ⟨rfl, rfl⟩) (fun _ => ?_)
  refine gc_if (fun _ => gc_some ⟨rfl, rfl⟩) (fun _ => ?_)
  exact gc_some ⟨rfl, rfl⟩
def gb_ln (k : Nat) : Nat := gb_slen.getD k 0
theorem gb_ln_le : ∀ k, k < 18 → 1 ≤ gb_ln k ∧ gb_ln k ≤ 6 := by decide +kernel
theorem gb_ofN {m : Nat} (h : m ≤ 6) : (Int32.ofNat m).toInt = m := Int32.toInt_ofNat_of_lt (by omega)
theorem ct_strlen {n : Nat} {σ : gb_S} {k : Nat} (hk : gb_kW k = true) : gb_tc (cs_java_lang_String_length_W n σ k) (fun s r => s = σ ∧ r.toInt = gb_ln k) := by
  unfold cs_java_lang_String_length_W cs_java_lang_String_coder_W
  have h := gb_ln_le k (gb_kW_lt hk)
  refine gc_kk hk ?_
  refine gc_cdP (σ := σ) (R := fun r => r = 0) ?_ (fun r _ hr => gc_some ⟨rfl, ?_⟩)
  · refine gc_kk hk ?_
    rw [if_neg (by decide)]
    exact gc_some ⟨rfl, rfl⟩
  · rw [hr]
    have e : (Int32.ofNat (gb_slen.getD k 0)) >>> ((0 : Int32) &&& 31) = Int32.ofNat (gb_ln k) := sc_shr0 (n := gb_ln k) (by omega)
    rw [e]
    exact gb_ofN h.2
theorem ct_charAt {n : Nat} {σ : gb_S} {k : Nat} {p : Int32} (hk : gb_kW k = true) (h0 : 0 ≤ p.toInt) (hl : p.toInt < gb_ln k) : gb_tc (cs_java_lang_String_charAt_W n σ k p) (fun s r => s = σ ∧ True) := by
  have h := gb_ln_le k (gb_kW_lt hk)
  have z0 : (0 : Int32).toInt = 0 := by decide
  have el : (Int32.ofNat (gb_slen.getD k 0)).toInt = gb_ln k := gb_ofN h.2
  have hv : gb_kV k = true := hk
  unfold cs_java_lang_String_charAt_W cs_java_lang_String_isLatin1_W
  refine gc_kk hk ?_
  refine gc_cdP (σ := σ) (R := fun r => r = 1) ?_ (fun r _ hr => ?_)
  · refine gc_kk hk ?_
    rw [if_neg (by decide), if_pos rfl]
    exact gc_some ⟨rfl, rfl⟩
  rw [if_neg (by rw [hr]; decide)]
  unfold cs_java_lang_StringLatin1_charAt_V cs_java_lang_String_checkIndex cs_jdk_internal_util_Preconditions_checkIndex_n
  rw [if_neg (fun q => by have := gb_dlt q; omega), if_pos (Int32.lt_iff_toInt_lt.mpr (by rw [el]; exact hl))]
  refine gc_cdP (σ := σ) (R := fun r => (r.toUInt32 % 65536).toInt32 = r) ?_ (fun r2 _ hr2 => ?_)
  · refine gc_kk hv ?_
    refine gc_ck (a := 0) (b := (gb_ln k : Int) - 1) ⟨h0, by omega⟩ ⟨Int.le_refl _, by show (gb_ln k : Int) - 1 < ((gb_slen.getD k 0 : Nat) : Int); unfold gb_ln; omega⟩ (gc_some ⟨rfl, ?_⟩)
    rw [sc_c2, sc_c2]
  · unfold gb_cc
    rw [if_pos hr2]
    exact gc_some ⟨rfl, trivial⟩
set_option maxHeartbeats 4000000 in
theorem ct_isWord_17 {n : Nat} {σ : gb_S} {k : Nat} (hT : gb_TR σ) (hk : gb_kW k = true) (hl : (σ.1 106 3).toInt + gb_ln k ≤ 600) : ∀ (mm : Nat) (v3 : Int32), gb_iv 0 6 v3 → (6 - v3.toInt).toNat < mm → gb_tc (cs_Reader_isWord_W_17 n mm σ k v3) (fun s r => s = σ ∧ gb_iv 0 1 r) := by
  have h := gb_ln_le k (gb_kW_lt hk)
  have ia : gb_iv 0 600 (σ.1 106 3) := gr_rd (c := 12) hT rfl (by decide)
  intro mm
  induction mm with
  | zero =>
    intro v3 i3 hm
    exact absurd hm (Nat.not_lt_zero _)
  | succ mm ih =>
    intro v3 i3 hm
    rw [cs_Reader_isWord_W_17]
    refine gc_kk hk (gc_cdP (ct_strlen hk) (fun r _ hr => gc_if (fun _ => gc_some ⟨rfl, by decide, by decide⟩) (fun c => ?_)))
    have hc := gb_dnle c
    have h3 := i3.1
    have h4 := ia.1
    have i3' : gb_iv 0 5 v3 := ⟨h3, by omega⟩
    have ei : ((σ.1 106 3) + v3).toInt = (σ.1 106 3).toInt + v3.toInt := gb_tadd (by omega) (by omega)
    refine gc_kk hT.2 (gc_ck (a := 0) (b := 599) ⟨by omega, by omega⟩ (by decide) (gc_lt (fun x ex => ?_)))
    refine gc_cdP (ct_charAt hk h3 (by omega)) (fun r2 _ _ => gc_if (fun _ => gc_lt (fun y ey => ih y ?_ (gb_mup ey i3' (by decide) hm))) (fun _ => gc_some ⟨rfl, by decide, by decide⟩))
    rw [ey]
    exact gb_iw (gb_iadd (lo := 1) (hi := 6) i3' (gb_ic (a := 1) (by decide)) (by decide)) (by decide)
theorem ct_isWord {n : Nat} (hn : gb_N ≤ n) {σ : gb_S} {k : Nat} {p2 : Int32} (hT : gb_TR σ) (hk : gb_kW k = true) (i2 : gb_iv 0 600 p2) : gb_tc (cs_Reader_isWord_W n σ k p2) (fun s r => s = σ ∧ gb_iv 0 1 r) := by
  unfold cs_Reader_isWord_W
  have ia : gb_iv 0 600 (σ.1 106 3) := gr_rd (c := 12) hT rfl (by decide)
  refine gc_kk hk (gc_cdP (ct_strlen hk) (fun r _ hr => gc_if (fun c => ?_) (fun _ => gc_some ⟨rfl, by decide, by decide⟩)))
  have e1 : (p2 - (σ.1 106 3)).toInt = p2.toInt - (σ.1 106 3).toInt := gb_tsub (by have := ia.2; have := i2.1; omega) (by have := ia.1; have := i2.2; omega)
  rw [c, hr] at e1
  have i0 : gb_iv 0 6 (0 : Int32) := gb_iw (gb_ic (a := 0) (by decide)) (by decide)
  have h2 := i2.2
  exact ct_isWord_17 hT hk (by omega) n 0 i0 (gb_fuu hn i0 (by decide))
/-! lines -/
theorem gr_suI {σ : gb_S} {k c : Nat} {i v : Int32} {a b : Int} (h : gb_TR σ) (e : gc_cat k = c) (hc : c = 2 ∨ c = 3 ∨ c = 4) (hi : gb_iv a b i) (ha : 1 ≤ a) : gb_TR (gb_su σ k (upd (σ.1 k) (Int32.toNatClampNeg i) v)) := by
  refine gr_su (c := c) (lo := -2147483648) (hi := 2147483647) h e (gb_it v) ?_
  have hz : ¬ Int32.toNatClampNeg i = 0 := by
    have := gb_cl hi (by omega)
    have := hi.1
    omega
  rcases hc with rfl | rfl | rfl
  · show (if Int32.toNatClampNeg i = 0 then ((0, 24) : Int × Int) else (-2147483648, 2147483647)).1 ≤ _ ∧ _ ≤ (if Int32.toNatClampNeg i = 0 then ((0, 24) : Int × Int) else (-2147483648, 2147483647)).2
    rw [if_neg hz]
    exact ⟨Int.le_refl _, Int.le_refl _⟩
  · show (if Int32.toNatClampNeg i = 0 then ((0, 8) : Int × Int) else (-2147483648, 2147483647)).1 ≤ _ ∧ _ ≤ (if Int32.toNatClampNeg i = 0 then ((0, 8) : Int × Int) else (-2147483648, 2147483647)).2
    rw [if_neg hz]
    exact ⟨Int.le_refl _, Int.le_refl _⟩
  · show (if Int32.toNatClampNeg i = 0 then ((0, 5) : Int × Int) else (-2147483648, 2147483647)).1 ≤ _ ∧ _ ≤ (if Int32.toNatClampNeg i = 0 then ((0, 5) : Int × Int) else (-2147483648, 2147483647)).2
    rw [if_neg hz]
    exact ⟨Int.le_refl _, Int.le_refl _⟩
theorem gr_cpyB {σ : gb_S} {k d m : Nat} {p : Int32} {a b : Int} (h : gb_TR σ) (e : gc_cat k = 1) (hi : gb_iv a b p) (ha : 2 ≤ a) : gb_TR (gb_su σ k (va_cpy (σ.1 107) (σ.1 k) d (Int32.toNatClampNeg p) m)) ∧ (∀ j, j < 2 → (gb_su σ k (va_cpy (σ.1 107) (σ.1 k) d (Int32.toNatClampNeg p) m)).1 k j = σ.1 k j) := by
  have hz : 2 ≤ Int32.toNatClampNeg p := by
    have := gb_cl hi (by omega)
    have := hi.1
    omega
  have hq : ∀ j, j < 2 → (gb_su σ k (va_cpy (σ.1 107) (σ.1 k) d (Int32.toNatClampNeg p) m)).1 k j = σ.1 k j := fun j hj => by
    show gb_u σ.1 k (va_cpy (σ.1 107) (σ.1 k) d (Int32.toNatClampNeg p) m) k j = _
    unfold gb_u va_cpy
    rw [if_pos rfl, if_neg (by omega)]
  refine ⟨⟨⟨fun k3 j => ?_, h.1.2⟩, h.2⟩, hq⟩
  by_cases c2 : k3 = k
  · rw [c2, e]
    by_cases hj : j < 2
    · rw [hq j hj]
      have := h.1.1 k j
      rw [e] at this
      exact this
    · show gb_iv (if j = 0 then ((0, 5) : Int × Int) else if j = 1 then (0, 8) else (-2147483648, 2147483647)).1 (if j = 0 then ((0, 5) : Int × Int) else if j = 1 then (0, 8) else (-2147483648, 2147483647)).2 _
      rw [if_neg (by omega), if_neg (by omega)]
      exact gb_it _
  · show gb_iv _ _ (gb_u σ.1 k _ k3 j)
    unfold gb_u
    rw [if_neg c2]
    exact h.1.1 k3 j
set_option maxHeartbeats 4000000 in
theorem cr_Border_addLine_B_c107 {n : Nat} (hn : gb_N ≤ n) {σ : gb_S} {k0 : Nat} {p1 : Int32} (hT : gb_TR σ) (hk0 : gb_kB k0 = true) : gb_tc (cs_Border_addLine_B_c107 n σ k0 p1) (fun s _ => gb_TR s ∧ True) := by
  have ok : ∀ {s : gb_S}, gb_TR s → gb_tc (some (s, ()) : gb_CR Unit) (fun s _ => gb_TR s ∧ True) := fun h => gc_some ⟨h, trivial⟩
  have cB := gc_catB hk0
  have i0 : gb_iv 0 5 (σ.1 (k0 + 1) 0) := gr_rd (c := 1) hT cB (by decide)
  have i1 : gb_iv 0 8 (σ.1 (k0 + 1) 1) := gr_rd (c := 1) hT cB (by decide)
  have c5 : (5 : Int32).toInt = 5 := by decide
  have c8 : (8 : Int32).toInt = 8 := by decide
  have pE : gb_tc (cs_Border_paths_B n σ k0) (fun s r => s = σ ∧ r = σ.1 (k0 + 1) 0) := by
    unfold cs_Border_paths_B
    exact gc_kk hk0 (gc_lt (fun x e => gc_some ⟨rfl, e⟩))
  have gE : gb_tc (cs_Border_geese_B n σ k0) (fun s r => s = σ ∧ r = σ.1 (k0 + 1) 1) := by
    unfold cs_Border_geese_B
    exact gc_kk hk0 (gc_lt (fun x e => gc_some ⟨rfl, e⟩))
  have room : gb_tc (cs_Border_hasRoomFor_B n σ k0 p1) (fun s r => s = σ ∧ (¬ r = 0 → (p1 = 0 → (σ.1 (k0 + 1) 0).toInt ≤ 4) ∧ (p1 = 1 → (σ.1 (k0 + 1) 1).toInt ≤ 7))) := by
    unfold cs_Border_hasRoomFor_B
    refine gc_kk hk0 (gc_if (fun c => gc_some ⟨rfl, fun _ => ⟨fun q => absurd (q.symm.trans c) (by decide), fun q => absurd (q.symm.trans c) (by decide)⟩⟩) (fun c => gc_if (fun c2 => ?_) (fun c2 => ?_)))
    · refine gc_cdP pE (fun r _ hr => gc_if (fun _ => gc_some ⟨rfl, fun q => absurd rfl q⟩) (fun c3 => gc_some ⟨rfl, fun _ => ⟨fun _ => ?_, fun q => absurd (q.symm.trans c2) (by decide)⟩⟩))
      have := gb_dnle c3
      rw [hr] at this
      omega
    · refine gc_cdP gE (fun r _ hr => gc_if (fun _ => gc_some ⟨rfl, fun q => absurd rfl q⟩) (fun c3 => gc_some ⟨rfl, fun _ => ⟨fun q => absurd q c2, fun _ => ?_⟩⟩))
      have := gb_dnle c3
      rw [hr] at this
      omega
  unfold cs_Border_addLine_B_c107
  refine gc_kk hk0 (gc_cdP room (fun r _ hr => gc_if (fun _ => ok hT) (fun c => ?_)))
  have hr2 := hr c
  refine gc_if (fun _ => gc_lt (fun x ex => gr_ltT (gr_su (c := 1) (lo := -2147483648) (hi := 2147483647) hT cB (gb_it _) (by decide)) (fun s2 e2 hT2 => ok hT2))) (fun _ => ?_)
  refine gc_if (fun cp => ?_) (fun _ => gc_if (fun cp => ?_) (fun _ => ok hT))
  · have hl := hr2.1 cp
    refine gc_cdP pE (fun q _ hq => ?_)
    have iq : gb_iv 0 4 q := by
      rw [hq]
      exact ⟨i0.1, hl⟩
    have id := gb_iadd (lo := 3) (hi := 15) (gb_ic (x := 3) (a := 3) (by decide)) (gb_imul (lo := 0) (hi := 12) iq (gb_ic (x := 3) (a := 3) (by decide)) (by decide)) (by decide)
    refine gc_ac (gb_ic (a := 0) (by decide)) id (gb_ic (a := 3) (by decide)) (by decide) ?_
    obtain ⟨hT2, he⟩ := gr_cpyB (d := Int32.toNatClampNeg 0) (m := Int32.toNatClampNeg 3) hT cB id (by decide)
    refine gr_ltT hT2 (fun s2 e2 hT2 => gc_lt (fun x ex => ?_))
    have ix : gb_iv 0 4 x := by
      rw [ex, e2]
      have := he 0 (by decide)
      show gb_iv 0 4 ((gb_su σ (k0 + 1) _).1 (k0 + 1) 0)
      rw [this, ← hq]
      exact iq
    exact gr_ltT (gr_su (c := 1) (lo := 1) (hi := 5) hT2 cB (gb_iadd (lo := 1) (hi := 5) ix (gb_ic (a := 1) (by decide)) (by decide)) (by decide)) (fun s3 e3 hT3 => ok hT3)
  · have hl := hr2.2 cp
    refine gc_cdP gE (fun q _ hq => ?_)
    have iq : gb_iv 0 7 q := by
      rw [hq]
      exact ⟨i1.1, hl⟩
    have id := gb_iadd (lo := 18) (hi := 53) (gb_ic (x := 18) (a := 18) (by decide)) (gb_imul (lo := 0) (hi := 35) iq (gb_ic (x := 5) (a := 5) (by decide)) (by decide)) (by decide)
    refine gc_ac (gb_ic (a := 0) (by decide)) id (gb_ic (a := 5) (by decide)) (by decide) ?_
    obtain ⟨hT2, he⟩ := gr_cpyB (d := Int32.toNatClampNeg 0) (m := Int32.toNatClampNeg 5) hT cB id (by decide)
    refine gr_ltT hT2 (fun s2 e2 hT2 => gc_lt (fun x ex => ?_))
    have ix : gb_iv 0 7 x := by
      rw [ex, e2]
      have := he 1 (by decide)
      show gb_iv 0 7 ((gb_su σ (k0 + 1) _).1 (k0 + 1) 1)
      rw [this, ← hq]
      exact iq
    exact gr_ltT (gr_su (c := 1) (lo := 1) (hi := 8) hT2 cB (gb_iadd (lo := 1) (hi := 8) ix (gb_ic (a := 1) (by decide)) (by decide)) (by decide)) (fun s3 e3 hT3 => ok hT3)
set_option maxHeartbeats 4000000 in
theorem cr_addLine48_N {n : Nat} {k0 : Nat} (hk0 : gb_kN k0 = true) {v1 v3 : Int32} (i1 : gb_iv 0 17 v1) (i3 : gb_iv 1 93 v3) : ∀ (mm : Nat) (σ : gb_S) (v4 : Int32), gb_TR σ → (σ.1 (k0 + 1) 0).toInt ≤ 23 → gb_iv 0 3 v4 → (3 - v4.toInt).toNat < mm → gb_tc (cs_Lines_addLine_N_c107_48 n mm σ k0 v1 v3 v4) (fun s _ => gb_TR s ∧ True) := by
  have cN := gc_catN hk0
  intro mm
  induction mm with
  | zero =>
    intro σ v4 hT hl i4 hm
    exact absurd hm (Nat.not_lt_zero _)
  | succ mm ih =>
    intro σ v4 hT hl i4 hm
    rw [cs_Lines_addLine_N_c107_48]
    have i0 : gb_iv 0 24 (σ.1 (k0 + 1) 0) := gr_rd (c := 2) hT cN (by decide)
    refine gc_kk hk0 (gc_if (fun _ => gc_lt (fun x ex => ?_)) (fun c => ?_))
    · have ix : gb_iv 0 23 x := by
        rw [ex]
        exact ⟨i0.1, hl⟩
      exact gr_ltT (gr_su (c := 2) (lo := 1) (hi := 24) hT cN (gb_iadd (lo := 1) (hi := 24) ix (gb_ic (a := 1) (by decide)) (by decide)) (by decide)) (fun s3 e3 hT3 => gc_some ⟨hT3, trivial⟩)
    · have i4' : gb_iv 0 2 v4 := gb_rU (s := 1) (gb_dnle c) i4 (gb_ic (a := 3) (by decide)) (by decide)
      have st : ∀ x : Int32, x = v4 + 1 → gb_iv 0 3 x := fun x e => by
        rw [e]
        exact gb_iw (gb_iadd (lo := 1) (hi := 3) i4' (gb_ic (a := 1) (by decide)) (by decide)) (by decide)
      have ia := gb_iadd (lo := 2) (hi := 96) (gb_iadd (lo := 2) (hi := 94) i3 (gb_ic (x := 1) (a := 1) (by decide)) (by decide)) i4' (by decide)
      have keep : ∀ v : Int32, (gb_su σ (k0 + 1) (upd (σ.1 (k0 + 1)) (Int32.toNatClampNeg ((v3 + 1) + v4)) v)).1 (k0 + 1) 0 = σ.1 (k0 + 1) 0 := fun v => by
        have hz : (0 : Nat) ≠ Int32.toNatClampNeg ((v3 + 1) + v4) := by
          have := gb_cl ia (by decide)
          have := ia.1
          omega
        show gb_u σ.1 (k0 + 1) _ (k0 + 1) 0 = _
        unfold gb_u
        rw [if_pos rfl, pk_un hz]
      have go : ∀ v : Int32, gb_tc (gb_ck ((v3 + 1) + v4) 97 (gb_lt (gb_su σ (k0 + 1) (upd (σ.1 (k0 + 1)) (Int32.toNatClampNeg ((v3 + 1) + v4)) v)) (fun s_29 => gb_lt (v4 + 1) (fun x_30 => cs_Lines_addLine_N_c107_48 n mm s_29 k0 v1 v3 x_30)))) (fun s _ => gb_TR s ∧ True) := fun v => by
        refine gc_ck ia (by decide) (gr_ltT (gr_suI (c := 2) hT cN (by decide) ia (by decide)) (fun s2 e2 hT2 => gc_lt (fun y ey => ?_)))
        exact ih s2 y hT2 (by rw [e2, keep]; exact hl) (st y ey) (gb_mup ey i4' (by decide) hm)
      refine gc_ck i1 (by decide) (gc_lt (fun x ex => gc_if (fun _ => go (-1)) (fun _ => gc_ck (gb_iw (lo := 0) (hi := 4) i4' (by decide)) (by decide) (gc_lt (fun y ey => go y)))))
set_option maxHeartbeats 4000000 in
theorem cr_Lines_addLine_N_c107 {n : Nat} (hn : gb_N ≤ n) {σ : gb_S} {k0 : Nat} {p1 : Int32} (hT : gb_TR σ) (hk0 : gb_kN k0 = true) : gb_tc (cs_Lines_addLine_N_c107 n σ k0 p1) (fun s _ => gb_TR s ∧ True) := by
  have ok : ∀ {s : gb_S}, gb_TR s → gb_tc (some (s, ()) : gb_CR Unit) (fun s _ => gb_TR s ∧ True) := fun h => gc_some ⟨h, trivial⟩
  have cN := gc_catN hk0
  have i0 : gb_iv 0 24 (σ.1 (k0 + 1) 0) := gr_rd (c := 2) hT cN (by decide)
  have sE : gb_tc (cs_Lines_size_N n σ k0) (fun s r => s = σ ∧ r = σ.1 (k0 + 1) 0) := by
    unfold cs_Lines_size_N
    exact gc_kk hk0 (gc_lt (fun x e => gc_some ⟨rfl, e⟩))
  have room : gb_tc (cs_Lines_hasRoomFor_N n σ k0 p1) (fun s r => s = σ ∧ (¬ r = 0 → (σ.1 (k0 + 1) 0).toInt ≤ 23)) := by
    unfold cs_Lines_hasRoomFor_N
    refine gc_kk hk0 (gc_cdP sE (fun r _ hr => gc_if (fun _ => gc_some ⟨rfl, fun q => absurd rfl q⟩) (fun c => gc_some ⟨rfl, fun _ => ?_⟩)))
    have := gb_dnle c
    have z : (24 : Int32).toInt = 24 := by decide
    rw [hr] at this
    omega
  unfold cs_Lines_addLine_N_c107
  refine gc_kk hk0 (gc_cdP room (fun r _ hr => gc_if (fun _ => ok hT) (fun c => gc_if (fun _ => ok hT) (fun c2 => gc_if (fun c3 => ?_) (fun _ => ok hT)))))
  have hl := hr c
  have i1 : gb_iv 0 17 p1 := by
    have h1 := gb_dnlt c2
    have h2 := gb_dlt c3
    have z0 : (0 : Int32).toInt = 0 := by decide
    have z1 : (18 : Int32).toInt = 18 := by decide
    exact ⟨by omega, by omega⟩
  refine gc_cdP sE (fun q _ hq => ?_)
  have iq : gb_iv 0 23 q := by
    rw [hq]
    exact ⟨i0.1, hl⟩
  have ix := gb_iadd (lo := 1) (hi := 93) (gb_ic (x := 1) (a := 1) (by decide)) (gb_imul (lo := 0) (hi := 92) iq (gb_ic (x := (3 : Int32) + 1) (a := 4) (by decide)) (by decide)) (by decide)
  refine gc_lti ix (fun x ex ix => gc_ck ix (by decide) (gr_ltT (gr_suI (c := 2) hT cN (by decide) ix (by decide)) (fun s2 e2 hT2 => ?_)))
  have i00 : gb_iv 0 3 (0 : Int32) := gb_iw (gb_ic (a := 0) (by decide)) (by decide)
  refine cr_addLine48_N hk0 i1 ix n s2 0 hT2 ?_ i00 (gb_fuu hn i00 (by decide))
  have hz : (0 : Nat) ≠ Int32.toNatClampNeg x := by
    have := gb_cl ix (by decide)
    have := ix.1
    omega
  have e0 : s2.1 (k0 + 1) 0 = σ.1 (k0 + 1) 0 := by
    rw [e2]
    show gb_u σ.1 (k0 + 1) _ (k0 + 1) 0 = _
    unfold gb_u
    rw [if_pos rfl, pk_un hz]
  rw [e0]
  exact hl
set_option maxHeartbeats 4000000 in
theorem cr_addLine48_L {n : Nat} {k0 : Nat} (hk0 : gb_kL k0 = true) {v1 v3 : Int32} (i1 : gb_iv 0 17 v1) (i3 : gb_iv 1 22 v3) : ∀ (mm : Nat) (σ : gb_S) (v4 : Int32), gb_TR σ → (σ.1 (k0 + 1) 0).toInt ≤ 7 → gb_iv 0 2 v4 → (2 - v4.toInt).toNat < mm → gb_tc (cs_Lines_addLine_L_c107_48 n mm σ k0 v1 v3 v4) (fun s _ => gb_TR s ∧ True) := by
  have cN := gc_catL hk0
  intro mm
  induction mm with
  | zero =>
    intro σ v4 hT hl i4 hm
    exact absurd hm (Nat.not_lt_zero _)
  | succ mm ih =>
    intro σ v4 hT hl i4 hm
    rw [cs_Lines_addLine_L_c107_48]
    have i0 : gb_iv 0 8 (σ.1 (k0 + 1) 0) := gr_rd (c := 3) hT cN (by decide)
    refine gc_kk hk0 (gc_if (fun _ => gc_lt (fun x ex => ?_)) (fun c => ?_))
    · have ix : gb_iv 0 7 x := by
        rw [ex]
        exact ⟨i0.1, hl⟩
      exact gr_ltT (gr_su (c := 3) (lo := 1) (hi := 8) hT cN (gb_iadd (lo := 1) (hi := 8) ix (gb_ic (a := 1) (by decide)) (by decide)) (by decide)) (fun s3 e3 hT3 => gc_some ⟨hT3, trivial⟩)
    · have i4' : gb_iv 0 1 v4 := gb_rU (s := 1) (gb_dnle c) i4 (gb_ic (a := 2) (by decide)) (by decide)
      have st : ∀ x : Int32, x = v4 + 1 → gb_iv 0 2 x := fun x e => by
        rw [e]
        exact gb_iw (gb_iadd (lo := 1) (hi := 2) i4' (gb_ic (a := 1) (by decide)) (by decide)) (by decide)
      have ia := gb_iadd (lo := 2) (hi := 24) (gb_iadd (lo := 2) (hi := 23) i3 (gb_ic (x := 1) (a := 1) (by decide)) (by decide)) i4' (by decide)
      have keep : ∀ v : Int32, (gb_su σ (k0 + 1) (upd (σ.1 (k0 + 1)) (Int32.toNatClampNeg ((v3 + 1) + v4)) v)).1 (k0 + 1) 0 = σ.1 (k0 + 1) 0 := fun v => by
        have hz : (0 : Nat) ≠ Int32.toNatClampNeg ((v3 + 1) + v4) := by
          have := gb_cl ia (by decide)
          have := ia.1
          omega
        show gb_u σ.1 (k0 + 1) _ (k0 + 1) 0 = _
        unfold gb_u
        rw [if_pos rfl, pk_un hz]
      have go : ∀ v : Int32, gb_tc (gb_ck ((v3 + 1) + v4) 25 (gb_lt (gb_su σ (k0 + 1) (upd (σ.1 (k0 + 1)) (Int32.toNatClampNeg ((v3 + 1) + v4)) v)) (fun s_29 => gb_lt (v4 + 1) (fun x_30 => cs_Lines_addLine_L_c107_48 n mm s_29 k0 v1 v3 x_30)))) (fun s _ => gb_TR s ∧ True) := fun v => by
        refine gc_ck ia (by decide) (gr_ltT (gr_suI (c := 3) hT cN (by decide) ia (by decide)) (fun s2 e2 hT2 => gc_lt (fun y ey => ?_)))
        exact ih s2 y hT2 (by rw [e2, keep]; exact hl) (st y ey) (gb_mup ey i4' (by decide) hm)
      refine gc_ck i1 (by decide) (gc_lt (fun x ex => gc_if (fun _ => go (-1)) (fun _ => gc_ck (gb_iw (lo := 0) (hi := 4) i4' (by decide)) (by decide) (gc_lt (fun y ey => go y)))))
set_option maxHeartbeats 4000000 in
theorem cr_Lines_addLine_L_c107 {n : Nat} (hn : gb_N ≤ n) {σ : gb_S} {k0 : Nat} {p1 : Int32} (hT : gb_TR σ) (hk0 : gb_kL k0 = true) : gb_tc (cs_Lines_addLine_L_c107 n σ k0 p1) (fun s _ => gb_TR s ∧ True) := by
  have ok : ∀ {s : gb_S}, gb_TR s → gb_tc (some (s, ()) : gb_CR Unit) (fun s _ => gb_TR s ∧ True) := fun h => gc_some ⟨h, trivial⟩
  have cN := gc_catL hk0
  have i0 : gb_iv 0 8 (σ.1 (k0 + 1) 0) := gr_rd (c := 3) hT cN (by decide)
  have sE : gb_tc (cs_Lines_size_L n σ k0) (fun s r => s = σ ∧ r = σ.1 (k0 + 1) 0) := by
    unfold cs_Lines_size_L
    exact gc_kk hk0 (gc_lt (fun x e => gc_some ⟨rfl, e⟩))
  have room : gb_tc (cs_Lines_hasRoomFor_L n σ k0 p1) (fun s r => s = σ ∧ (¬ r = 0 → (σ.1 (k0 + 1) 0).toInt ≤ 7)) := by
    unfold cs_Lines_hasRoomFor_L
    refine gc_kk hk0 (gc_cdP sE (fun r _ hr => gc_if (fun _ => gc_some ⟨rfl, fun q => absurd rfl q⟩) (fun c => gc_some ⟨rfl, fun _ => ?_⟩)))
    have := gb_dnle c
    have z : (8 : Int32).toInt = 8 := by decide
    rw [hr] at this
    omega
  unfold cs_Lines_addLine_L_c107
  refine gc_kk hk0 (gc_cdP room (fun r _ hr => gc_if (fun _ => ok hT) (fun c => gc_if (fun _ => ok hT) (fun c2 => gc_if (fun c3 => ?_) (fun _ => ok hT)))))
  have hl := hr c
  have i1 : gb_iv 0 17 p1 := by
    have h1 := gb_dnlt c2
    have h2 := gb_dlt c3
    have z0 : (0 : Int32).toInt = 0 := by decide
    have z1 : (18 : Int32).toInt = 18 := by decide
    exact ⟨by omega, by omega⟩
  refine gc_cdP sE (fun q _ hq => ?_)
  have iq : gb_iv 0 7 q := by
    rw [hq]
    exact ⟨i0.1, hl⟩
  have ix := gb_iadd (lo := 1) (hi := 22) (gb_ic (x := 1) (a := 1) (by decide)) (gb_imul (lo := 0) (hi := 21) iq (gb_ic (x := (2 : Int32) + 1) (a := 3) (by decide)) (by decide)) (by decide)
  refine gc_lti ix (fun x ex ix => gc_ck ix (by decide) (gr_ltT (gr_suI (c := 3) hT cN (by decide) ix (by decide)) (fun s2 e2 hT2 => ?_)))
  have i00 : gb_iv 0 2 (0 : Int32) := gb_iw (gb_ic (a := 0) (by decide)) (by decide)
  refine cr_addLine48_L hk0 i1 ix n s2 0 hT2 ?_ i00 (gb_fuu hn i00 (by decide))
  have hz : (0 : Nat) ≠ Int32.toNatClampNeg x := by
    have := gb_cl ix (by decide)
    have := ix.1
    omega
  have e0 : s2.1 (k0 + 1) 0 = σ.1 (k0 + 1) 0 := by
    rw [e2]
    show gb_u σ.1 (k0 + 1) _ (k0 + 1) 0 = _
    unfold gb_u
    rw [if_pos rfl, pk_un hz]
  rw [e0]
  exact hl
set_option maxHeartbeats 4000000 in
theorem cr_addLine48_D {n : Nat} {k0 : Nat} (hk0 : gb_kD k0 = true) {v1 v3 : Int32} (i1 : gb_iv 0 17 v1) (i3 : gb_iv 1 13 v3) : ∀ (mm : Nat) (σ : gb_S) (v4 : Int32), gb_TR σ → (σ.1 (k0 + 1) 0).toInt ≤ 4 → gb_iv 0 2 v4 → (2 - v4.toInt).toNat < mm → gb_tc (cs_Lines_addLine_D_c107_48 n mm σ k0 v1 v3 v4) (fun s _ => gb_TR s ∧ True) := by
  have cN := gc_catD hk0
  intro mm
  induction mm with
  | zero =>
    intro σ v4 hT hl i4 hm
    exact absurd hm (Nat.not_lt_zero _)
  | succ mm ih =>
    intro σ v4 hT hl i4 hm
    rw [cs_Lines_addLine_D_c107_48]
    have i0 : gb_iv 0 5 (σ.1 (k0 + 1) 0) := gr_rd (c := 4) hT cN (by decide)
    refine gc_kk hk0 (gc_if (fun _ => gc_lt (fun x ex => ?_)) (fun c => ?_))
    · have ix : gb_iv 0 4 x := by
        rw [ex]
        exact ⟨i0.1, hl⟩
      exact gr_ltT (gr_su (c := 4) (lo := 1) (hi := 5) hT cN (gb_iadd (lo := 1) (hi := 5) ix (gb_ic (a := 1) (by decide)) (by decide)) (by decide)) (fun s3 e3 hT3 => gc_some ⟨hT3, trivial⟩)
    · have i4' : gb_iv 0 1 v4 := gb_rU (s := 1) (gb_dnle c) i4 (gb_ic (a := 2) (by decide)) (by decide)
      have st : ∀ x : Int32, x = v4 + 1 → gb_iv 0 2 x := fun x e => by
        rw [e]
        exact gb_iw (gb_iadd (lo := 1) (hi := 2) i4' (gb_ic (a := 1) (by decide)) (by decide)) (by decide)
      have ia := gb_iadd (lo := 2) (hi := 15) (gb_iadd (lo := 2) (hi := 14) i3 (gb_ic (x := 1) (a := 1) (by decide)) (by decide)) i4' (by decide)
      have keep : ∀ v : Int32, (gb_su σ (k0 + 1) (upd (σ.1 (k0 + 1)) (Int32.toNatClampNeg ((v3 + 1) + v4)) v)).1 (k0 + 1) 0 = σ.1 (k0 + 1) 0 := fun v => by
        have hz : (0 : Nat) ≠ Int32.toNatClampNeg ((v3 + 1) + v4) := by
          have := gb_cl ia (by decide)
          have := ia.1
          omega
        show gb_u σ.1 (k0 + 1) _ (k0 + 1) 0 = _
        unfold gb_u
        rw [if_pos rfl, pk_un hz]
      have go : ∀ v : Int32, gb_tc (gb_ck ((v3 + 1) + v4) 16 (gb_lt (gb_su σ (k0 + 1) (upd (σ.1 (k0 + 1)) (Int32.toNatClampNeg ((v3 + 1) + v4)) v)) (fun s_29 => gb_lt (v4 + 1) (fun x_30 => cs_Lines_addLine_D_c107_48 n mm s_29 k0 v1 v3 x_30)))) (fun s _ => gb_TR s ∧ True) := fun v => by
        refine gc_ck ia (by decide) (gr_ltT (gr_suI (c := 4) hT cN (by decide) ia (by decide)) (fun s2 e2 hT2 => gc_lt (fun y ey => ?_)))
        exact ih s2 y hT2 (by rw [e2, keep]; exact hl) (st y ey) (gb_mup ey i4' (by decide) hm)
      refine gc_ck i1 (by decide) (gc_lt (fun x ex => gc_if (fun _ => go (-1)) (fun _ => gc_ck (gb_iw (lo := 0) (hi := 4) i4' (by decide)) (by decide) (gc_lt (fun y ey => go y)))))
set_option maxHeartbeats 4000000 in
theorem cr_Lines_addLine_D_c107 {n : Nat} (hn : gb_N ≤ n) {σ : gb_S} {k0 : Nat} {p1 : Int32} (hT : gb_TR σ) (hk0 : gb_kD k0 = true) : gb_tc (cs_Lines_addLine_D_c107 n σ k0 p1) (fun s _ => gb_TR s ∧ True) := by
  have ok : ∀ {s : gb_S}, gb_TR s → gb_tc (some (s, ()) : gb_CR Unit) (fun s _ => gb_TR s ∧ True) := fun h => gc_some ⟨h, trivial⟩
  have cN := gc_catD hk0
  have i0 : gb_iv 0 5 (σ.1 (k0 + 1) 0) := gr_rd (c := 4) hT cN (by decide)
  have sE : gb_tc (cs_Lines_size_D n σ k0) (fun s r => s = σ ∧ r = σ.1 (k0 + 1) 0) := by
    unfold cs_Lines_size_D
    exact gc_kk hk0 (gc_lt (fun x e => gc_some ⟨rfl, e⟩))
  have room : gb_tc (cs_Lines_hasRoomFor_D n σ k0 p1) (fun s r => s = σ ∧ (¬ r = 0 → (σ.1 (k0 + 1) 0).toInt ≤ 4)) := by
    unfold cs_Lines_hasRoomFor_D
    refine gc_kk hk0 (gc_cdP sE (fun r _ hr => gc_if (fun _ => gc_some ⟨rfl, fun q => absurd rfl q⟩) (fun c => gc_some ⟨rfl, fun _ => ?_⟩)))
    have := gb_dnle c
    have z : (5 : Int32).toInt = 5 := by decide
    rw [hr] at this
    omega
  unfold cs_Lines_addLine_D_c107
  refine gc_kk hk0 (gc_cdP room (fun r _ hr => gc_if (fun _ => ok hT) (fun c => gc_if (fun _ => ok hT) (fun c2 => gc_if (fun c3 => ?_) (fun _ => ok hT)))))
  have hl := hr c
  have i1 : gb_iv 0 17 p1 := by
    have h1 := gb_dnlt c2
    have h2 := gb_dlt c3
    have z0 : (0 : Int32).toInt = 0 := by decide
    have z1 : (18 : Int32).toInt = 18 := by decide
    exact ⟨by omega, by omega⟩
  refine gc_cdP sE (fun q _ hq => ?_)
  have iq : gb_iv 0 4 q := by
    rw [hq]
    exact ⟨i0.1, hl⟩
  have ix := gb_iadd (lo := 1) (hi := 13) (gb_ic (x := 1) (a := 1) (by decide)) (gb_imul (lo := 0) (hi := 12) iq (gb_ic (x := (2 : Int32) + 1) (a := 3) (by decide)) (by decide)) (by decide)
  refine gc_lti ix (fun x ex ix => gc_ck ix (by decide) (gr_ltT (gr_suI (c := 4) hT cN (by decide) ix (by decide)) (fun s2 e2 hT2 => ?_)))
  have i00 : gb_iv 0 2 (0 : Int32) := gb_iw (gb_ic (a := 0) (by decide)) (by decide)
  refine cr_addLine48_D hk0 i1 ix n s2 0 hT2 ?_ i00 (gb_fuu hn i00 (by decide))
  have hz : (0 : Nat) ≠ Int32.toNatClampNeg x := by
    have := gb_cl ix (by decide)
    have := ix.1
    omega
  have e0 : s2.1 (k0 + 1) 0 = σ.1 (k0 + 1) 0 := by
    rw [e2]
    show gb_u σ.1 (k0 + 1) _ (k0 + 1) 0 = _
    unfold gb_u
    rw [if_pos rfl, pk_un hz]
  rw [e0]
  exact hl
set_option maxHeartbeats 4000000 in
theorem cr_skip0 {n : Nat} : ∀ (mm : Nat) (σ : gb_S), gb_TR σ → (600 - (σ.1 106 3).toInt).toNat < mm → gb_tc (cs_Reader_skipBlanks_0 n mm σ) (fun s _ => gb_TR s ∧ True) := by
  intro mm
  induction mm with
  | zero =>
    intro σ hT hm
    exact absurd hm (Nat.not_lt_zero _)
  | succ mm ih =>
    intro σ hT hm
    rw [cs_Reader_skipBlanks_0]
    have ia : gb_iv 0 600 (σ.1 106 3) := gr_rd (c := 12) hT rfl (by decide)
    have il : gb_iv 0 600 (σ.1 106 2) := gr_rd (c := 12) hT rfl (by decide)
    refine gc_if (fun _ => gc_some ⟨hT, trivial⟩) (fun c => ?_)
    have hc := gb_dnle c
    have h2 := il.2
    have ia' : gb_iv 0 599 (σ.1 106 3) := ⟨ia.1, by omega⟩
    obtain ⟨j1, j2⟩ := gb_inc ia'
    have h5 := ia'.2
    have go : ∀ s2 : gb_S, s2 = gb_su σ 106 (upd (σ.1 106) 3 ((σ.1 106 3) + 1)) → gb_tc (cs_Reader_skipBlanks_0 n mm s2) (fun s _ => gb_TR s ∧ True) := fun s2 e2 => by
      have e3 : s2.1 106 3 = σ.1 106 3 + 1 := by
        rw [e2]
        rfl
      refine ih s2 (by rw [e2]; exact gr_su (c := 12) (lo := 0) (hi := 600) hT rfl j1 (by decide)) ?_
      rw [e3, j2]
      omega
    refine gc_kk hT.2 (gc_ck ia' (by decide) (gc_lt (fun x ex => gc_if (fun _ => gc_lt (fun s2 e2 => go s2 e2)) (fun _ => gc_kk hT.2 (gc_ck ia' (by decide) (gc_lt (fun y ey => gc_if (fun _ => gc_lt (fun s2 e2 => go s2 e2)) (fun _ => gc_some ⟨hT, trivial⟩))))))))
theorem cr_Reader_skipBlanks {n : Nat} (hn : gb_N ≤ n) {σ : gb_S} (hT : gb_TR σ) : gb_tc (cs_Reader_skipBlanks n σ) (fun s _ => gb_TR s ∧ True) := by
  have ia : gb_iv 0 600 (σ.1 106 3) := gr_rd (c := 12) hT rfl (by decide)
  show gb_tc (cs_Reader_skipBlanks_0 n (n + 1) σ) _
  exact cr_skip0 (n + 1) σ hT (Nat.lt_succ_of_lt (gb_fuu (lo := 0) hn ia (by decide)))
