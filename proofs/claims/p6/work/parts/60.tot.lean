/-! TOTALITY: intervals of numbers, rules for 'it answers', both sides -/
def gb_iv (lo hi : Int) (x : Int32) : Prop := lo ≤ x.toInt ∧ x.toInt ≤ hi
def gb_N : Nat := 8589934592
theorem gb_it (x : Int32) : gb_iv (-2147483648) 2147483647 x := by
  have h1 := Int32.le_toInt x
  have h2 := Int32.toInt_lt x
  constructor <;> omega
theorem gb_iw {a b lo hi : Int} {x : Int32} (h : gb_iv a b x) (c : lo ≤ a ∧ b ≤ hi) : gb_iv lo hi x := ⟨Int.le_trans c.1 h.1, Int.le_trans h.2 c.2⟩
theorem gb_ie {a b : Int} {x y : Int32} (e : x = y) (h : gb_iv a b y) : gb_iv a b x := by rw [e]; exact h
theorem gb_il {x : Int32} {a lo hi : Int} (e : x.toInt = a) (c : lo ≤ a ∧ a ≤ hi) : gb_iv lo hi x := by
  unfold gb_iv
  rw [e]
  exact c
theorem gb_ic {x : Int32} {a : Int} (e : x.toInt = a) : gb_iv a a x := ⟨Int.le_of_eq e.symm, Int.le_of_eq e⟩
theorem gb_bm {z : Int} (h1 : -2147483648 ≤ z) (h2 : z ≤ 2147483647) : z.bmod (2 ^ 32) = z := by
  show z.bmod 4294967296 = z
  exact Int.bmod_eq_of_le (by omega) (by omega)
theorem gb_tadd {x y : Int32} (h1 : -2147483648 ≤ x.toInt + y.toInt) (h2 : x.toInt + y.toInt ≤ 2147483647) : (x + y).toInt = x.toInt + y.toInt := by
  rw [Int32.toInt_add]
  exact gb_bm h1 h2
theorem gb_tsub {x y : Int32} (h1 : -2147483648 ≤ x.toInt - y.toInt) (h2 : x.toInt - y.toInt ≤ 2147483647) : (x - y).toInt = x.toInt - y.toInt := by
  rw [Int32.toInt_sub]
  exact gb_bm h1 h2
theorem gb_tmul {x y : Int32} (h1 : -2147483648 ≤ x.toInt * y.toInt) (h2 : x.toInt * y.toInt ≤ 2147483647) : (x * y).toInt = x.toInt * y.toInt := by
  rw [Int32.toInt_mul]
  exact gb_bm h1 h2
theorem gb_iadd {a b c d lo hi : Int} {x y : Int32} (h : gb_iv a b x) (g : gb_iv c d y) (k : (lo ≤ a + c ∧ b + d ≤ hi) ∧ -2147483648 ≤ lo ∧ hi ≤ 2147483647) : gb_iv lo hi (x + y) := by
  obtain ⟨h1, h2⟩ := h
  obtain ⟨g1, g2⟩ := g
  obtain ⟨⟨k1, k2⟩, k3, k4⟩ := k
  have e := gb_tadd (x := x) (y := y) (by omega) (by omega)
  unfold gb_iv
  rw [e]
  constructor <;> omega
theorem gb_isub {a b c d lo hi : Int} {x y : Int32} (h : gb_iv a b x) (g : gb_iv c d y) (k : (lo ≤ a - d ∧ b - c ≤ hi) ∧ -2147483648 ≤ lo ∧ hi ≤ 2147483647) : gb_iv lo hi (x - y) := by
  obtain ⟨h1, h2⟩ := h
  obtain ⟨g1, g2⟩ := g
  obtain ⟨⟨k1, k2⟩, k3, k4⟩ := k
  have e := gb_tsub (x := x) (y := y) (by omega) (by omega)
  unfold gb_iv
  rw [e]
  constructor <;> omega
theorem gb_imul {a b c d lo hi : Int} {x y : Int32} (h : gb_iv a b x) (g : gb_iv c d y) (k : (0 ≤ a ∧ 0 ≤ c) ∧ (lo ≤ a * c ∧ b * d ≤ hi) ∧ -2147483648 ≤ lo ∧ hi ≤ 2147483647) : gb_iv lo hi (x * y) := by
  obtain ⟨h1, h2⟩ := h
  obtain ⟨g1, g2⟩ := g
  obtain ⟨⟨k0, k5⟩, ⟨k1, k2⟩, k3, k4⟩ := k
  have m1 : a * c ≤ x.toInt * y.toInt := Int.mul_le_mul h1 g1 k5 (Int.le_trans k0 h1)
  have m2 : x.toInt * y.toInt ≤ b * d := Int.mul_le_mul h2 g2 (Int.le_trans k5 g1) (Int.le_trans k0 (Int.le_trans h1 h2))
  have e := gb_tmul (x := x) (y := y) (by omega) (by omega)
  unfold gb_iv
  rw [e]
  constructor <;> omega
theorem gb_ineg {a b lo hi : Int} {x : Int32} (h : gb_iv a b x) (k : (lo ≤ -b ∧ -a ≤ hi) ∧ -2147483648 ≤ lo ∧ hi ≤ 2147483647) : gb_iv lo hi (-x) := by
  obtain ⟨h1, h2⟩ := h
  obtain ⟨⟨k1, k2⟩, k3, k4⟩ := k
  have e : (-x).toInt = -x.toInt := by
    rw [Int32.toInt_neg]
    exact gb_bm (by omega) (by omega)
  unfold gb_iv
  rw [e]
  constructor <;> omega
theorem gb_tdiv {a b c d : Int} {x y : Int32} (h : gb_iv a b x) (g : gb_iv c d y) (k : 1 ≤ c) : (x / y).toInt = x.toInt.tdiv y.toInt := by
  refine Int32.toInt_div_of_ne_right x y (fun e => ?_)
  have := g.1
  rw [e] at this
  have : (-1 : Int32).toInt = -1 := by decide
  omega
theorem gb_idiv {a b c d lo hi : Int} {x y : Int32} (h : gb_iv a b x) (g : gb_iv c d y) (k : (0 ≤ a ∧ 1 ≤ c) ∧ lo ≤ 0 ∧ b ≤ hi) : gb_iv lo hi (x / y) := by
  have e := gb_tdiv h g k.1.2
  unfold gb_iv
  rw [e]
  obtain ⟨h1, h2⟩ := h
  obtain ⟨g1, g2⟩ := g
  have p1 : 0 ≤ x.toInt.tdiv y.toInt := Int.tdiv_nonneg (by omega) (by omega)
  have p2 : x.toInt.tdiv y.toInt ≤ x.toInt := by
    rw [Int.tdiv_eq_ediv_of_nonneg (by omega)]
    exact Int.ediv_le_self _ (by omega)
  constructor <;> omega
theorem gb_idivc {a b v lo hi : Int} {x y : Int32} (h : gb_iv a b x) (g : y.toInt = v) (k : (0 ≤ a ∧ 1 ≤ v) ∧ lo ≤ a / v ∧ b / v ≤ hi) : gb_iv lo hi (x / y) := by
  have e := gb_tdiv h (gb_ic g) k.1.2
  obtain ⟨h1, h2⟩ := h
  obtain ⟨⟨k0, k1⟩, k2, k3⟩ := k
  unfold gb_iv
  rw [e, g, Int.tdiv_eq_ediv_of_nonneg (by omega)]
  have p1 : a / v ≤ x.toInt / v := Int.ediv_le_ediv (by omega) h1
  have p2 : x.toInt / v ≤ b / v := Int.ediv_le_ediv (by omega) h2
  constructor <;> omega
theorem gb_irem {a b c d lo hi : Int} {x y : Int32} (h : gb_iv a b x) (g : gb_iv c d y) (k : (0 ≤ a ∧ 1 ≤ c) ∧ lo ≤ 0 ∧ (d - 1 ≤ hi ∨ b ≤ hi)) : gb_iv lo hi (x - x / y * y) := by
  have e := gb_tdiv h g k.1.2
  have hb := (gb_it x).2
  have hd := (gb_it y).2
  obtain ⟨h1, h2⟩ := h
  obtain ⟨g1, g2⟩ := g
  obtain ⟨⟨k0, k1⟩, k2, k3⟩ := k
  have q1 : x.toInt.tdiv y.toInt = x.toInt / y.toInt := Int.tdiv_eq_ediv_of_nonneg (by omega)
  have r1 := Int.mul_ediv_add_emod x.toInt y.toInt
  have r2 := Int.emod_nonneg x.toInt (b := y.toInt) (by omega)
  have r3 := Int.emod_lt_of_pos x.toInt (b := y.toInt) (by omega)
  have r4 : y.toInt * (x.toInt / y.toInt) = x.toInt / y.toInt * y.toInt := Int.mul_comm _ _
  have p1 : 0 ≤ x.toInt / y.toInt := Int.ediv_nonneg (by omega) (by omega)
  have p2 : 0 ≤ x.toInt / y.toInt * y.toInt := Int.mul_nonneg p1 (by omega)
  have e2 : (x / y * y).toInt = x.toInt / y.toInt * y.toInt := by
    have := gb_tmul (x := x / y) (y := y) (by rw [e, q1]; omega) (by rw [e, q1]; omega)
    rw [this, e, q1]
  have e3 := gb_tsub (x := x) (y := x / y * y) (by rw [e2]; omega) (by rw [e2]; omega)
  unfold gb_iv
  rw [e3, e2]
  constructor <;> omega
theorem gb_iand {b hi lo : Int} {x y : Int32} (h : gb_iv 0 b x) (k : lo ≤ 0 ∧ b ≤ hi) : gb_iv lo hi (x &&& y) := by
  have e1 : x.toInt = x.toBitVec.toNat := by
    have := h.1
    rw [← Int32.toInt_toBitVec] at this ⊢
    exact BitVec.toInt_eq_toNat_of_lt (by
      have h4 := BitVec.toInt_eq_toNat_cond x.toBitVec
      split at h4 <;> omega)
  have e2 : (x &&& y).toBitVec.toNat ≤ x.toBitVec.toNat := by
    rw [Int32.toBitVec_and, BitVec.toNat_and]
    exact Nat.and_le_left
  have e3 : (x &&& y).toInt = (x &&& y).toBitVec.toNat := by
    rw [← Int32.toInt_toBitVec]
    have := (gb_it x).2
    exact BitVec.toInt_eq_toNat_of_lt (by omega)
  obtain ⟨h1, h2⟩ := h
  unfold gb_iv
  rw [e3]
  constructor <;> omega
theorem gb_iandr {b hi lo : Int} {x y : Int32} (h : gb_iv 0 b y) (k : lo ≤ 0 ∧ b ≤ hi) : gb_iv lo hi (x &&& y) := by
  rw [Int32.and_comm]
  exact gb_iand h k
theorem gb_nn {x : Int32} (h : 0 ≤ x.toInt) : x.toInt = x.toBitVec.toNat := by
  rw [← Int32.toInt_toBitVec] at h ⊢
  exact BitVec.toInt_eq_toNat_of_lt (by
    have h4 := BitVec.toInt_eq_toNat_cond x.toBitVec
    split at h4 <;> omega)
theorem gb_ior {x y : Int32} (h : gb_iv 0 255 x) (g : gb_iv 0 255 y) : gb_iv 0 255 (x ||| y) := by
  have e1 := gb_nn h.1
  have e2 := gb_nn g.1
  obtain ⟨h1, h2⟩ := h
  obtain ⟨g1, g2⟩ := g
  have e4 : (x ||| y).toBitVec.toNat < 2 ^ 8 := by
    rw [Int32.toBitVec_or, BitVec.toNat_or]
    exact Nat.or_lt_two_pow (by omega) (by omega)
  have e3 : (x ||| y).toInt = (x ||| y).toBitVec.toNat := by
    rw [← Int32.toInt_toBitVec]
    exact BitVec.toInt_eq_toNat_of_lt (by omega)
  unfold gb_iv
  rw [e3]
  constructor <;> omega
theorem gb_ieq {x : Int32} {k : Int32} (h : x.toInt = k.toInt) : x = k := Int32.toInt_inj.mp h
theorem gb_ishl {h lo hi : Int} {g : Int32} (i : gb_iv 0 h g) (k : h ≤ 8 ∧ lo ≤ 1 ∧ ∀ j : Fin 9, (j.val : Int) ≤ h → (2 : Int) ^ j.val ≤ hi) : gb_iv lo hi ((1 : Int32) <<< (g &&& 31)) := by
  obtain ⟨i1, i2⟩ := i
  obtain ⟨k1, k2, k3⟩ := k
  have c : g.toInt = 0 ∨ g.toInt = 1 ∨ g.toInt = 2 ∨ g.toInt = 3 ∨ g.toInt = 4 ∨ g.toInt = 5 ∨ g.toInt = 6 ∨ g.toInt = 7 ∨ g.toInt = 8 := by omega
  rcases c with c | c | c | c | c | c | c | c | c
  · have e : g = 0 := gb_ieq (c.trans (by decide))
    subst e
    have q := k3 ⟨0, by decide⟩ (by show ((0 : Nat) : Int) ≤ h; omega)
    exact gb_il (a := 1) (by decide) ⟨Int.le_trans k2 (by decide), q⟩
  · have e : g = 1 := gb_ieq (c.trans (by decide))
    subst e
    have q := k3 ⟨1, by decide⟩ (by show ((1 : Nat) : Int) ≤ h; omega)
    exact gb_il (a := 2) (by decide) ⟨Int.le_trans k2 (by decide), q⟩
  · have e : g = 2 := gb_ieq (c.trans (by decide))
    subst e
    have q := k3 ⟨2, by decide⟩ (by show ((2 : Nat) : Int) ≤ h; omega)
    exact gb_il (a := 4) (by decide) ⟨Int.le_trans k2 (by decide), q⟩
  · have e : g = 3 := gb_ieq (c.trans (by decide))
    subst e
    have q := k3 ⟨3, by decide⟩ (by show ((3 : Nat) : Int) ≤ h; omega)
    exact gb_il (a := 8) (by decide) ⟨Int.le_trans k2 (by decide), q⟩
  · have e : g = 4 := gb_ieq (c.trans (by decide))
    subst e
    have q := k3 ⟨4, by decide⟩ (by show ((4 : Nat) : Int) ≤ h; omega)
    exact gb_il (a := 16) (by decide) ⟨Int.le_trans k2 (by decide), q⟩
  · have e : g = 5 := gb_ieq (c.trans (by decide))
    subst e
    have q := k3 ⟨5, by decide⟩ (by show ((5 : Nat) : Int) ≤ h; omega)
    exact gb_il (a := 32) (by decide) ⟨Int.le_trans k2 (by decide), q⟩
  · have e : g = 6 := gb_ieq (c.trans (by decide))
    subst e
    have q := k3 ⟨6, by decide⟩ (by show ((6 : Nat) : Int) ≤ h; omega)
    exact gb_il (a := 64) (by decide) ⟨Int.le_trans k2 (by decide), q⟩
  · have e : g = 7 := gb_ieq (c.trans (by decide))
    subst e
    have q := k3 ⟨7, by decide⟩ (by show ((7 : Nat) : Int) ≤ h; omega)
    exact gb_il (a := 128) (by decide) ⟨Int.le_trans k2 (by decide), q⟩
  · have e : g = 8 := gb_ieq (c.trans (by decide))
    subst e
    have q := k3 ⟨8, by decide⟩ (by show ((8 : Nat) : Int) ≤ h; omega)
    exact gb_il (a := 256) (by decide) ⟨Int.le_trans k2 (by decide), q⟩
theorem gb_iushr (x : Int32) : gb_iv 0 65535 (((x : Int32).toUInt32 >>> ((16 : Int32).toUInt32 &&& Int32.toUInt32 31)).toInt32) := by
  have h := pk_ushr x 16 16 (by decide)
  have h2 : x.toBitVec.toNat < 2 ^ 32 := x.toBitVec.isLt
  have h3 : x.toBitVec.toNat / 2 ^ 16 < 65536 := by omega
  rw [← h] at h3
  generalize ((x : Int32).toUInt32 >>> ((16 : Int32).toUInt32 &&& Int32.toUInt32 31)).toInt32 = y at h3
  have e : y.toInt = y.toBitVec.toNat := by
    rw [← Int32.toInt_toBitVec]
    exact BitVec.toInt_eq_toNat_of_lt (by omega)
  unfold gb_iv
  rw [e]
  constructor <;> omega
theorem gb_iite {a b : Int} {x y : Int32} {c : Prop} [Decidable c] (h : gb_iv a b x) (g : gb_iv a b y) : gb_iv a b (if c then x else y) := by
  by_cases z : c
  · rw [if_pos z]
    exact h
  · rw [if_neg z]
    exact g
theorem gb_imin {a b c d lo hi : Int} {x y : Int32} (h : gb_iv a b x) (g : gb_iv c d y) (k : (lo ≤ a ∧ lo ≤ c) ∧ (b ≤ hi ∨ d ≤ hi)) : gb_iv lo hi (if y < x then y else x) := by
  obtain ⟨h1, h2⟩ := h
  obtain ⟨g1, g2⟩ := g
  by_cases z : y < x
  · rw [if_pos z]
    have := Int32.lt_iff_toInt_lt.mp z
    constructor <;> omega
  · rw [if_neg z]
    have h9 : ¬ y.toInt < x.toInt := fun q => z (Int32.lt_iff_toInt_lt.mpr q)
    constructor <;> omega
theorem gb_imax {a b c d lo hi : Int} {x y : Int32} (h : gb_iv a b x) (g : gb_iv c d y) (k : (b ≤ hi ∧ d ≤ hi) ∧ (lo ≤ a ∨ lo ≤ c)) : gb_iv lo hi (if x < y then y else x) := by
  obtain ⟨h1, h2⟩ := h
  obtain ⟨g1, g2⟩ := g
  by_cases z : x < y
  · rw [if_pos z]
    have := Int32.lt_iff_toInt_lt.mp z
    constructor <;> omega
  · rw [if_neg z]
    have h9 : ¬ x.toInt < y.toInt := fun q => z (Int32.lt_iff_toInt_lt.mpr q)
    constructor <;> omega
theorem gb_dlt {x y : Int32} (c : x < y) : x.toInt + 1 ≤ y.toInt := Int32.lt_iff_toInt_lt.mp c
theorem gb_dle {x y : Int32} (c : x ≤ y) : x.toInt + 0 ≤ y.toInt := by
  have := Int32.le_iff_toInt_le.mp c
  omega
theorem gb_dnlt {x y : Int32} (c : ¬ x < y) : y.toInt + 0 ≤ x.toInt := by
  have h9 : ¬ x.toInt < y.toInt := fun q => c (Int32.lt_iff_toInt_lt.mpr q)
  omega
theorem gb_dnle {x y : Int32} (c : ¬ x ≤ y) : y.toInt + 1 ≤ x.toInt := by
  have h9 : ¬ x.toInt ≤ y.toInt := fun q => c (Int32.le_iff_toInt_le.mpr q)
  omega
theorem gb_deq {x y : Int32} (c : x = y) : x.toInt + 0 ≤ y.toInt := by rw [c]; omega
theorem gb_deq2 {x y : Int32} (c : x = y) : y.toInt + 0 ≤ x.toInt := by rw [c]; omega
theorem gb_rU {s a b p q lo hi : Int} {x y : Int32} (c : x.toInt + s ≤ y.toInt) (h : gb_iv a b x) (g : gb_iv p q y) (k : lo ≤ a ∧ (b ≤ hi ∨ q - s ≤ hi)) : gb_iv lo hi x := by
  obtain ⟨h1, h2⟩ := h
  obtain ⟨g1, g2⟩ := g
  constructor <;> omega
theorem gb_rL {s a b p q lo hi : Int} {x y : Int32} (c : y.toInt + s ≤ x.toInt) (h : gb_iv a b x) (g : gb_iv p q y) (k : b ≤ hi ∧ (lo ≤ a ∨ lo ≤ p + s)) : gb_iv lo hi x := by
  obtain ⟨h1, h2⟩ := h
  obtain ⟨g1, g2⟩ := g
  constructor <;> omega
theorem gb_rN {a b v lo hi : Int} {x y : Int32} (c : ¬ x = y) (h : gb_iv a b x) (e : y.toInt = v) (k : (lo ≤ a ∨ (a = v ∧ lo ≤ a + 1)) ∧ (b ≤ hi ∨ (b = v ∧ b - 1 ≤ hi))) : gb_iv lo hi x := by
  have hne : x.toInt ≠ v := fun q => c (gb_ieq (q.trans e.symm))
  obtain ⟨h1, h2⟩ := h
  constructor <;> omega
theorem gb_em {a b : Int} {x : Int32} (h : gb_iv a b x) (k : b < a) : False := by
  obtain ⟨h1, h2⟩ := h
  omega
theorem gb_vadd {a b lo hi v : Int} {x y : Int32} (h : gb_iv a b (x + y)) (e : y.toInt = v) (k : (lo ≤ a - v ∧ b - v ≤ hi) ∧ -2147483648 ≤ lo ∧ hi ≤ 2147483647) : gb_iv lo hi x := by
  have e1 : x = (x + y) - y := by rw [Int32.add_sub_cancel]
  rw [e1]
  exact gb_isub h (gb_il (lo := v) (hi := v) e ⟨Int.le_refl v, Int.le_refl v⟩) k
theorem gb_vsub {a b lo hi v : Int} {x y : Int32} (h : gb_iv a b (x - y)) (e : y.toInt = v) (k : (lo ≤ a + v ∧ b + v ≤ hi) ∧ -2147483648 ≤ lo ∧ hi ≤ 2147483647) : gb_iv lo hi x := by
  have e1 : x = (x - y) + y := by rw [Int32.sub_add_cancel]
  rw [e1]
  exact gb_iadd h (gb_il (lo := v) (hi := v) e ⟨Int.le_refl v, Int.le_refl v⟩) k
theorem gb_fuu {lo hi : Int} {v : Int32} {n : Nat} (hn : gb_N ≤ n) (i : gb_iv lo hi v) (k : hi - lo < 8589934592) : (hi - v.toInt).toNat < n := by
  obtain ⟨i1, i2⟩ := i
  unfold gb_N at hn
  omega
theorem gb_fud {lo hi : Int} {v : Int32} {n : Nat} (hn : gb_N ≤ n) (i : gb_iv lo hi v) (k : hi - lo < 8589934592) : (v.toInt - lo).toNat < n := by
  obtain ⟨i1, i2⟩ := i
  unfold gb_N at hn
  omega
theorem gb_mup {a b hi : Int} {v x : Int32} {mm : Nat} (e : x = v + 1) (i : gb_iv a b v) (k : b < hi ∧ hi ≤ 2147483647) (h : (hi - v.toInt).toNat < mm + 1) : (hi - x.toInt).toNat < mm := by
  have h1 : (1 : Int32).toInt = 1 := by decide
  have h3 := (gb_it v).1
  have h4 := i.2
  have h2 := gb_tadd (x := v) (y := 1) (by rw [h1]; omega) (by rw [h1]; omega)
  rw [e, h2, h1]
  omega
theorem gb_mdn {a b lo : Int} {v x : Int32} {mm : Nat} (e : x = v + (-1)) (i : gb_iv a b v) (k : lo < a ∧ -2147483648 ≤ lo) (h : (v.toInt - lo).toNat < mm + 1) : (x.toInt - lo).toNat < mm := by
  have h1 : (-1 : Int32).toInt = -1 := by decide
  have h3 := (gb_it v).2
  have h4 := i.1
  have h2 := gb_tadd (x := v) (y := -1) (by rw [h1]; omega) (by rw [h1]; omega)
  rw [e, h2, h1]
  omega
def gb_tm {ρ : Type} (x : gb_MR ρ) (Q : gb_F → Int64 → ρ → Prop) : Prop := ∃ (f : gb_F) (w : Int64) (r : ρ), x = some (f, w, r) ∧ Q f w r
theorem gm_ck {ρ : Type} {a b : Int} {i : Int32} {n : Nat} {k : gb_MR ρ} {Q : gb_F → Int64 → ρ → Prop} (h : gb_iv a b i) (c : 0 ≤ a ∧ b < (n : Int)) (H : gb_tm k Q) : gb_tm (gb_ck i n k) Q := by
  unfold gb_ck
  rw [if_pos ⟨Int.le_trans c.1 h.1, Int.lt_of_le_of_lt h.2 c.2⟩]
  exact H
theorem gm_nz {ρ : Type} {a b : Int} {i : Int32} {k : gb_MR ρ} {Q : gb_F → Int64 → ρ → Prop} (h : gb_iv a b i) (c : 1 ≤ a) (H : gb_tm k Q) : gb_tm (gb_nz i k) Q := by
  unfold gb_nz
  have : ¬ i = 0 := fun e => by
    have h1 := h.1
    rw [e] at h1
    have : (0 : Int32).toInt = 0 := by decide
    omega
  rw [if_neg this]
  exact H
theorem gm_cb {ρ : Type} {i : Int32} {k : gb_MR ρ} {Q : gb_F → Int64 → ρ → Prop} (h : gb_iv 0 1 i) (H : gb_tm k Q) : gb_tm (gb_cb i k) Q := by
  unfold gb_cb
  have : i = 0 ∨ i = 1 := by
    obtain ⟨h1, h2⟩ := h
    have c : i.toInt = 0 ∨ i.toInt = 1 := by omega
    rcases c with c | c
    · exact Or.inl (gb_ieq (c.trans (by decide)))
    · exact Or.inr (gb_ieq (c.trans (by decide)))
  rw [if_pos this]
  exact H
theorem gm_lti {ρ : Type} {lo hi : Int} {v : Int32} {k : Int32 → gb_MR ρ} {Q : gb_F → Int64 → ρ → Prop} (h : gb_iv lo hi v) (H : ∀ x, x = v → gb_iv lo hi x → gb_tm (k x) Q) : gb_tm (gb_lt v k) Q := H v rfl h
theorem gm_lt {ρ α : Type} {v : α} {k : α → gb_MR ρ} {Q : gb_F → Int64 → ρ → Prop} (H : ∀ x, x = v → gb_tm (k x) Q) : gb_tm (gb_lt v k) Q := H v rfl
theorem gm_if {ρ : Type} {c : Prop} [Decidable c] {x y : gb_MR ρ} {Q : gb_F → Int64 → ρ → Prop} (H : c → gb_tm x Q) (G : ¬ c → gb_tm y Q) : gb_tm (if c then x else y) Q := by
  by_cases z : c
  · rw [if_pos z]
    exact H z
  · rw [if_neg z]
    exact G z
theorem gm_some {ρ : Type} {f : gb_F} {w : Int64} {r : ρ} {Q : gb_F → Int64 → ρ → Prop} (H : Q f w r) : gb_tm (some (f, w, r) : gb_MR ρ) Q := ⟨f, w, r, rfl, H⟩
theorem gm_mono {ρ : Type} {x : gb_MR ρ} {P Q : gb_F → Int64 → ρ → Prop} (h : gb_tm x P) (H : ∀ f w r, P f w r → Q f w r) : gb_tm x Q := by
  obtain ⟨f, w, r, e, hp⟩ := h
  exact ⟨f, w, r, e, H _ _ _ hp⟩
theorem gm_bd {ρ τ : Type} {x : gb_MR ρ} {k : gb_F → Int64 → ρ → gb_MR τ} {P : gb_F → Int64 → ρ → Prop} {Q : gb_F → Int64 → τ → Prop} (h : gb_tm x P) (H : ∀ f w r, P f w r → gb_tm (k f w r) Q) : gb_tm (gb_bd x k) Q := by
  obtain ⟨f, w, r, e, hp⟩ := h
  rw [e]
  exact H f w r hp
theorem gm_bdP {ρ τ : Type} {x : gb_MR ρ} {k : gb_F → Int64 → ρ → gb_MR τ} {f : gb_F} {w : Int64} {R : ρ → Prop} {Q : gb_F → Int64 → τ → Prop} (h : gb_tm x (fun f2 w2 r => f2 = f ∧ w2 = w ∧ R r)) (H : ∀ r, R r → gb_tm (k f w r) Q) : gb_tm (gb_bd x k) Q := by
  obtain ⟨f2, w2, r, e, hf, hw, hp⟩ := h
  subst hf
  subst hw
  rw [e]
  exact H r hp
def gb_tc {ρ : Type} (x : gb_CR ρ) (Q : gb_S → ρ → Prop) : Prop := ∃ (σ : gb_S) (r : ρ), x = some (σ, r) ∧ Q σ r
theorem gc_ck {ρ : Type} {a b : Int} {i : Int32} {n : Nat} {k : gb_CR ρ} {Q : gb_S → ρ → Prop} (h : gb_iv a b i) (c : 0 ≤ a ∧ b < (n : Int)) (H : gb_tc k Q) : gb_tc (gb_ck i n k) Q := by
  unfold gb_ck
  rw [if_pos ⟨Int.le_trans c.1 h.1, Int.lt_of_le_of_lt h.2 c.2⟩]
  exact H
theorem gc_nz {ρ : Type} {a b : Int} {i : Int32} {k : gb_CR ρ} {Q : gb_S → ρ → Prop} (h : gb_iv a b i) (c : 1 ≤ a) (H : gb_tc k Q) : gb_tc (gb_nz i k) Q := by
  unfold gb_nz
  have : ¬ i = 0 := fun e => by
    have h1 := h.1
    rw [e] at h1
    have : (0 : Int32).toInt = 0 := by decide
    omega
  rw [if_neg this]
  exact H
theorem gc_cb {ρ : Type} {i : Int32} {k : gb_CR ρ} {Q : gb_S → ρ → Prop} (h : gb_iv 0 1 i) (H : gb_tc k Q) : gb_tc (gb_cb i k) Q := by
  unfold gb_cb
  have : i = 0 ∨ i = 1 := by
    obtain ⟨h1, h2⟩ := h
    have c : i.toInt = 0 ∨ i.toInt = 1 := by omega
    rcases c with c | c
    · exact Or.inl (gb_ieq (c.trans (by decide)))
    · exact Or.inr (gb_ieq (c.trans (by decide)))
  rw [if_pos this]
  exact H
theorem gc_lti {ρ : Type} {lo hi : Int} {v : Int32} {k : Int32 → gb_CR ρ} {Q : gb_S → ρ → Prop} (h : gb_iv lo hi v) (H : ∀ x, x = v → gb_iv lo hi x → gb_tc (k x) Q) : gb_tc (gb_lt v k) Q := H v rfl h
theorem gc_lt {ρ α : Type} {v : α} {k : α → gb_CR ρ} {Q : gb_S → ρ → Prop} (H : ∀ x, x = v → gb_tc (k x) Q) : gb_tc (gb_lt v k) Q := H v rfl
theorem gc_if {ρ : Type} {c : Prop} [Decidable c] {x y : gb_CR ρ} {Q : gb_S → ρ → Prop} (H : c → gb_tc x Q) (G : ¬ c → gb_tc y Q) : gb_tc (if c then x else y) Q := by
  by_cases z : c
  · rw [if_pos z]
    exact H z
  · rw [if_neg z]
    exact G z
theorem gc_some {ρ : Type} {σ : gb_S} {r : ρ} {Q : gb_S → ρ → Prop} (H : Q σ r) : gb_tc (some (σ, r) : gb_CR ρ) Q := ⟨σ, r, rfl, H⟩
theorem gc_mono {ρ : Type} {x : gb_CR ρ} {P Q : gb_S → ρ → Prop} (h : gb_tc x P) (H : ∀ σ r, P σ r → Q σ r) : gb_tc x Q := by
  obtain ⟨σ, r, e, hp⟩ := h
  exact ⟨σ, r, e, H _ _ hp⟩
theorem gc_cd {ρ τ : Type} {x : gb_CR ρ} {k : gb_S → ρ → gb_CR τ} {P : gb_S → ρ → Prop} {Q : gb_S → τ → Prop} (h : gb_tc x P) (H : ∀ σ r, P σ r → gb_tc (k σ r) Q) : gb_tc (gb_cd x k) Q := by
  obtain ⟨σ, r, e, hp⟩ := h
  rw [e]
  exact H σ r hp
theorem gc_kk {τ : Type} {c : Bool} {k : gb_CR τ} {Q : gb_S → τ → Prop} (h : c = true) (H : gb_tc k Q) : gb_tc (gb_kk c k) Q := by
  unfold gb_kk
  rw [if_pos h]
  exact H
theorem gc_ac {τ : Type} {sp dp m : Int32} {n0 n1 : Nat} {k : gb_CR τ} {a b c d u v : Int} {Q : gb_S → τ → Prop} (h1 : gb_iv a b sp) (h2 : gb_iv c d dp) (h3 : gb_iv u v m) (z : (0 ≤ a ∧ 0 ≤ c ∧ 0 ≤ u) ∧ b + v ≤ n0 ∧ d + v ≤ n1) (H : gb_tc k Q) : gb_tc (gb_ac sp dp m n0 n1 k) Q := by
  obtain ⟨h1, h1'⟩ := h1
  obtain ⟨h2, h2'⟩ := h2
  obtain ⟨h3, h3'⟩ := h3
  unfold gb_ac
  rw [if_pos ⟨by omega, by omega, by omega, by omega, by omega⟩]
  exact H
