/-! BITS -/
theorem and_1 (y : Int32) : (y &&& 1 = 1) ↔ y.toBitVec.getLsbD 0 = true := by
  have h : (y &&& 1).toBitVec = (BitVec.ofBool (y.toBitVec.getLsbD 0)).setWidth 32 := by
    rw [Int32.toBitVec_and]
    exact BitVec.and_one_eq_setWidth_ofBool_getLsbD
  cases hb : y.toBitVec.getLsbD 0
  · refine ⟨fun e => ?_, fun e => absurd e (by decide)⟩
    rw [e, hb] at h
    exact absurd h (by decide)
  · refine ⟨fun _ => rfl, fun _ => Int32.toBitVec_inj.mp ?_⟩
    rw [h, hb]
    rfl
theorem sh_n : ∀ g : Fin 8, ((((Int32.ofNat g.val) &&& 31)).toBitVec.smod 32).toNat = g.val := by decide
theorem tb_bit {x v : Int32} {g : Nat} (e : v.toInt = g) (hg : g < 8) : (((x >>> (v &&& 31)) &&& 1) = 1) ↔ gb_tbt x g = true := by
  rw [and_1]
  have ev : v = Int32.ofNat g := gi_nI e (by omega)
  have hs : ((v &&& 31).toBitVec.smod 32).toNat = g := by
    rw [ev]
    exact sh_n ⟨g, hg⟩
  have e2 : (x >>> (v &&& 31)).toBitVec = x.toBitVec.sshiftRight g := by
    show x.toBitVec.sshiftRight ((v &&& 31).toBitVec.smod 32).toNat = _
    rw [hs]
  rw [e2, BitVec.getLsbD_sshiftRight, if_pos (show g + 0 < 32 by omega), Nat.add_zero]
  unfold gb_tbt
  cases x.toBitVec.getLsbD g <;> decide
theorem tb_z (g : Nat) : gb_tbt 0 g = false := by
  unfold gb_tbt
  exact BitVec.getLsbD_zero
/-! who is where -/
def gb_wm (f : gb_F) (v : Int32) : Nat → Int32
  | 0 => 0
  | g + 1 => if f 4 g = v then gb_wm f v g ||| ((1 : Int32) <<< (Int32.ofNat g &&& 31)) else gb_wm f v g
def gb_wsm (R : Nat → Int32) (f : gb_F) (v : Int32) : Nat → Int32
  | 0 => 0
  | g + 1 => if f 4 g = v then gb_wsm R f v g + R (18 + 5 * g + 4) else gb_wsm R f v g
def gb_wn (f : gb_F) : Nat → Int32
  | 0 => 0
  | g + 1 => if ¬ f 8 g = 0 ∧ f 5 g = 0 then gb_wn f g ||| ((1 : Int32) <<< (Int32.ofNat g &&& 31)) else gb_wn f g
theorem wm_b {f : gb_F} {v : Int32} : ∀ k g, k ≤ 8 → g < 8 → (gb_tbt (gb_wm f v k) g = true ↔ (g < k ∧ f 4 g = v)) := by
  intro k
  induction k with
  | zero =>
    intro g _ _
    rw [show gb_wm f v 0 = 0 from rfl, tb_z]
    exact ⟨fun z => absurd z (by decide), fun z => absurd z.1 (by omega)⟩
  | succ k ih =>
    intro g hk hg
    have st : gb_wm f v (k + 1) = if f 4 k = v then gb_wm f v k ||| ((1 : Int32) <<< (Int32.ofNat k &&& 31)) else gb_wm f v k := rfl
    have i := ih g (by omega) hg
    rw [st]
    by_cases c : f 4 k = v
    · rw [if_pos c, tb_or, tb_one (x := Int32.ofNat k) (nI_toInt (by omega)) (by omega) hg, Bool.or_eq_true, i]
      constructor
      · intro z
        rcases z with z | z
        · exact ⟨by omega, z.2⟩
        · have := of_decide_eq_true z
          subst this
          exact ⟨by omega, c⟩
      · intro z
        by_cases d : g = k
        · exact Or.inr (decide_eq_true d)
        · exact Or.inl ⟨by omega, z.2⟩
    · rw [if_neg c, i]
      refine ⟨fun z => ⟨by omega, z.2⟩, fun z => ⟨?_, z.2⟩⟩
      by_cases d : g = k
      · subst d
        exact absurd z.2 c
      · omega
theorem ch_whoIs {n k0 k1 : Nat} {σ : gb_S} {f : gb_F} {R NR : Nat → Int32} {t : Prop} {v : Int32} (h : gb_PC k0 k1 R NR σ) (hR : gb_rB R) (hP : gb_PR R t σ f) : gb_hc (cs_Play_whoIs n σ v) (fun s r => s = σ ∧ r = gb_wm f v (gb_nG R)) := by
  have h8 := (rB_nG hR).2
  have gE := (rB_nG hR).1
  have go : ∀ (mm : Nat) (a x : Int32) (k : Nat), x.toInt = k → k ≤ gb_nG R → a = gb_wm f v k → gb_hc (cs_Play_whoIs_4 n mm σ v a x) (fun s r => s = σ ∧ r = gb_wm f v (gb_nG R)) := by
    intro mm
    induction mm with
    | zero =>
      intros
      exact hc_none
    | succ mm ih =>
      intro a x k e hk ea
      rw [cs_Play_whoIs_4, h.1]
      refine hc_kk (fun _ => hc_cd ch_geese (fun s r g => ?_))
      obtain ⟨g1, g2⟩ := g
      subst s
      have eR : σ.1 (k0 + 1) 1 = R 1 := (h.2.1.2.1 rfl).1
      rw [eR] at g2
      subst g2
      refine hc_if (fun c => hc_some ⟨rfl, ?_⟩) (fun c => ?_)
      · have := gi_le c
        rw [ea, show k = gb_nG R by omega]
      · have c' := gi_nle c
        have st : gb_wm f v (k + 1) = if f 4 k = v then gb_wm f v k ||| ((1 : Int32) <<< (Int32.ofNat k &&& 31)) else gb_wm f v k := rfl
        have ex : x = Int32.ofNat k := gi_nI e (by omega)
        rw [gi_tn e]
        refine hc_ck (fun _ _ => hc_lt (fun y ey => ?_))
        rw [(hP.1 k (by omega)).1] at ey
        refine hc_if (fun d => hc_lt (fun a2 ea2 => hc_lt (fun x2 ex2 => ih a2 x2 (k + 1) (gi_1 e (by omega) ex2) (by omega) ?_))) (fun d => hc_lt (fun x2 ex2 => ih a x2 (k + 1) (gi_1 e (by omega) ex2) (by omega) ?_))
        · rw [st, if_pos (by rw [← ey]; exact d), ea2, ea, ex]
        · rw [st, if_neg (by rw [← ey]; exact d), ea]
  unfold cs_Play_whoIs
  exact go n 0 0 0 (by decide) (Nat.zero_le _) rfl
theorem ch_worthOf {n k0 : Nat} {σ : gb_S} {f : gb_F} {R : Nat → Int32} {v : Int32} (hb : gb_cbx k0 R σ) (hR : gb_rB R) : gb_hc (cs_Border_worthOf_B n σ k0 (gb_wm f v (gb_nG R))) (fun s r => s = σ ∧ r = gb_wsm R f v (gb_nG R)) := by
  have h8 := (rB_nG hR).2
  have gE := (rB_nG hR).1
  have go : ∀ (mm : Nat) (a x : Int32) (k : Nat), x.toInt = k → k ≤ gb_nG R → a = gb_wsm R f v k → gb_hc (cs_Border_worthOf_B_4 n mm σ k0 (gb_wm f v (gb_nG R)) a x) (fun s r => s = σ ∧ r = gb_wsm R f v (gb_nG R)) := by
    intro mm
    induction mm with
    | zero =>
      intros
      exact hc_none
    | succ mm ih =>
      intro a x k e hk ea
      rw [cs_Border_worthOf_B_4]
      refine hc_kk (fun _ => hc_cd ch_geese (fun s r g => ?_))
      obtain ⟨g1, g2⟩ := g
      subst s
      have eR : σ.1 (k0 + 1) 1 = R 1 := (hb.2.1 rfl).1
      rw [eR] at g2
      subst g2
      refine hc_if (fun c => hc_some ⟨rfl, ?_⟩) (fun c => ?_)
      · have := gi_le c
        rw [ea, show k = gb_nG R by omega]
      · have c' := gi_nle c
        have hkc : k < gb_nG R := by omega
        have st : gb_wsm R f v (k + 1) = if f 4 k = v then gb_wsm R f v k + R (18 + 5 * k + 4) else gb_wsm R f v k := rfl
        refine hc_if (fun d => hc_cd (ch_worth hb hR e hkc) (fun s r g => ?_)) (fun d => hc_lt (fun x2 ex2 => ih a x2 (k + 1) (gi_1 e (by omega) ex2) (by omega) ?_))
        · obtain ⟨g1, g2⟩ := g
          subst s
          have y := ((wm_b _ _ h8 (by omega)).mp ((tb_bit e (by omega)).mp d)).2
          refine hc_lt (fun a2 ea2 => hc_lt (fun x2 ex2 => ih a2 x2 (k + 1) (gi_1 e (by omega) ex2) (by omega) ?_))
          rw [st, if_pos y, ea2, ea, g2]
        · have y : ¬ f 4 k = v := fun z => d ((tb_bit e (by omega)).mpr ((wm_b _ _ h8 (by omega)).mpr ⟨hkc, z⟩))
          rw [st, if_neg y, ea]
  unfold cs_Border_worthOf_B
  exact hc_kk (fun _ => go n 0 0 0 (by decide) (Nat.zero_le _) rfl)
theorem ch_worn {n k0 k1 : Nat} {σ : gb_S} {f : gb_F} {R NR : Nat → Int32} {t : Prop} (h : gb_PC k0 k1 R NR σ) (hR : gb_rB R) (hP : gb_PR R t σ f) : gb_hc (cs_Play_worn n σ) (fun s r => s = σ ∧ r = gb_wn f (gb_nG R)) := by
  have h8 := (rB_nG hR).2
  have gE := (rB_nG hR).1
  have go : ∀ (mm : Nat) (a x : Int32) (k : Nat), x.toInt = k → k ≤ gb_nG R → a = gb_wn f k → gb_hc (cs_Play_worn_4 n mm σ a x) (fun s r => s = σ ∧ r = gb_wn f (gb_nG R)) := by
    intro mm
    induction mm with
    | zero =>
      intros
      exact hc_none
    | succ mm ih =>
      intro a x k e hk ea
      rw [cs_Play_worn_4]
      have hpc := h.1
      refine hc_kk (fun _ => ?_)
      rw [hpc]
      refine hc_cd ch_geese (fun s r g => ?_)
      obtain ⟨g1, g2⟩ := g
      subst s
      have eR : σ.1 (k0 + 1) 1 = R 1 := (h.2.1.2.1 rfl).1
      rw [eR] at g2
      subst g2
      refine hc_if (fun c => hc_some ⟨rfl, ?_⟩) (fun c => ?_)
      · have := gi_le c
        rw [ea, show k = gb_nG R by omega]
      · have c' := gi_nle c
        have hkc : k < gb_nG R := by omega
        have st : gb_wn f (k + 1) = if ¬ f 8 k = 0 ∧ f 5 k = 0 then gb_wn f k ||| ((1 : Int32) <<< (Int32.ofNat k &&& 31)) else gb_wn f k := rfl
        have ex : x = Int32.ofNat k := gi_nI e (by omega)
        have p6 := hP.2.2.2.2.2 k hkc
        refine hc_kk (fun _ => ?_)
        rw [hpc]
        refine hc_cd (ch_boots h.2.1 hR e hkc) (fun s r g => ?_)
        obtain ⟨g1, g2⟩ := g
        subst s
        have z0 : (0 : Int32).toInt = 0 := by decide
        have yes : (¬ f 8 k = 0) → gb_hc (cs_Play_worn_38 n (fun σ v1 v2 => cs_Play_worn_4 n mm σ v1 v2) σ a x) (fun s r => s = σ ∧ r = gb_wn f (gb_nG R)) := by
          intro q8
          unfold cs_Play_worn_38 cs_Play_worn_43
          rw [if_neg (by decide), gi_tn e]
          refine hc_ck (fun _ _ => hc_lt (fun y ey => ?_))
          rw [(hP.1 k (by omega)).2.1] at ey
          refine hc_if (fun d => hc_lt (fun a2 ea2 => hc_lt (fun x2 ex2 => ih a2 x2 (k + 1) (gi_1 e (by omega) ex2) (by omega) ?_))) (fun d => hc_lt (fun x2 ex2 => ih a x2 (k + 1) (gi_1 e (by omega) ex2) (by omega) ?_))
          · rw [st, if_pos ⟨q8, by rw [← ey]; exact d⟩, ea2, ea, ex]
          · rw [st, if_neg (fun z => d (by rw [ey]; exact z.2)), ea]
        refine hc_if (fun d => yes (p6.mpr (Or.inl ?_))) (fun d => hc_if (fun d2 => yes (p6.mpr (Or.inr ((tb_bit e (by omega)).mp d2)))) (fun d2 => ?_))
        · have := gi_lt d
          rw [g2] at this
          omega
        · unfold cs_Play_worn_43
          rw [if_pos rfl]
          refine hc_lt (fun x2 ex2 => ih a x2 (k + 1) (gi_1 e (by omega) ex2) (by omega) ?_)
          have n8 : ¬ ¬ f 8 k = 0 := fun z => by
            rcases p6.mp z with y | y
            · have := gi_nlt d
              rw [g2] at this
              omega
            · exact d2 ((tb_bit e (by omega)).mpr y)
          rw [st, if_neg (fun z => n8 z.1), ea]
  unfold cs_Play_worn
  exact go n 0 0 0 (by decide) (Nat.zero_le _) rfl
theorem mh_worn {n m : Nat} {f : gb_F} {w : Int64} {R : Nat → Int32} (h : gb_mbx m R f) : gb_hm (ms_worn n f w) (fun f2 w2 r => f2 = f ∧ w2 = w ∧ r = gb_wn f (gb_nG R)) := by
  have hR := mbx_rB h
  have h8 := (rB_nG hR).2
  have gE := (rB_nG hR).1
  have go : ∀ (mm : Nat) (a x : Int32) (k : Nat), x.toInt = k → k ≤ gb_nG R → a = gb_wn f k → gb_hm (ms_worn_4 n mm f w a x) (fun f2 w2 r => f2 = f ∧ w2 = w ∧ r = gb_wn f (gb_nG R)) := by
    intro mm
    induction mm with
    | zero =>
      intros
      exact hm_none
    | succ mm ih =>
      intro a x k e hk ea
      rw [ms_worn_4]
      refine hm_bd (mx_geese h) (fun f1 w1 r g => ?_)
      obtain ⟨g1, g2, g3⟩ := g
      subst f1
      subst w1
      subst g3
      refine hm_if (fun c => hm_some ⟨rfl, rfl, ?_⟩) (fun c => ?_)
      · have := gi_le c
        rw [ea, show k = gb_nG R by omega]
      · have c' := gi_nle c
        have st : gb_wn f (k + 1) = if ¬ f 8 k = 0 ∧ f 5 k = 0 then gb_wn f k ||| ((1 : Int32) <<< (Int32.ofNat k &&& 31)) else gb_wn f k := rfl
        have ex : x = Int32.ofNat k := gi_nI e (by omega)
        rw [gi_tn e]
        refine hm_ck (fun _ _ => hm_lt (fun y ey => ?_))
        refine hm_if (fun d => hm_lt (fun a2 ea2 => hm_lt (fun x2 ex2 => ih a2 x2 (k + 1) (gi_1 e (by omega) ex2) (by omega) ?_))) (fun d => hm_ck (fun _ _ => hm_lt (fun y2 ey2 => ?_)))
        · rw [st, if_neg (fun z => z.1 (by rw [← ey]; exact d)), ea2, ea, Int32.or_zero]
        · refine hm_if (fun d2 => hm_lt (fun a2 ea2 => hm_lt (fun x2 ex2 => ih a2 x2 (k + 1) (gi_1 e (by omega) ex2) (by omega) ?_))) (fun d2 => hm_lt (fun a2 ea2 => hm_lt (fun x2 ex2 => ih a2 x2 (k + 1) (gi_1 e (by omega) ex2) (by omega) ?_)))
          · rw [st, if_pos ⟨by rw [← ey]; exact d, by rw [← ey2]; exact d2⟩, ea2, ea, ex]
          · rw [st, if_neg (fun z => d2 (by rw [ey2]; exact z.2)), ea2, ea, Int32.or_zero]
  unfold ms_worn
  exact go n 0 0 0 (by decide) (Nat.zero_le _) rfl
theorem mh_state79 {n m : Nat} {f : gb_F} {w : Int64} {R : Nat → Int32} {v4 v : Int32} (h : gb_mbx m R f) (ev : v4 - v4 / 3 * 3 = v) : ∀ (mm : Nat) (a s x : Int32) (k : Nat), x.toInt = k → k ≤ gb_nG R → a = gb_wm f v k → s = gb_wsm R f v k → gb_hm (ms_state_79 n mm f w v4 a s x) (fun _ _ r => r = if (3 : Int32) ≤ v4 then gb_wsm R f v (gb_nG R) else gb_wm f v (gb_nG R)) := by
  have hR := mbx_rB h
  have h8 := (rB_nG hR).2
  have gE := (rB_nG hR).1
  intro mm
  induction mm with
  | zero =>
    intros
    exact hm_none
  | succ mm ih =>
    intro a s x k e hk ea es
    rw [ms_state_79]
    refine hm_bd (mx_geese h) (fun f1 w1 r g => ?_)
    obtain ⟨g1, g2, g3⟩ := g
    subst f1
    subst w1
    subst g3
    refine hm_if (fun c => hm_if (fun d => hm_some ?_) (fun d => hm_some ?_)) (fun c => ?_)
    · have := gi_le c
      rw [if_pos d, es, show k = gb_nG R by omega]
    · have := gi_le c
      rw [if_neg d, ea, show k = gb_nG R by omega]
    · have c' := gi_nle c
      have st : gb_wm f v (k + 1) = if f 4 k = v then gb_wm f v k ||| ((1 : Int32) <<< (Int32.ofNat k &&& 31)) else gb_wm f v k := rfl
      have ss : gb_wsm R f v (k + 1) = if f 4 k = v then gb_wsm R f v k + R (18 + 5 * k + 4) else gb_wsm R f v k := rfl
      have ex : x = Int32.ofNat k := gi_nI e (by omega)
      rw [gi_tn e]
      have rest : ∀ t0 : Int32, (a ||| t0) = gb_wm f v (k + 1) → gb_hm (ms_state_112 n (fun f w v4 v5 v6 v7 => ms_state_79 n mm f w v4 v5 v6 v7) f w v4 s x t0 a) (fun _ _ r => r = if (3 : Int32) ≤ v4 then gb_wsm R f v (gb_nG R) else gb_wm f v (gb_nG R)) := by
        intro t0 et
        unfold ms_state_112
        rw [gi_tn e]
        refine hm_lt (fun a2 ea2 => hm_ck (fun _ _ => hm_lt (fun y ey => hm_lt (fun u eu => ?_))))
        rw [ev] at eu
        refine hm_if (fun d => hm_bd (mx_ofGoose h e (by omega) (j := 4) (by decide) (by decide)) (fun f1 w1 r g => ?_)) (fun d => hm_lt (fun s2 es2 => hm_lt (fun x2 ex2 => ih a2 s2 x2 (k + 1) (gi_1 e (by omega) ex2) (by omega) (by rw [ea2, et]) ?_)))
        · obtain ⟨g1, g2, g3⟩ := g
          subst f1
          subst w1
          refine hm_lt (fun s2 es2 => hm_lt (fun x2 ex2 => ih a2 s2 x2 (k + 1) (gi_1 e (by omega) ex2) (by omega) (by rw [ea2, et]) ?_))
          rw [ss, if_pos (by rw [← ey, ← eu]; exact d), es2, es, g3]
        · rw [ss, if_neg (by rw [← ey, ← eu]; exact d), es2, es, Int32.add_zero]
      refine hm_ck (fun _ _ => hm_lt (fun y ey => hm_lt (fun u eu => ?_)))
      rw [ev] at eu
      refine hm_if (fun d => rest _ ?_) (fun d => rest _ ?_)
      · rw [st, if_pos (by rw [← ey, ← eu]; exact d), ea, ex]
      · rw [st, if_neg (by rw [← ey, ← eu]; exact d), ea, Int32.or_zero]
/-! pays by what is told -/
def gb_pt (R : Nat → Int32) (f : gb_F) (x : Int32) (p : Nat) : Int32 := if gb_tbt x p = true then gb_py R p (gb_tal f p) else R (3 + 3 * p + 1) * gb_tal f p
def gb_pb (R : Nat → Int32) (f : gb_F) (x : Int32) : Nat → Int32
  | 0 => 0
  | p + 1 => gb_pb R f x p + gb_pt R f x p
theorem ch_rP {n : Nat} {σ : gb_S} {k0 k1 p : Nat} {R NR : Nat → Int32} {x : Int32} (h : gb_PC k0 k1 R NR σ) (hR : gb_rB R) (e : x.toInt = p) (hp : p < gb_nP R) : gb_hc (cs_Border_rate_B n σ (σ.2.1 1) x) (fun s r => s = σ ∧ r = R (3 + 3 * p + 1)) := by
  rw [h.1]
  exact ch_rate h.2.1 hR e hp
theorem ch_pdP {n : Nat} {σ : gb_S} {k0 k1 p : Nat} {R NR : Nat → Int32} {x y : Int32} (h : gb_PC k0 k1 R NR σ) (hR : gb_rB R) (e : x.toInt = p) (hp : p < gb_nP R) : gb_hc (cs_Border_padded_B n σ (σ.2.1 1) x y) (fun s r => s = σ ∧ r = gb_pd R p y) := by
  rw [h.1]
  exact ch_padded h.2.1 hR e hp
theorem ch_payTold {n k0 k1 p : Nat} {σ : gb_S} {f : gb_F} {R NR : Nat → Int32} {t : Prop} {x v : Int32} (h : gb_PC k0 k1 R NR σ) (hR : gb_rB R) (hP : gb_PR R t σ f) (hT : gb_tr 100000 f) (e : v.toInt = p) (hp : p < gb_nP R) : gb_hc (cs_Play_payTold n σ x v) (fun s r => s = σ ∧ r = gb_pt R f x p) := by
  have h5 := (rB_nP hR).2
  unfold cs_Play_payTold cs_Play_payTold_14
  refine hc_if (fun c => hc_kk (fun _ => hc_cd (ch_rP h hR e hp) (fun s r g => ?_))) (fun c => hc_kk (fun _ => hc_cd (ch_rP h hR e hp) (fun s r g => ?_)))
  · obtain ⟨g1, g2⟩ := g
    subst s
    rw [if_neg (by decide)]
    refine hc_kk (fun _ => hc_cd (ch_tally hP hT e (by omega)) (fun s r2 g => ?_))
    obtain ⟨g1, g3⟩ := g
    subst s
    refine hc_cd (ch_pdP h hR e hp) (fun s r3 g => hc_some ⟨g.1, ?_⟩)
    unfold gb_pt
    rw [if_pos ((tb_bit e (by omega)).mp c), g.2, g2, g3]
    rfl
  · obtain ⟨g1, g2⟩ := g
    subst s
    rw [if_pos rfl]
    refine hc_cd (ch_tally hP hT e (by omega)) (fun s r2 g => hc_some ⟨g.1, ?_⟩)
    unfold gb_pt
    rw [if_neg (fun z => c ((tb_bit e (by omega)).mpr z)), g.2, g2]
theorem ch_payBy {n k0 k1 : Nat} {σ : gb_S} {f : gb_F} {R NR : Nat → Int32} {t : Prop} {x : Int32} (h : gb_PC k0 k1 R NR σ) (hR : gb_rB R) (hP : gb_PR R t σ f) (hT : gb_tr 100000 f) : gb_hc (cs_Play_payBy n σ x) (fun s r => s = σ ∧ r = gb_pb R f x (gb_nP R)) := by
  have h5 := (rB_nP hR).2
  have pE := (rB_nP hR).1
  have go : ∀ (mm : Nat) (a v : Int32) (k : Nat), v.toInt = k → k ≤ gb_nP R → a = gb_pb R f x k → gb_hc (cs_Play_payBy_4 n mm σ x a v) (fun s r => s = σ ∧ r = gb_pb R f x (gb_nP R)) := by
    intro mm
    induction mm with
    | zero =>
      intros
      exact hc_none
    | succ mm ih =>
      intro a v k e hk ea
      rw [cs_Play_payBy_4, h.1]
      refine hc_kk (fun _ => hc_cd ch_paths (fun s r g => ?_))
      obtain ⟨g1, g2⟩ := g
      subst s
      have eR : σ.1 (k0 + 1) 0 = R 0 := h.2.1.1
      rw [eR] at g2
      subst g2
      refine hc_if (fun c => hc_some ⟨rfl, ?_⟩) (fun c => ?_)
      · have := gi_le c
        rw [ea, show k = gb_nP R by omega]
      · have c' := gi_nle c
        refine hc_cd (ch_payTold h hR hP hT e (by omega)) (fun s r g => ?_)
        obtain ⟨g1, g2⟩ := g
        subst s
        refine hc_lt (fun a2 ea2 => hc_lt (fun x2 ex2 => ih a2 x2 (k + 1) (gi_1 e (by omega) ex2) (by omega) ?_))
        rw [ea2, ea, g2]
        rfl
  unfold cs_Play_payBy
  exact go n 0 0 0 (by decide) (Nat.zero_le _) rfl
theorem tb_all : ∀ n : Fin 6, ∀ g : Fin 5, g.val < n.val → gb_tbt (((1 : Int32) <<< (Int32.ofNat n.val &&& 31)) - 1) g.val = true := by decide
def gb_ap (R : Nat → Int32) (f : gb_F) : Nat → Int32
  | 0 => 0
  | p + 1 => gb_ap R f p + gb_py R p (gb_tal f p)
theorem ap_E {R : Nat → Int32} {f : gb_F} {x : Int32} {N : Nat} (h : ∀ g, g < N → gb_tbt x g = true) : ∀ k, k ≤ N → gb_pb R f x k = gb_ap R f k := by
  intro k
  induction k with
  | zero =>
    intro _
    rfl
  | succ k ih =>
    intro hk
    show gb_pb R f x k + gb_pt R f x k = gb_ap R f k + gb_py R k (gb_tal f k)
    rw [ih (by omega)]
    unfold gb_pt
    rw [if_pos (h k (by omega))]
theorem ch_allPay {n k0 k1 : Nat} {σ : gb_S} {f : gb_F} {R NR : Nat → Int32} {t : Prop} (h : gb_PC k0 k1 R NR σ) (hR : gb_rB R) (hP : gb_PR R t σ f) (hT : gb_tr 100000 f) : gb_hc (cs_Play_allPay n σ) (fun s r => s = σ ∧ r = gb_ap R f (gb_nP R)) := by
  have h5 := (rB_nP hR).2
  have pE := (rB_nP hR).1
  unfold cs_Play_allPay
  rw [h.1]
  refine hc_kk (fun _ => hc_cd ch_paths (fun s r g => ?_))
  obtain ⟨g1, g2⟩ := g
  subst s
  have eR : σ.1 (k0 + 1) 0 = R 0 := h.2.1.1
  rw [eR] at g2
  have ex : r = Int32.ofNat (gb_nP R) := gi_nI (by rw [g2]; exact pE) (by omega)
  refine hc_cd (ch_payBy h hR hP hT) (fun s r2 g => hc_some ⟨g.1, ?_⟩)
  rw [g.2]
  exact ap_E (N := gb_nP R) (fun g hg => by rw [ex]; exact tb_all ⟨gb_nP R, by omega⟩ ⟨g, by omega⟩ hg) _ (Nat.le_refl _)
theorem mh_allPay {n m : Nat} {f : gb_F} {w : Int64} {R : Nat → Int32} (h : gb_mbx m R f) : gb_hm (ms_allPay n f w) (fun f2 w2 r => f2 = f ∧ w2 = w ∧ r = gb_ap R f (gb_nP R)) := by
  have hR := mbx_rB h
  have h5 := (rB_nP hR).2
  have pE := (rB_nP hR).1
  have go : ∀ (mm : Nat) (a x : Int32) (k : Nat), x.toInt = k → k ≤ gb_nP R → a = gb_ap R f k → gb_hm (ms_allPay_4 n mm f w a x) (fun f2 w2 r => f2 = f ∧ w2 = w ∧ r = gb_ap R f (gb_nP R)) := by
    intro mm
    induction mm with
    | zero =>
      intros
      exact hm_none
    | succ mm ih =>
      intro a x k e hk ea
      rw [ms_allPay_4]
      refine hm_bd (mx_paths h) (fun f1 w1 r g => ?_)
      obtain ⟨g1, g2, g3⟩ := g
      subst f1
      subst w1
      subst g3
      refine hm_if (fun c => hm_some ⟨rfl, rfl, ?_⟩) (fun c => ?_)
      · have := gi_le c
        rw [ea, show k = gb_nP R by omega]
      · have c' := gi_nle c
        refine hm_bd (mh_pay h e (by omega)) (fun f1 w1 r g => ?_)
        obtain ⟨g1, g2, g3⟩ := g
        subst f1
        subst w1
        refine hm_lt (fun a2 ea2 => hm_lt (fun x2 ex2 => ih a2 x2 (k + 1) (gi_1 e (by omega) ex2) (by omega) ?_))
        rw [ea2, ea, g3]
        rfl
  unfold ms_allPay
  exact go n 0 0 0 (by decide) (Nat.zero_le _) rfl
/-! state -/
def gb_qst (R : Nat → Int32) (f2 : gb_F) (p4 : Int32) : Int32 := if p4 = 6 then gb_wn f2 (gb_nG R) else if p4 = 7 then gb_ap R f2 (gb_nP R) else if p4 = 8 then (if f2 0 22 = 0 then 0 else 1) else if 0 ≤ p4.toInt ∧ p4.toInt ≤ 5 then (if 3 ≤ p4.toInt then gb_wsm R f2 (p4 - 3) (gb_nG R) else gb_wm f2 p4 (gb_nG R)) else -2
theorem m_state {n : Nat} {f : gb_F} {w : Int64} {p1 p2 p3 p4 : Int32} (hn : gb_N ≤ n) (hM : gb_TM f) : gb_hm (ms_state n f w p1 p2 p3 p4) (fun _ _ q => (gb_noS n f p1 p2 p3 ∧ q = -2) ∨ ∃ f2, gb_yS n f p1 p2 p3 f2 ∧ q = gb_qst (gb_Rs 0 f p1) f2 p4) := by
  unfold ms_state
  refine hm_bd (mh_isState hn hM) (fun f1 w1 r g => hm_if (fun c => hm_some (Or.inl ⟨yn_0 g c, rfl⟩)) (fun c => ?_))
  have y := yn_1 g c
  obtain ⟨m, pm⟩ := ran_PM y.2.2.1
  have c0 : (0 : Int32).toInt = 0 := by decide
  have c5 : (5 : Int32).toInt = 5 := by decide
  have c3 : (3 : Int32).toInt = 3 := by decide
  refine hm_if (fun x6 => hm_bd (mh_worn pm.1) (fun f2 w2 v ev => hm_some (Or.inr ⟨f1, y, ?_⟩))) (fun x6 => hm_if (fun x7 => hm_bd (mh_allPay pm.1) (fun f2 w2 v ev => hm_some (Or.inr ⟨f1, y, ?_⟩))) (fun x7 => hm_if (fun x8 => hm_if (fun z => hm_some (Or.inr ⟨f1, y, ?_⟩)) (fun z => hm_some (Or.inr ⟨f1, y, ?_⟩))) (fun x8 => hm_bd mh_isIn (fun f2 w2 v ev => ?_))))
  · unfold gb_qst
    rw [if_pos x6, ev.2.2]
  · unfold gb_qst
    rw [if_neg x6, if_pos x7, ev.2.2]
  · unfold gb_qst
    rw [if_neg x6, if_neg x7, if_pos x8, if_pos z]
  · unfold gb_qst
    rw [if_neg x6, if_neg x7, if_pos x8, if_neg z]
  · obtain ⟨z1, z2, z3⟩ := ev
    subst f2
    subst w2
    rw [c0, c5] at z3
    refine hm_if (fun z => hm_some (Or.inr ⟨f1, y, ?_⟩)) (fun z => ?_)
    · unfold gb_qst
      rw [if_neg x6, if_neg x7, if_neg x8, if_neg (fun q => ?_)]
      rcases z3 with z3 | z3
      · rw [z] at z3
        exact absurd z3.1 (by decide)
      · omega
    · have zz : 0 ≤ p4.toInt ∧ p4.toInt ≤ 5 := by
        rcases z3 with z3 | z3
        · exact z3.2
        · exact absurd z3.1 z
      have md : p4 - p4 / 3 * 3 = if 3 ≤ p4.toInt then p4 - 3 else p4 := by
        have cs : p4.toInt = 0 ∨ p4.toInt = 1 ∨ p4.toInt = 2 ∨ p4.toInt = 3 ∨ p4.toInt = 4 ∨ p4.toInt = 5 := by omega
        rcases cs with q | q | q | q | q | q
        · rw [show p4 = 0 from gi_eq q (by decide)]
          decide
        · rw [show p4 = 1 from gi_eq q (by decide)]
          decide
        · rw [show p4 = 2 from gi_eq q (by decide)]
          decide
        · rw [show p4 = 3 from gi_eq q (by decide)]
          decide
        · rw [show p4 = 4 from gi_eq q (by decide)]
          decide
        · rw [show p4 = 5 from gi_eq q (by decide)]
          decide
      refine hm_mono (mh_state79 pm.1 md n 0 0 0 0 (by decide) (Nat.zero_le _) rfl rfl) (fun f2 w2 r3 er => Or.inr ⟨f1, y, ?_⟩)
      rw [er]
      unfold gb_qst
      rw [if_neg x6, if_neg x7, if_neg x8, if_pos zz]
      by_cases q : 3 ≤ p4.toInt
      · rw [if_pos q, if_pos (Int32.le_iff_toInt_le.mpr (by omega)), if_pos q]
      · rw [if_neg q, if_neg (fun u => q (by have := gi_le u; omega)), if_neg q]
theorem c_state {n : Nat} {σ : gb_S} {f : gb_F} {p1 p2 p3 p4 q : Int32} (hn : gb_N ≤ n) (hT : gb_TC σ) (h : gb_R σ f) (hM : gb_TM f) (H : (gb_noS n f p1 p2 p3 ∧ q = -2) ∨ ∃ f2, gb_yS n f p1 p2 p3 f2 ∧ q = gb_qst (gb_Rs 0 f p1) f2 p4) : gb_hc (cs_Face_state n σ p1 p2 p3 p4) (fun _ r => r = q) := by
  unfold cs_Face_state
  refine hc_cd (cy_border h hM) (fun s r g => ?_)
  obtain ⟨g0, g⟩ := g
  subst s
  refine hc_if (fun c => hc_some (no_2 H (fun z => ?_))) (fun c => ?_)
  · rcases g with y | y
    · exact y.2 z
    · exact y.1 c
  · rcases g with y | ⟨y1, y2, y3, y4, y5⟩
    · exact absurd y.1 c
    refine hc_kk (fun _ => c_to hn hT h hM y2 y3 y4 y5 H (fun s k1 f2 PC PR TR => ?_))
    have qv : ∀ (a : Int32) (z : Int), a.toInt = z → p4 = a → p4.toInt = z := fun a z e1 e2 => by rw [e2]; exact e1
    have low : ∀ (a : Int32), p4 = a → ¬ a = 6 → ¬ a = 7 → ¬ a = 8 → 0 ≤ a.toInt → a.toInt < 3 → gb_qst (gb_Rs 0 f p1) f2 p4 = gb_wm f2 p4 (gb_nG (gb_Rs 0 f p1)) := by
      intro a ea n6 n7 n8 u1 u2
      unfold gb_qst
      rw [if_neg (by rw [ea]; exact n6), if_neg (by rw [ea]; exact n7), if_neg (by rw [ea]; exact n8), if_pos (by rw [ea]; omega), if_neg (by rw [ea]; omega)]
    have high : ∀ (a : Int32), p4 = a → ¬ a = 6 → ¬ a = 7 → ¬ a = 8 → 3 ≤ a.toInt → a.toInt ≤ 5 → gb_qst (gb_Rs 0 f p1) f2 p4 = gb_wsm (gb_Rs 0 f p1) f2 (p4 - 3) (gb_nG (gb_Rs 0 f p1)) := by
      intro a ea n6 n7 n8 u1 u2
      unfold gb_qst
      rw [if_neg (by rw [ea]; exact n6), if_neg (by rw [ea]; exact n7), if_neg (by rw [ea]; exact n8), if_pos (by rw [ea]; omega), if_pos (by rw [ea]; omega)]
    have who : ∀ v : Int32, gb_hc (cs_Play_whoIs n s v) (fun s2 r => s2 = s ∧ r = gb_wm f2 v (gb_nG (gb_Rs 0 f p1))) := fun v => ch_whoIs PC y4 PR
    have wor : gb_hc (gb_cd (cs_Play_whoIs n s (p4 - 3)) (fun s_93 r_94 => gb_cd (cs_Border_worthOf_B n s_93 r r_94) (fun s_97 r_98 => some (s_97, r_98)))) (fun _ r => r = gb_wsm (gb_Rs 0 f p1) f2 (p4 - 3) (gb_nG (gb_Rs 0 f p1))) := by
      refine hc_cd (who (p4 - 3)) (fun s2 r2 e => ?_)
      obtain ⟨z1, z2⟩ := e
      subst s2
      subst z2
      exact hc_cd (ch_worthOf PC.2.1 y4) (fun s3 r3 e3 => hc_some e3.2)
    refine hc_if (fun x => hc_cd (who p4) (fun s2 r2 e => hc_some ?_)) (fun x0 => hc_if (fun x => hc_cd (who p4) (fun s2 r2 e => hc_some ?_)) (fun x1 => hc_if (fun x => hc_cd (who p4) (fun s2 r2 e => hc_some ?_)) (fun x2 => hc_if (fun x => hc_mono wor (fun _ _ e => ?_)) (fun x3 => hc_if (fun x => hc_mono wor (fun _ _ e => ?_)) (fun x4 => hc_if (fun x => hc_mono wor (fun _ _ e => ?_)) (fun x5 => hc_if (fun x => hc_cd (ch_worn PC y4 PR) (fun s2 r2 e => hc_some ?_)) (fun x6 => hc_if (fun x => hc_cd (ch_allPay PC y4 PR TR) (fun s2 r2 e => hc_some ?_)) (fun x7 => hc_if (fun x => hc_if (fun z => hc_some ?_) (fun z => hc_some ?_)) (fun x8 => hc_some ?_)))))))))
    · rw [e.2, low 0 x (by decide) (by decide) (by decide) (by decide) (by decide)]
    · rw [e.2, low 1 x (by decide) (by decide) (by decide) (by decide) (by decide)]
    · rw [e.2, low 2 x (by decide) (by decide) (by decide) (by decide) (by decide)]
    · rw [e, high 3 x (by decide) (by decide) (by decide) (by decide) (by decide)]
    · rw [e, high 4 x (by decide) (by decide) (by decide) (by decide) (by decide)]
    · rw [e, high 5 x (by decide) (by decide) (by decide) (by decide) (by decide)]
    · unfold gb_qst
      rw [e.2, if_pos x]
    · unfold gb_qst
      rw [e.2, if_neg x6, if_pos x]
    · unfold gb_qst
      rw [if_neg x6, if_neg x7, if_pos x, if_pos (by rw [← PR.2.2.2.2.1.1]; exact z)]
    · unfold gb_qst
      rw [if_neg x6, if_neg x7, if_pos x, if_neg (by rw [← PR.2.2.2.2.1.1]; exact z)]
    · unfold gb_qst
      rw [if_neg x6, if_neg x7, if_neg x8, if_neg (fun z => ?_)]
      have cs : p4.toInt = 0 ∨ p4.toInt = 1 ∨ p4.toInt = 2 ∨ p4.toInt = 3 ∨ p4.toInt = 4 ∨ p4.toInt = 5 := by omega
      rcases cs with u | u | u | u | u | u
      · exact x0 (gi_eq u (by decide))
      · exact x1 (gi_eq u (by decide))
      · exact x2 (gi_eq u (by decide))
      · exact x3 (gi_eq u (by decide))
      · exact x4 (gi_eq u (by decide))
      · exact x5 (gi_eq u (by decide))
theorem e_state {σ σ2 : gb_S} {f f2 : gb_F} {w w2 : Int64} {p1 p2 p3 p4 ra qa : Int32} (hT : gb_TC σ) (hM : gb_TM f) (h : gb_R σ f) (ec : cs_Face_state gb_N σ p1 p2 p3 p4 = some (σ2, ra)) (em : ms_state gb_N f w p1 p2 p3 p4 = some (f2, w2, qa)) : ra = qa := c_state (Nat.le_refl _) hT h hM (m_state (Nat.le_refl _) hM _ _ _ em) _ _ ec
