/-! BOTH SIDES: all lines of a tape -/
set_option maxHeartbeats 4000000 in
theorem ch_read42 {n : Nat} (hn : gb_N ≤ n) {T : Nat → Int32} {N s : Nat} {σ0 : gb_S} {f0 : gb_F} {v1 v2 v3 : Int32} (h3 : v3.toInt = s) (h1 : v1.toInt = s) (hs : s ≤ 3) : ∀ (mm : Nat) (σ : gb_S) (v5 : Int32) (a c : Nat) (f : gb_F), gb_J T N s a σ0 σ f0 f → v5.toInt = c → c ≤ a → gb_hc (cs_Reader_read_c23_S_42 n mm σ v3 (96 + 2 * s) v5) (fun σ2 _ => ∀ (m : Nat) (w : Int64), gb_hm (ms_text_122 n m f w v1 v2) (fun f2 w2 r => gb_E1 n N s v1 v2 σ0 σ2 f0 f2 w2 r)) := by
  intro mm
  induction mm with
  | zero =>
    intros
    exact hc_none
  | succ mm ih =>
    intro σ v5 a c f hJ e5 hca
    rw [cs_Reader_read_c23_S_42]
    have hJ0 := hJ
    obtain ⟨hx, ha, haN, hls, hC, hI, hS, hr, hk⟩ := hJ
    have hN := hx.2.2.1
    have hlen := hx.2.1
    have c600 : (600 : Int32).toInt = 600 := by decide
    obtain ⟨l1, l2, l3, l4, l5⟩ := hls
    have last : a = N → gb_hc (if (σ.1 106 4) = 0 then (if gb_kB (96 + 2 * s) = true then gb_cd (cs_Border_clashes_B n σ (96 + 2 * s)) (fun s_19 r_20 => (if r_20 = 0 then some (s_19, ()) else gb_cd (cs_Reader_note n s_19 4 (s_19.1 106 2)) (fun s_24 _ => some (s_24, ())))) else (if gb_kN (96 + 2 * s) = true then gb_cd (cs_Lines_clashes_N n σ (96 + 2 * s)) (fun s_29 r_30 => (if r_30 = 0 then some (s_29, ()) else gb_cd (cs_Reader_note n s_29 4 (s_29.1 106 2)) (fun s_34 _ => some (s_34, ())))) else (if gb_kL (96 + 2 * s) = true then gb_cd (cs_Lines_clashes_L n σ (96 + 2 * s)) (fun s_39 r_40 => (if r_40 = 0 then some (s_39, ()) else gb_cd (cs_Reader_note n s_39 4 (s_39.1 106 2)) (fun s_44 _ => some (s_44, ())))) else (if gb_kD (96 + 2 * s) = true then gb_cd (cs_Dawn_clashes_D n σ (96 + 2 * s)) (fun s_49 r_50 => (if r_50 = 0 then some (s_49, ()) else gb_cd (cs_Reader_note n s_49 4 (s_49.1 106 2)) (fun s_54 _ => some (s_54, ())))) else none)))) else (some (σ, ()) : gb_CR Unit)) (fun σ2 _ => ∀ (m : Nat) (w : Int64), gb_hm (ms_text_122 n m f w v1 v2) (fun f2 w2 r => gb_E1 n N s v1 v2 σ0 σ2 f0 f2 w2 r)) := fun haE => by
      subst haE
      refine hc_mono (ch_last hs hJ0) (fun σ2 _ hX m w => ?_)
      exact mh_122e (Or.inr ((tk_end l3).mpr rfl)) (fun f2 w2 r e => ⟨f, w, hX, e⟩) m
    refine hc_if (fun g => last ?_) (fun g => hc_if (fun g2 => last ?_) (fun g2 => ?_))
    · have := gi_le g
      omega
    · have := gi_le g2
      omega
    · have haN2 : a < N := by
        have := gi_nle g2
        omega
      have h05 : ¬ f 0 5 = 0 := fun z => by
        have := (tk_end l3).mp z
        omega
      have i0 := gt_R0s hs hI.2.1.1
      have i00 := i0.1.1
      have hls2 : gb_ls T N a (σ.1 106 4, σ.1 106 5) f := ⟨l1, l2, l3, l4, l5⟩
      have g0 : 0 ≤ (σ.1 (96 + 2 * s + 1) 0).toInt := by rw [hC.1]; exact i00
      have g1 : s = 0 → 0 ≤ (σ.1 (96 + 2 * s + 1) 1).toInt := fun z => by rw [hC.2 z]; exact (hI.2.1.2 z).1
      refine hc_cd (ch_readLine hx h3 hs ha haN g0 g1) (fun s1 r hl => ?_)
      rcases hl with ⟨rz, q, hb, hq, hqN, hfr⟩ | ⟨rz, l, ps, qs, vs, e, V, fp, hg, he, hfr, hV, had, hfp, hff⟩
      · -- the line can't be read
        rw [if_pos rz]
        refine hc_lt (fun s2 e2 => hc_lt (fun s3 e3 => hc_some (fun m w => ?_)))
        have z4 : s3.1 106 4 = 1 := by rw [e3, gb_sus, pk_un (by decide), e2, gb_sus, pk_us]
        have z5 : s3.1 106 5 = nI q := by
          rw [e3, gb_sus, pk_us, e2, gb_sus, pk_un (by decide)]
          exact gb_ieq (by rw [hq, nI_toInt (by omega)])
        have z2 : s3.1 106 2 = s1.1 106 2 := by rw [e3, gb_sus, pk_un (by decide), e2, gb_sus, pk_un (by decide)]
        have zn : ∀ k, k ≠ 106 → s3.1 k = s1.1 k := fun k hk => by rw [e3, gb_sun hk, e2, gb_sun hk]
        have zs : s3.2 = s1.2 := by rw [e3, e2]; rfl
        have fr : gb_rfr s σ0 s3 := ⟨zs.trans (hfr.1.trans hr.1), fun k k1 k2 k3 => (zn k k1).trans ((hfr.2.1 k k1 k2 k3).trans (hr.2.1 k k1 k2 k3)), z2.trans (hfr.2.2.trans hr.2.2)⟩
        have wr : ∀ w, gb_hm (gb_line n s f w) (fun f2 _ _ => gb_W1 q f2) := fun w => by
          rcases hb with ⟨hb1, hb2⟩ | ⟨l, ps, qs, vs, i, hw, hns, hb⟩
          · rw [hb1]
            exact mh_noword hs hls2 hb2
          · have hfp3 : ∃ fp2, gb_fp3 s l a (f 3) (σ.1 106 4, σ.1 106 5) fp2 := by
              by_cases rm : gb_room s l (f 3)
              · exact ⟨_, Or.inl ⟨rm, rfl⟩⟩
              · exact ⟨_, Or.inr ⟨rm, rfl⟩⟩
            obtain ⟨fp2, hfp3⟩ := hfp3
            rcases hb with ⟨b1, b2⟩ | ⟨b1, b2⟩
            · refine hm_mono (mh_line (Qb := q) hs hls2 hw ⟨hns, by omega, fun _ => b2⟩ hfp3 i0.1 i0.2.1 (fun z => (hI.2.1.2 z).1)) (fun f2 _ _ g => ?_)
              rcases g with g | g
              · exact g.2
              · omega
            · subst b1
              refine hm_mono (mh_line (Qb := q) hs hls2 hw ⟨hns, Nat.le_refl _, fun z => absurd z (Nat.lt_irrefl _)⟩ hfp3 i0.1 i0.2.1 (fun z => (hI.2.1.2 z).1)) (fun f2 _ _ g => ?_)
              rcases g with g | ⟨-, g | g⟩
              · exact absurd g.1 (Nat.lt_irrefl _)
              · obtain ⟨q2, y1, -⟩ := g
                have := run_uq y1.1 b2.1
                subst this
                exact absurd y1.2 b2.2
              · obtain ⟨q2, y1, y2⟩ := g
                have := run_uq y1.1 b2.1
                subst this
                exact y2
        refine mh_122 h1 hs l1 h05 (fun m2 => hm_bd (hm_and (wr w) (mh_lineF hn hs hI)) (fun f2 w2 _ g => ?_)) m
        obtain ⟨gw, gL, g2'⟩ := g
        refine mh_122e (Or.inl gw.1) (fun f3 w3 r3 e3' => ⟨f2, w2, ⟨fr, ⟨g2'.trans hk.1, fun j j1 j2 => (gL.2.1.2.2 j j1 j2).trans (hk.2 j j1 j2)⟩, gL.1, Or.inl ⟨by rw [z4]; decide, z4.trans gw.2.1.symm, z5.trans gw.2.2.symm⟩⟩, e3'⟩) m2
      · -- a line stands here
        rw [if_neg (by rw [rz]; decide)]
        obtain ⟨hw, hns, q, hsm, eq⟩ := hg
        have hx1 : gb_rc T N s1 := ⟨by rw [hfr.1]; exact hx.1, by rw [hfr.2.2]; exact hlen, hN, fun i hi => by rw [hfr.2.1 23 (by decide) (by decide) (by omega)]; exact hx.2.2.2 i hi⟩
        have heN : e ≤ N := by
          have := hsm.2.1
          omega
        have hale : a < e := by
          have w1 := hw.2.2.2.1
          have w2 := gb_ln_le l (by have := gb_fl18 (s := s + 1) (by omega); have := hw.2.1; omega)
          have w3 := hsm.1.1
          have w4 : ∀ i, i ≤ gb_kn l → ps 0 ≤ ps i := by
            intro i
            induction i with
            | zero => intro _; exact Nat.le_refl _
            | succ i ihh =>
              intro hi
              have a1 := ihh (by omega)
              have a2 := num_le (hns i (by omega))
              omega
          have w5 := w4 _ (Nat.le_refl _)
          omega
        refine hc_cd (ch_skip hx1 he heN) (fun s2 _ hsk => hc_lt (fun y ey => ?_))
        obtain ⟨a2, hrun, ha2N, hat⟩ := hsk
        have hx2 := rc_at hx1 hat
        have he2 := hrun.1
        have hfr2 : gb_rfr s σ0 s2 := ⟨hat.1.trans (hfr.1.trans hr.1), fun k k1 k2 k3 => (hat.2.1 k k1).trans ((hfr.2.1 k k1 k2 k3).trans (hr.2.1 k k1 k2 k3)), (hat.2.2.1 2 (by decide)).trans (hfr.2.2.trans hr.2.2)⟩
        have hD2 : s2.1 (96 + 2 * s + 1) = s1.1 (96 + 2 * s + 1) := hat.2.1 _ (by omega)
        have hff2 : (s2.1 106 4, s2.1 106 5) = gb_ff l qs vs fp (gb_kn l) := by rw [hat.2.2.1 4 (by decide), hat.2.2.1 5 (by decide)]; exact hff
        have rr := room_rc (l := l) hC
        have hfp3 : gb_fp3 s l a (f 3) (σ.1 106 4, σ.1 106 5) fp := by
          rcases hfp with z | z
          · exact Or.inl ⟨rr.mp z.1, z.2⟩
          · exact Or.inr ⟨fun y => z.1 (rr.mpr y), z.2⟩
        -- the same on both sides at the next line
        have next : ∀ f2 : gb_F, gb_ml T N s l ps qs vs (gb_kn l) 0 fp f f2 → gb_L s f f2 → f2 2 = f 2 → gb_J T N s a2 σ0 s2 f0 f2 := by
          intro f2 g gL g2'
          rcases g with g | ⟨-, g | g⟩
          · exact absurd g.1 (Nat.lt_irrefl _)
          · obtain ⟨q2, y1, y2, ⟨y3, q3, y31, y32⟩, y4, y5, U, y6, y7, y8⟩ := g
            have := run_uq y1.1 hsm.1
            subst this
            rw [← eq] at y31 y5
            have := run_uq y31 hrun
            subst this
            have hRC2 : gb_RC s (s2.1 (96 + 2 * s + 1)) (f2 3) := by
              rw [hD2]
              exact rc_add hs hC had y7
            refine ⟨hx2, hat.2.2.2, ha2N, ⟨y2, y3, y32, by rw [hff2]; exact y4, fun z => ?_⟩, hRC2, gL.1, fun z => ?_, hfr2, ⟨g2'.trans hk.1, fun j j1 j2 => (gL.2.1.2.2 j j1 j2).trans (hk.2 j j1 j2)⟩⟩
            · rw [hff2] at z ⊢
              have := y5 z
              omega
            · have hz : (gb_ff l qs vs fp (gb_kn l)).1 = 0 := by rw [← hff2]; exact z
              have fe := ff_e _ hz
              have fz : fp.1 = 0 := by rw [← fe]; exact hz
              obtain ⟨rm, fpE⟩ : gb_room s l (f 3) ∧ fp = (σ.1 106 4, σ.1 106 5) := by
                rcases hfp3 with w | w
                · exact w
                · rw [w.2] at fz
                  exact absurd fz (note_0 (by decide))
              have old : σ.1 106 4 = 0 := by
                rw [fpE] at fz
                exact fz
              obtain ⟨o1, o2, o3, o4⟩ := hS old
              have hUV : ∀ j, j < gb_kn l → V j = U j := fun j hj => gb_ieq ((hV j hj).trans (y6 hz j hj).symm)
              have p5 : s2.1 106 5 = -1 := by
                have : (s2.1 106 4, s2.1 106 5).2 = -1 := by
                  rw [hff2, fe, fpE]
                  exact o1
                exact this
              refine ⟨p5, ?_, fun s3 => ?_, fun s3 => ?_⟩
              · rw [hD2]
                exact rs_add hs hw.1 hw.2.1 o2 i0.1 (fun w => ⟨hI.2.1.2 w, i0.2.2 w⟩) hUV had y7
              · subst s3
                have l17 : l = 17 := by
                  have w1 : 17 ≤ l := hw.1
                  have w2 : l < 18 := hw.2.1
                  omega
                subst l17
                rcases y8 with w | w
                · exact absurd rfl w.1
                · rw [w.2, o3 rfl, dup_add i0.1 rm y7]
              · rcases y8 with w | w
                · rw [w.2]
                  exact o4 s3
                · exact absurd w.1 s3
          · obtain ⟨q2, y1, -⟩ := g
            have := run_uq y1.1 hsm.1
            subst this
            exact absurd hsm.2 y1.2
        -- the class goes on; the reference, too
        intro σ2 rr2 hrun2 m w
        refine mh_122 h1 hs l1 h05 (fun m2 => hm_bd (hm_and (mh_line (Qb := 0) hs hls2 hw ⟨hns, Nat.le_refl _, fun z => absurd z (Nat.lt_irrefl _)⟩ hfp3 i0.1 i0.2.1 (fun z => (hI.2.1.2 z).1)) (mh_lineF hn hs hI)) (fun f2 w2 _ g => ?_)) m
        obtain ⟨g1', gL, g2'⟩ := g
        exact ih s2 y a2 (c + 1) f2 (next f2 g1' gL g2') (by rw [ey]; exact gi_s1 e5 (by omega)) (by omega) σ2 rr2 hrun2 m2 w2
