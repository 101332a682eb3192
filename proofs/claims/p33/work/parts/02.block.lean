/-! BLOCKS: cells that lie one behind another from an address on; rows that know the heap's size -/
def gb_wl : Nat → List va_E → va_W
  | _, [] => []
  | b, e :: r => (b, e) :: gb_wl (b + 1) r
theorem gb_get : ∀ (cs : List va_E) (b k : Nat), (gb_wl b cs)[k]? = (cs[k]?).map (fun e => (b + k, e))
  | [], _, _ => by simp [gb_wl]
  | e :: r, b, 0 => by simp [gb_wl]
  | e :: r, b, k + 1 => by
    rw [show gb_wl b (e :: r) = (b, e) :: gb_wl (b + 1) r from rfl, List.getElem?_cons_succ, List.getElem?_cons_succ, gb_get r (b + 1) k, show b + 1 + k = b + (k + 1) by omega]
theorem gb_at {cs : List va_E} {k : Nat} {e : va_E} (b : Nat) (h : cs[k]? = some e) : (gb_wl b cs)[k]? = some (b + k, e) := by
  rw [gb_get, h]
  rfl
theorem gb_of {cs : List va_E} {b k : Nat} {q : Nat × va_E} (h : (gb_wl b cs)[k]? = some q) : q.1 = b + k ∧ cs[k]? = some q.2 := by
  rw [gb_get] at h
  cases hc : cs[k]? with
  | none => rw [hc] at h; cases h
  | some e => rw [hc] at h; cases h; exact ⟨rfl, rfl⟩
theorem gb_set : ∀ (cs : List va_E) (b k : Nat) (e : va_E), (gb_wl b cs).set k (b + k, e) = gb_wl b (cs.set k e)
  | [], _, _, _ => by simp [gb_wl]
  | e0 :: r, b, 0, e => by simp [gb_wl]
  | e0 :: r, b, k + 1, e => by
    rw [show gb_wl b (e0 :: r) = (b, e0) :: gb_wl (b + 1) r from rfl, List.set_cons_succ, List.set_cons_succ, show b + (k + 1) = b + 1 + k by omega, gb_set r (b + 1) k e]
    rfl
theorem gb_app : ∀ (cs es : List va_E) (b : Nat), gb_wl b (cs ++ es) = gb_wl b cs ++ gb_wl (b + cs.length) es
  | [], es, b => by simp [gb_wl]
  | e :: r, es, b => by
    rw [List.cons_append, show gb_wl b (e :: (r ++ es)) = (b, e) :: gb_wl (b + 1) (r ++ es) from rfl, gb_app r es (b + 1), show gb_wl b (e :: r) = (b, e) :: gb_wl (b + 1) r from rfl, List.cons_append, List.length_cons, show b + 1 + r.length = b + (r.length + 1) by omega]
theorem gb_D {A : Nat → Prop} {b : Nat} {cs : List va_E} (h : ∀ k, k < cs.length → A (b + k)) : va_D A (gb_wl b cs) :=
  ⟨fun i j p q hi hj e => by have h1 := (gb_of hi).1; have h2 := (gb_of hj).1; omega, fun k q hk => by have h1 := gb_of hk; rw [h1.1]; exact h k (List.getElem?_eq_some_iff.mp h1.2).1⟩
/-- a block stays where the heap stays -/
theorem gb_kept {D : va_G} {cl : List vw_C} {b : Nat} {cs : List va_E} {H H1 : Heap} (h : va_P D cl (gb_wl b cs) H) (hq : ∀ q : Nat, b ≤ q → q < b + cs.length → H1[q]? = H[q]?) : va_P D cl (gb_wl b cs) H1 :=
  h.kept fun k q hk => by have h1 := gb_of hk; have h2 := (List.getElem?_eq_some_iff.mp h1.2).1; exact hq _ (by omega) (by omega)
section GBR
variable {p : Program} {l : Launch} {e : Env} {R : Room} {s : State} {m : MethodId} {args : Array Value} {below : List Frame} {meth : Method} {c : Code} {H : Heap} {locs : List Loc} {cells slots : Nat} {Q : State → Prop}
variable {cc : ByteArray} {pc : Nat} {ls : Array Slot} {rest : List Value} {D : va_G} {cl : List vw_C} {A : Nat → Prop} {tys : List (ClassId × FieldType)} {H0 : Heap} {b z : Nat} {cs : List va_E}
theorem gb_put (hexec : p.tables.exec = Jvm.exec) (hb : c.code = cc) {own ref C : String} {T : u_T} {N ci index : Nat} {Ts : List Cond} (hts : ∀ w ∈ Ts, w.before args s = true) (hin : ∀ w ∈ u_ws C T N, w ∈ Ts) (ty0 : Nat → FieldType) (hty : ∀ k, k < N → parseFieldDescriptor (T k).2.2.1 = some (ty0 k)) (hnm : ∀ a, a < N → ∀ b, b < N → a ≠ b → (T a).2.1 ≠ (T b).2.1) (hown : s.vm.findClass own = some m.cls) (hK : va_K D cl tys s) (hP : va_P D cl (gb_wl b cs) H) (hAb : ∀ k, k < cs.length → A (b + k)) (hS0 : va_S A H0 H locs) (hz : H.size = z) (q0 : Nat) {fs : List Value} (he : cs[q0]? = some (.inr (ci, fs))) (hc : cl[ci]? = some (C, T, N)) (k : Nat) (hk : k < N) (hlink : (Cond.fieldLink own index ref (T k).2.1 (T k).2.2.1).before args s = true) (hsame : ∀ x, s.fieldFound? (T k).1 (T k).2.1 (T k).2.2.1 = some x → s.fieldFound? ref (T k).2.1 (T k).2.2.1 = some x) (hfin : (T k).2.2.2 = false) {ty : FieldType} {v : Value} (hd : parseFieldDescriptor (T k).2.2.1 = some ty) (hn : narrow ty v = v) (hfit : fits ty v = true) (hl : k < fs.length)
    (hdg : decode cc pc = .ok (.putfield index, 3)) (kk : ∀ (H1 : Heap) (locs1 : List Loc), va_P D cl (gb_wl b (cs.set q0 (.inr (ci, fs.set k v)))) H1 → H1.size = z → va_S A H0 H1 locs1 → W p l e R s m args below meth c H1 locs1 cells slots Q (F0 m (pc + 3) ls rest)) : W p l e R s m args below meth c H locs cells slots Q (F0 m pc ls (v :: .ref (b + q0) :: rest)) := by
  have hD := gb_D hAb
  have he2 := gb_at b he
  have hap := va_apart (own := own) hts hin ty0 hty hnm hK hc
  obtain ⟨r, h1, cell, q1, q2, q3, q4⟩ := hP q0 _ he2
  have hr : r = (C, T, N) := Option.some.inj (h1.symm.trans hc)
  subst hr
  obtain ⟨hS, hfc, kC, hkC, hkind⟩ := hK.1 ci _ hc
  obtain ⟨cf, kf, fi, f, hi, hsl⟩ := hS k hk
  have hlay := hts _ (hin _ (u_in_lay hk))
  unfold u_lay at hlay
  rw [if_neg (by rw [hfin]; decide)] at hlay
  have hst := (u_facts hfc hkC (u_lays hts hin hk) hi).1
  have h6 := u_store hfc hkC hkind hlay hi hd hn hfit
  refine W.putK hexec hb (f := f) ⟨hown, hlink, ⟨_, _, _, hsame _ hi⟩, hst⟩ (by rw [q2]; exact h6) q1 q3 (by rw [hsl]; exact k2_hasslot (q4 k hk)) rfl rfl hdg fun H' e1 e2 e3 => ?_
  rw [hsl] at e1 ⊢
  exact kk H' _ (by rw [← gb_set]; exact hP.set hD he2 ⟨_, hc, t_OB.to (V := updV (vp_V fs) k v) ⟨_, e1, q2, q3, t_set q4 hap hk v⟩ (fun j _ => vp_updV_set hl v j)⟩ e3) (e2.trans hz) (hS0.put e2 e3 (hD.2 q0 _ he2))
theorem gb_putF (hexec : p.tables.exec = Jvm.exec) (hb : c.code = cc) {own ref C : String} {T : u_T} {N ci index : Nat} {Ts : List Cond} (hts : ∀ w ∈ Ts, w.before args s = true) (hin : ∀ w ∈ u_ws C T N, w ∈ Ts) (ty0 : Nat → FieldType) (hty : ∀ k, k < N → parseFieldDescriptor (T k).2.2.1 = some (ty0 k)) (hnm : ∀ a, a < N → ∀ b, b < N → a ≠ b → (T a).2.1 ≠ (T b).2.1) (hown : s.vm.findClass own = some m.cls) (hK : va_K D cl tys s) (hP : va_P D cl (gb_wl b cs) H) (hAb : ∀ k, k < cs.length → A (b + k)) (hS0 : va_S A H0 H locs) (hz : H.size = z) (q0 : Nat) {fs : List Value} (he : cs[q0]? = some (.inr (ci, fs))) (hc : cl[ci]? = some (C, T, N)) (k : Nat) (hk : k < N) (hlink : (Cond.fieldLink own index ref (T k).2.1 (T k).2.2.1).before args s = true) (hsame : ∀ x, s.fieldFound? (T k).1 (T k).2.1 (T k).2.2.1 = some x → s.fieldFound? ref (T k).2.1 (T k).2.2.1 = some x) (hfin : (T k).2.2.2 = true) (hin2 : meth.name = "<init>") (hdecl : (T k).1 = own) {ty : FieldType} {v : Value} (hd : parseFieldDescriptor (T k).2.2.1 = some ty) (hn : narrow ty v = v) (hfit : fits ty v = true) (hl : k < fs.length)
    (hdg : decode cc pc = .ok (.putfield index, 3)) (kk : ∀ (H1 : Heap) (locs1 : List Loc), va_P D cl (gb_wl b (cs.set q0 (.inr (ci, fs.set k v)))) H1 → H1.size = z → va_S A H0 H1 locs1 → W p l e R s m args below meth c H1 locs1 cells slots Q (F0 m (pc + 3) ls rest)) : W p l e R s m args below meth c H locs cells slots Q (F0 m pc ls (v :: .ref (b + q0) :: rest)) := by
  have hD := gb_D hAb
  have he2 := gb_at b he
  have hap := va_apart (own := own) hts hin ty0 hty hnm hK hc
  obtain ⟨r, h1, cell, q1, q2, q3, q4⟩ := hP q0 _ he2
  have hr : r = (C, T, N) := Option.some.inj (h1.symm.trans hc)
  subst hr
  obtain ⟨hS, hfc, kC, hkC, hkind⟩ := hK.1 ci _ hc
  obtain ⟨cf, kf, fi, f, hi, hsl⟩ := hS k hk
  have hlay := hts _ (hin _ (u_in_lay hk))
  unfold u_lay at hlay
  rw [if_pos hfin] at hlay
  have hst := (u_facts hfc hkC (u_lays hts hin hk) hi).1
  have hcf : m.cls = cf := by
    obtain ⟨_, _, c', _, _, _, -, -, hf', -, -, -, hown2, -⟩ := Cond.laysFinal_spec hlay
    have e1 : c' = cf := by have := hi.symm.trans hf'; simp at this; exact this.1.symm
    rw [hdecl] at hown2
    rw [← e1]; exact Option.some.inj (hown.symm.trans hown2)
  have h6 := u_fits hfc hkC hkind (Or.inr hlay) hi hd hn hfit
  refine W.putFinK hexec hb hown hlink (hsame _ hi) hst hcf hin2 (by rw [q2]; exact h6) q1 q3 (by rw [hsl]; exact k2_hasslot (q4 k hk)) rfl rfl hdg fun H' e1 e2 e3 => ?_
  rw [hsl] at e1 ⊢
  exact kk H' _ (by rw [← gb_set]; exact hP.set hD he2 ⟨_, hc, t_OB.to (V := updV (vp_V fs) k v) ⟨_, e1, q2, q3, t_set q4 hap hk v⟩ (fun j _ => vp_updV_set hl v j)⟩ e3) (e2.trans hz) (hS0.put e2 e3 (hD.2 q0 _ he2))
theorem gb_iast (hexec : p.tables.exec = Jvm.exec) (hb : c.code = cc) (hK : va_K D cl tys s) (hP : va_P D cl (gb_wl b cs) H) (hAb : ∀ k, k < cs.length → A (b + k)) (hS : va_S A H0 H locs) (hz : H.size = z) (q0 t0 : Nat) {cA : ClassId} {n : Nat} {f : Nat → Int32} (ha : cs[q0]? = some (.inl (cA, n, .inl f))) (ht : tys[t0]? = some (cA, .int)) {i : Int32} {x : Int32} (hin : vp_in i n) (hdg : decode cc pc = .ok (.iastore, 1))
    (kk : ∀ (H1 : Heap) (locs1 : List Loc), va_P D cl (gb_wl b (cs.set q0 (.inl (cA, n, .inl (upd f i.toNatClampNeg x))))) H1 → H1.size = z → va_S A H0 H1 locs1 → W p l e R s m args below meth c H1 locs1 cells slots Q (F0 m (pc + 1) ls rest)) : W p l e R s m args below meth c H locs cells slots Q (F0 m pc ls (.int x :: .int i :: .ref (b + q0) :: rest)) := by
  have hD := gb_D hAb
  have ha2 := gb_at b ha
  refine W.iast hexec hb (hP q0 _ ha2) ((hK.2 t0 _ ht).1 n (fun j => .int (f j))) (fun q => by cases q) (by show ¬ (i < 0 ∨ (arrV _ _ _).slots.size ≤ _); rw [arrV_size]; exact hin) rfl rfl hdg fun H1 e z2 oq => ?_
  refine kk H1 _ ?_ (z2.trans hz) (hS.put z2 oq (hD.2 q0 _ ha2))
  rw [← gb_set]
  refine hP.set hD ha2 ?_ oq
  show H1[b + q0]? = some (vp_cell _ _)
  rw [e]
  rw [vp_cell_i, vp_cell_i, arrV_store]
  congr 2
  funext q
  by_cases hq : q = i.toNatClampNeg
  · subst hq
    simp [updV, upd]
  · simp [updV, upd, hq]
/-- a reference into an array of its class, or of a wider one -/
theorem gb_astq (hexec : p.tables.exec = Jvm.exec) (hb : c.code = cc) (hK : va_K D cl tys s) (hP : va_P D cl (gb_wl b cs) H) (hAb : ∀ k, k < cs.length → A (b + k)) (hS : va_S A H0 H locs) (hz : H.size = z) (q0 t0 qk ci : Nat) {E : String} {cA : ClassId} {r : vw_C} {n : Nat} {vs : List Value} {f : Nat → Option Nat} (ha : cs[q0]? = some (.inl (cA, n, .inr (.inr (.inr (.inr f)))))) (ht : tys[t0]? = some (cA, .object E)) (hca : r.1 = E ∨ va_Nw (.castable r.1 E) s) (hv : cs[qk]? = some (.inr (ci, vs))) (hc : cl[ci]? = some r) {i : Int32} (hin : vp_in i n) (hdg : decode cc pc = .ok (.aastore, 1))
    (kk : ∀ (H1 : Heap) (locs1 : List Loc), va_P D cl (gb_wl b (cs.set q0 (.inl (cA, n, .inr (.inr (.inr (.inr (va_up f i.toNatClampNeg (some (b + qk)))))))))) H1 → H1.size = z → va_S A H0 H1 locs1 → W p l e R s m args below meth c H1 locs1 cells slots Q (F0 m (pc + 1) ls rest)) : W p l e R s m args below meth c H locs cells slots Q (F0 m pc ls (.ref (b + qk) :: .int i :: .ref (b + q0) :: rest)) := by
  have hD := gb_D hAb
  have ha2 := gb_at b ha
  have hlt : i.toNatClampNeg < n := Nat.not_le.mp fun q => hin (Or.inr q)
  have h0 : ¬ i < 0 := fun q => hin (Or.inl q)
  obtain ⟨r', hr', cellV, g1, g2, g3, -⟩ := hP qk _ (gb_at b hv)
  have hcls := (hK.1 ci r hc).2
  obtain ⟨kA, comp, k1, k2, k3, -⟩ := (hK.2 t0 _ ht).2
  obtain ⟨kE, hkE, -⟩ := Vm.findClass_spec k3
  obtain ⟨kC, hkC, -⟩ := hcls.2
  have hasg : s.vm.assignable (D.1 ci) comp = true := by
    rcases hca with hca | hca
    · have hcomp : comp = D.1 ci := Option.some.inj (k3.symm.trans (by rw [← hca]; exact hcls.1))
      rw [hcomp]
      exact va_assign hcls
    · obtain ⟨c0, t1, f1, f2, f3⟩ := Cond.castable_spec (va_Nw.use (A := args) rfl hca)
      cases hcls.1.symm.trans f1
      cases k3.symm.trans f2
      exact f3
  refine W.aast hexec hb (hP q0 _ ha2) (fun q h => by cases h) (fun h => by cases h) k1 k2 rfl hkE ⟨h0, by show _ < (arrV _ _ _).slots.size; rw [arrV_size]; exact hlt⟩ g1 (fun q h => by rw [g3] at h; cases h) (by rw [g2]; exact hkC) (by rw [g2]; exact hasg) rfl rfl hdg fun H1 e z2 oq => ?_
  refine kk H1 _ ?_ (z2.trans hz) (hS.put z2 oq (hD.2 q0 _ ha2))
  rw [← gb_set]
  refine hP.set hD ha2 ?_ oq
  show H1[b + q0]? = some (vp_cell _ _)
  rw [e]
  rw [vp_cell_q, vp_cell_q, arrV_store]
  congr 2
  funext q
  by_cases hq : q = i.toNatClampNeg
  · subst hq
    simp [updV, va_up, va_rf]
  · simp [updV, va_up, hq]
/-- a new object, at the heap's end, which is the block's -/
theorem gb_new (hexec : p.tables.exec = Jvm.exec) (hb : c.code = cc) {own C : String} {T : u_T} {N ci index : Nat} {Ts : List Cond} (hts : ∀ w ∈ Ts, w.before args s = true) (hin : ∀ w ∈ u_ws C T N, w ∈ Ts) (ty : Nat → FieldType) (hty : ∀ k, k < N → parseFieldDescriptor (T k).2.2.1 = some (ty k)) (hown : s.vm.findClass own = some m.cls) (hcl : (Cond.classLink own index C).before args s = true) (hinst : (Cond.instantiable C N).before args s = true) (hini : (Cond.initialized C).before args s = true)
    (hK : va_K D cl tys s) (hP : va_P D cl (gb_wl b cs) H) (hS : va_S A H0 H locs) (n : Nat) (hz : H.size = b + n) (hn : cs.length = n) (hc : cl[ci]? = some (C, T, N)) {fs : List Value} (hfs : ∀ j, j < N → defaultValue (ty j) = vp_V fs j) (hcells : cells + 1 ≤ R.cells) (hslots : slots + N ≤ R.slots) (hdg : decode cc pc = .ok (.new index, 3))
    (kk : ∀ (H1 : Heap), va_P D cl (gb_wl b (cs ++ [.inr (ci, fs)])) H1 → H1.size = b + (n + 1) → va_S A H0 H1 locs →
      W p l e R s m args below meth c H1 locs (cells + 1) (slots + N) Q (F0 m (pc + 3) ls (.ref (b + n) :: rest))) : W p l e R s m args below meth c H locs cells slots Q (F0 m pc ls rest) := by
  have hKn := hK.1 ci _ hc
  refine W.newcK hexec hb hown hcl hinst hini rfl hdg hcells hslots hKn.2.1 hz fun H1 kC hkC e1 z1 o1 => ?_
  have hk : ∀ (k : Nat) (x : Nat × va_E), (gb_wl b cs)[k]? = some x → H1[x.1]? = H[x.1]? := fun k x hx => o1 x.1 (by rw [← hz]; exact (hP k x hx).lt)
  refine kk H1 ?_ (by omega) ⟨Nat.le_trans hS.1 (by omega), fun x h1 h2 => (o1 x (by rw [← hz]; exact Nat.lt_of_lt_of_le h1 hS.1)).trans (hS.2.1 x h1 h2), hS.2.2⟩
  rw [gb_app]
  refine (hP.kept hk).app (fun k x hx => ?_)
  have h9 := gb_of hx
  have hz9 : k < 1 := (List.getElem?_eq_some_iff.mp h9.2).1
  have hk0 : k = 0 := by omega
  subst hk0
  obtain ⟨x1, x2⟩ := x
  obtain ⟨h8, h7⟩ := h9
  cases h7
  have h8 : x1 = b + n := by rw [← hn]; exact h8
  subst h8
  exact ⟨_, hc, (u_born ty hts hin hKn hkC e1 hty).to hfs⟩
/-- a new array of whole numbers, at the heap's end, of the class that the tables have for it -/
theorem gb_newa (hexec : p.tables.exec = Jvm.exec) (hb : c.code = cc) {atype : ArrayType} (harr : (Cond.arrayClass (newarray.typeOf atype)).before args s = true) {ty : FieldType} (hty : newarray.typeOf atype = ty) (hK : va_K D cl tys s) (hP : va_P D cl (gb_wl b cs) H) (hS : va_S A H0 H locs) (n : Nat) (hz : H.size = b + n) (hcn : cs.length = n) (t0 : Nat) {cA : ClassId} (ht : tys[t0]? = some (cA, ty)) (hfc : va_RA s cA ty → s.vm.findClass ("[" ++ ty.toString) = some cA)
    {x : Int32} {N' : Nat} {a0 : vp_A} (ha : ∀ cA : ClassId, vp_cell cA a0 = arrV cA N' (fun _ => defaultValue ty)) (hn : ¬ x < 0) (hN : x.toNatClampNeg = N') (hbytes : N' * componentBytes ty ≤ 536870912) (hcells : cells + 1 ≤ R.cells) (hslots : slots + N' ≤ R.slots) (hdg : decode cc pc = .ok (.newarray atype, 2))
    (kk : ∀ (H1 : Heap), va_P D cl (gb_wl b (cs ++ [.inl (cA, a0)])) H1 → H1.size = b + (n + 1) → va_S A H0 H1 locs →
      W p l e R s m args below meth c H1 locs (cells + 1) (slots + N') Q (F0 m (pc + 2) ls (.ref (b + n) :: rest))) : W p l e R s m args below meth c H locs cells slots Q (F0 m pc ls (.int x :: rest)) := by
  subst hty
  refine va_newaK hexec hb harr rfl hdg rfl hn hN hbytes hcells hslots hz fun H1 cB e1 z1 o1 hAr hNm => ?_
  have hcB : cB = cA := Option.some.inj (hNm.symm.trans (hfc (hK.2 t0 _ ht).2))
  subst hcB
  have hk : ∀ (k : Nat) (x : Nat × va_E), (gb_wl b cs)[k]? = some x → H1[x.1]? = H[x.1]? := fun k x hx => o1 x.1 (by rw [← hz]; exact (hP k x hx).lt)
  refine kk H1 ?_ (by omega) ⟨Nat.le_trans hS.1 (by omega), fun x h1 h2 => (o1 x (by rw [← hz]; exact Nat.lt_of_lt_of_le h1 hS.1)).trans (hS.2.1 x h1 h2), hS.2.2⟩
  rw [gb_app]
  refine (hP.kept hk).app (fun k x hx => ?_)
  have h9 := gb_of hx
  have hz9 : k < 1 := (List.getElem?_eq_some_iff.mp h9.2).1
  have hk0 : k = 0 := by omega
  subst hk0
  obtain ⟨x1, x2⟩ := x
  obtain ⟨h8, h7⟩ := h9
  cases h7
  have h8 : x1 = b + n := by rw [← hcn]; exact h8
  subst h8
  show H1[b + n]? = some (vp_cell _ _)
  rw [ha]
  exact e1
/-- a new array of references, at the heap's end -/
theorem gb_newq (hexec : p.tables.exec = Jvm.exec) (hb : c.code = cc) {own C : String} {index : Nat} (hown : s.vm.findClass own = some m.cls) (hclink : (Cond.classLink own index C).before args s = true) (hover : va_AO C s) (hK : va_K D cl tys s) (hP : va_P D cl (gb_wl b cs) H) (hS : va_S A H0 H locs) (n : Nat) (hz : H.size = b + n) (hcn : cs.length = n) (t0 : Nat) {cA : ClassId} (ht : tys[t0]? = some (cA, .object C))
    {x : Int32} {N' : Nat} (hn : ¬ x < 0) (hN : x.toNatClampNeg = N') (hbytes : N' * 4 ≤ 536870912) (hcells : cells + 1 ≤ R.cells) (hslots : slots + N' ≤ R.slots) (hdg : decode cc pc = .ok (.anewarray index, 3))
    (kk : ∀ (H1 : Heap), va_P D cl (gb_wl b (cs ++ [.inl (cA, N', .inr (.inr (.inr (.inr (fun _ => none)))))])) H1 → H1.size = b + (n + 1) → va_S A H0 H1 locs →
      W p l e R s m args below meth c H1 locs (cells + 1) (slots + N') Q (F0 m (pc + 3) ls (.ref (b + n) :: rest))) : W p l e R s m args below meth c H locs cells slots Q (F0 m pc ls (.int x :: rest)) := by
  subst hN
  refine W.anew hexec hb hown hclink (va_AO.use hover) rfl hdg rfl hn hbytes hcells hslots fun cB kA comp f1 f2 f3 f4 => ?_
  obtain ⟨kA2, comp2, g1, g2, g3, g4⟩ := (hK.2 t0 _ ht).2
  have hcB : cB = cA := Option.some.inj (f1.symm.trans g4)
  subst hcB
  generalize hH1 : H.push ({ cls := cB, slots := Array.replicate x.toNatClampNeg .null, vm := .none } : Cell) = H1
  have z1 : H1.size = H.size + 1 := by rw [← hH1, Array.size_push]
  have e1 : H1[H.size]? = some (arrV cB x.toNatClampNeg (fun _ => .null)) := by rw [← hH1, Array.getElem?_push_size, ← arrV_new]
  have o1 : ∀ q : Nat, q < H.size → H1[q]? = H[q]? := fun q hq => by rw [← hH1, Array.getElem?_push, if_neg (Nat.ne_of_lt hq)]
  have hk : ∀ (k : Nat) (x : Nat × va_E), (gb_wl b cs)[k]? = some x → H1[x.1]? = H[x.1]? := fun k x hx => o1 x.1 ((hP k x hx).lt)
  rw [hz]
  refine kk H1 ?_ (by omega) ⟨Nat.le_trans hS.1 (by omega), fun x h1 h2 => (o1 x (Nat.lt_of_lt_of_le h1 hS.1)).trans (hS.2.1 x h1 h2), hS.2.2⟩
  rw [gb_app]
  refine (hP.kept hk).app (fun k x hx => ?_)
  have h9 := gb_of hx
  have hz9 : k < 1 := (List.getElem?_eq_some_iff.mp h9.2).1
  have hk0 : k = 0 := by omega
  subst hk0
  obtain ⟨x1, x2⟩ := x
  obtain ⟨h8, h7⟩ := h9
  cases h7
  have h8 : x1 = H.size := by rw [hz, ← hcn]; exact h8
  subst h8
  show H1[H.size]? = some (vp_cell _ _)
  rw [vp_cell_q]
  exact e1
end GBR
