section
variable {E : aG} {Γ : aC} {own : String} {cc : ByteArray} {nL : Nat} {ret : Option FieldType} {nm : String} {d mc ms : Nat} {M : aM} {nx ce sl pc pc' : Nat} {lv lv' : List (Nat × Value)} {st : List Value}
theorem va_S.new {A : Nat → Prop} {H0 H H1 : Heap} {locs : List Loc} (hS : va_S A H0 H locs) (z : H1.size = H.size + 1) (oq : ∀ q : Nat, q < H.size → H1[q]? = H[q]?) : va_S A H0 H1 locs :=
  ⟨Nat.le_trans hS.1 (by omega), fun x h1 h2 => (oq x (Nat.lt_of_lt_of_le h1 hS.1)).trans (hS.2.1 x h1 h2), hS.2.2⟩
theorem sv_newI (hΓ : CK E own cc nL ret nm d mc ms Γ) {n : Int32} (N : Nat) (hw : Cond.arrayClass .int ∈ TB) (hd : decode cc pc = .ok (.newarray .int, 2)) (hn0 : ¬ n < 0) (hN : n.toNatClampNeg = N) (hN2 : N ≤ 1000) (hce : ce + 1 ≤ mc) (hsl : sl + N ≤ ms) (hn : pc + 2 = pc') (k : SV E Γ nL (va_up M nx (some (.inl (0, N, .inl (fun _ => 0))))) (nx + 1) (ce + 1) (sl + N) pc' lv (.ref nx :: st)) : SV E Γ nL M nx ce sl pc lv (.int n :: st) := by
  obtain ⟨p, l, e, R, s, m, args, below, meth, c, Q⟩ := Γ
  obtain ⟨hx, hb, hml, hown, hts, hK, hr, hlk, hnm, hrm, hsz, hZ, hZC⟩ := hΓ
  subst hn
  intro H locs ls hR hS hl
  refine va_newaK hx hb (atype := .int) (hts _ hw) rfl hd rfl hn0 hN (by show N * 4 ≤ _; omega) (by omega) (by omega) hR.1 fun H1 cA e1 z1 o1 hAr hNm => ?_
  have hcA : cA = gA E 0 := Option.some.inj (hNm.symm.trans (hK.2 0 _ rfl).2)
  subst hcA
  exact k H1 locs ls (hR.push (x := .inl (0, N, .inl (fun _ => 0))) e1 (by rw [z1, hR.1]) (by rw [hR.1]; exact o1)) (hS.new (by rw [z1, hR.1]) (by rw [hR.1]; exact o1)) hl
theorem sv_newJ (hΓ : CK E own cc nL ret nm d mc ms Γ) {n : Int32} (N : Nat) (hw : Cond.arrayClass .long ∈ TB) (hd : decode cc pc = .ok (.newarray .long, 2)) (hn0 : ¬ n < 0) (hN : n.toNatClampNeg = N) (hN2 : N ≤ 1000) (hce : ce + 1 ≤ mc) (hsl : sl + N ≤ ms) (hn : pc + 2 = pc') (k : SV E Γ nL (va_up M nx (some (.inl (1, N, .inr (.inl (fun _ => 0)))))) (nx + 1) (ce + 1) (sl + N) pc' lv (.ref nx :: st)) : SV E Γ nL M nx ce sl pc lv (.int n :: st) := by
  obtain ⟨p, l, e, R, s, m, args, below, meth, c, Q⟩ := Γ
  obtain ⟨hx, hb, hml, hown, hts, hK, hr, hlk, hnm, hrm, hsz, hZ, hZC⟩ := hΓ
  subst hn
  intro H locs ls hR hS hl
  refine va_newaK hx hb (atype := .long) (hts _ hw) rfl hd rfl hn0 hN (by show N * 8 ≤ _; omega) (by omega) (by omega) hR.1 fun H1 cA e1 z1 o1 hAr hNm => ?_
  have hcA : cA = gA E 1 := Option.some.inj (hNm.symm.trans (hK.2 1 _ rfl).2)
  subst hcA
  exact k H1 locs ls (hR.push (x := .inl (1, N, .inr (.inl (fun _ => 0)))) e1 (by rw [z1, hR.1]) (by rw [hR.1]; exact o1)) (hS.new (by rw [z1, hR.1]) (by rw [hR.1]; exact o1)) hl
theorem sv_newZ (hΓ : CK E own cc nL ret nm d mc ms Γ) {n : Int32} (N : Nat) (hw : Cond.arrayClass .boolean ∈ TB) (hd : decode cc pc = .ok (.newarray .boolean, 2)) (hn0 : ¬ n < 0) (hN : n.toNatClampNeg = N) (hN2 : N ≤ 1000) (hce : ce + 1 ≤ mc) (hsl : sl + N ≤ ms) (hn : pc + 2 = pc') (k : SV E Γ nL (va_up M nx (some (.inl (2, N, .inl (fun _ => 0))))) (nx + 1) (ce + 1) (sl + N) pc' lv (.ref nx :: st)) : SV E Γ nL M nx ce sl pc lv (.int n :: st) := by
  obtain ⟨p, l, e, R, s, m, args, below, meth, c, Q⟩ := Γ
  obtain ⟨hx, hb, hml, hown, hts, hK, hr, hlk, hnm, hrm, hsz, hZ, hZC⟩ := hΓ
  subst hn
  intro H locs ls hR hS hl
  refine va_newaK hx hb (atype := .boolean) (hts _ hw) rfl hd rfl hn0 hN (by show N * 1 ≤ _; omega) (by omega) (by omega) hR.1 fun H1 cA e1 z1 o1 hAr hNm => ?_
  have hcA : cA = gA E 2 := Option.some.inj (hNm.symm.trans (hK.2 2 _ rfl).2)
  subst hcA
  exact k H1 locs ls (hR.push (x := .inl (2, N, .inl (fun _ => 0))) e1 (by rw [z1, hR.1]) (by rw [hR.1]; exact o1)) (hS.new (by rw [z1, hR.1]) (by rw [hR.1]; exact o1)) hl
theorem sv_newA (hΓ : CK E own cc nL ret nm d mc ms Γ) {n : Int32} {index t : Nat} {C : String} (N : Nat) (ht : (gTys E)[t]? = some (gA E t, .object C)) (hw : Cond.classLink own index C ∈ TB) (hov : ∀ U H, gZ E U H → va_AO C U) (hd : decode cc pc = .ok (.anewarray index, 3)) (hn0 : ¬ n < 0) (hN : n.toNatClampNeg = N) (hN2 : N ≤ 1000) (hce : ce + 1 ≤ mc) (hsl : sl + N ≤ ms) (hn : pc + 3 = pc') (k : SV E Γ nL (va_up M nx (some (.inl (t, N, .inr (.inr (.inr (.inr (fun _ => none)))))))) (nx + 1) (ce + 1) (sl + N) pc' lv (.ref nx :: st)) : SV E Γ nL M nx ce sl pc lv (.int n :: st) := by
  obtain ⟨p, l, e, R, s, m, args, below, meth, c, Q⟩ := Γ
  obtain ⟨hx, hb, hml, hown, hts, hK, hr, hlk, hnm, hrm, hsz, hZ, hZC⟩ := hΓ
  subst hn
  subst hN
  intro H locs ls hR hS hl
  refine W.anew hx hb hown (hts _ hw) (va_AO.use (hov _ _ hZ)) rfl hd rfl hn0 (by omega) (by omega) (by omega) fun cA kA comp f1 f2 f3 f4 => ?_
  generalize hH1 : H.push ({ cls := cA, slots := Array.replicate n.toNatClampNeg .null, vm := .none } : Cell) = H1
  have z1 : H1.size = H.size + 1 := by rw [← hH1, Array.size_push]
  have e1 : H1[H.size]? = some (arrV cA n.toNatClampNeg (fun _ => .null)) := by rw [← hH1, Array.getElem?_push_size, ← arrV_new]
  have o1 : ∀ q : Nat, q < H.size → H1[q]? = H[q]? := fun q hq => by rw [← hH1, Array.getElem?_push, if_neg (Nat.ne_of_lt hq)]
  obtain ⟨kA', comp', g1, g2, g3, g4⟩ := (hK.2 t _ ht).2
  have hcA : cA = gA E t := Option.some.inj (f1.symm.trans g4)
  subst hcA
  have kk := k H1 locs ls (hR.push (x := .inl (t, n.toNatClampNeg, .inr (.inr (.inr (.inr (fun _ => none)))))) (by rw [hR.1] at e1; exact e1) z1 o1) (hS.new z1 o1) hl
  rw [hR.1]
  exact kk
theorem sv_new (hΓ : CK E own cc nL ret nm d mc ms Γ) {C : String} {T : u_T} {N ci index : Nat} (hin : ∀ w ∈ u_ws C T N, w ∈ TB) (ty : Nat → FieldType) (hty : ∀ k, k < N → parseFieldDescriptor (T k).2.2.1 = some (ty k)) (hc : vwCl[ci]? = some (C, T, N)) (hcl : Cond.classLink own index C ∈ TB) (hinst : Cond.instantiable C N ∈ TB) (hini : Cond.initialized C ∈ TB) {fs : List Value} (hfs : ∀ E : aG, ∀ j, j < N → defaultValue (ty j) = vp_V (fs.map (tv E)) j) (hd : decode cc pc = .ok (.new index, 3)) (hce : ce + 1 ≤ mc) (hsl : sl + N ≤ ms) (hn : pc + 3 = pc') (k : SV E Γ nL (va_up M nx (some (.inr (ci, fs)))) (nx + 1) (ce + 1) (sl + N) pc' lv (.ref nx :: st)) : SV E Γ nL M nx ce sl pc lv st := by
  obtain ⟨p, l, e, R, s, m, args, below, meth, c, Q⟩ := Γ
  obtain ⟨hx, hb, hml, hown, hts, hK, hr, hlk, hnm, hrm, hsz, hZ, hZC⟩ := hΓ
  subst hn
  intro H locs ls hR hS hl
  have hKn := hK.1 ci _ hc
  refine W.newcK hx hb hown (hts _ hcl) (hts _ hinst) (hts _ hini) rfl hd (by omega) (by omega) hKn.2.1 hR.1 fun H1 kC hkC e1 z1 o1 => ?_
  exact k H1 locs ls (hR.push (x := .inr (ci, fs)) ⟨_, hc, (u_born ty hts hin hKn hkC e1 hty).to (hfs E)⟩ (by rw [z1, hR.1]) (by rw [hR.1]; exact o1)) (hS.new (by rw [z1, hR.1]) (by rw [hR.1]; exact o1)) hl
theorem sv_aast (hΓ : CK E own cc nL ret nm d mc ms Γ) {a v n t ci : Nat} {C : String} {r : vw_C} {fs : List Value} {f : Nat → Option Nat} {i : Int32} (ht : (gTys E)[t]? = some (gA E t, .object C)) (hc : vwCl[ci]? = some r) (hca : r.1 = C ∨ ∀ U H, gZ E U H → va_Nw (.castable r.1 C) U) (hd : decode cc pc = .ok (.aastore, 1)) (hM : M a = some (.inl (t, n, .inr (.inr (.inr (.inr f)))))) (hv : M v = some (.inr (ci, fs))) (hin : vp_in i n) (hn : pc + 1 = pc') (k : SV E Γ nL (va_up M a (some (.inl (t, n, .inr (.inr (.inr (.inr (va_up f i.toNatClampNeg (some v))))))))) nx ce sl pc' lv st) : SV E Γ nL M nx ce sl pc lv (.ref v :: .int i :: .ref a :: st) := by
  obtain ⟨p, l, e, R, s, m, args, below, meth, c, Q⟩ := Γ
  obtain ⟨hx, hb, hml, hown, hts, hK, hr, hlk, hnm, hrm, hsz, hZ, hZC⟩ := hΓ
  subst hn
  intro H locs ls hR hS hl
  obtain ⟨ha1, ha2, hat⟩ := hR.2.2 a _ hM
  obtain ⟨hv1, hv2, hatv⟩ := hR.2.2 v _ hv
  have hlt : i.toNatClampNeg < n := Nat.not_le.mp fun q => hin (Or.inr q)
  have h0 : ¬ i < 0 := fun q => hin (Or.inl q)
  obtain ⟨r', hr', cellV, g1, g2, g3, -⟩ := hatv
  have hcls := (hK.1 ci r hc).2
  obtain ⟨kA, comp, k1, k2, k3, -⟩ := (hK.2 t _ ht).2
  obtain ⟨kE, hkE, -⟩ := Vm.findClass_spec k3
  obtain ⟨kC, hkC, hkind⟩ := hcls.2
  have hasg : s.vm.assignable ((gD E).1 ci) comp = true := by
    rcases hca with h | h
    · rw [← h] at k3
      have hcomp : comp = (gD E).1 ci := Option.some.inj (k3.symm.trans hcls.1)
      rw [hcomp]
      exact va_assign hcls
    · obtain ⟨c0, t1, f1, f2, f3⟩ := Cond.castable_spec (va_Nw.use (A := args) rfl (h _ _ hZ))
      cases hcls.1.symm.trans f1
      cases k3.symm.trans f2
      exact f3
  refine W.aast hx hb hat (fun q h => by cases h) (fun h => by cases h) k1 k2 rfl hkE ⟨h0, by show _ < (arrV _ _ _).slots.size; rw [arrV_size]; exact hlt⟩ g1 (fun q h => by rw [g3] at h; cases h) (by rw [g2]; exact hkC) (by rw [g2]; exact hasg) rfl rfl hd fun H1 e z oq => ?_
  refine k H1 _ ls (hR.set hM ?_ z oq) (hS.put z oq (ta_ge ha1)) hl
  show H1[ta E a]? = some (vp_cell (gA E t) (n, .inr (.inr (.inr (.inr (fun j => ((va_up f i.toNatClampNeg (some v)) j).map (ta E)))))))
  rw [e]
  show some ((vp_cell (gA E t) (n, .inr (.inr (.inr (.inr (fun j => (f j).map (ta E))))))).setSlot _ _) = _
  rw [vp_cell_q, vp_cell_q, arrV_store]
  congr 2
  funext q
  by_cases hq : q = i.toNatClampNeg
  · subst hq
    simp [updV, va_up, va_rf]
  · simp [updV, va_up, hq]
theorem sv_aastN (hΓ : CK E own cc nL ret nm d mc ms Γ) {a n t : Nat} {C : String} {f : Nat → Option Nat} {i : Int32} (ht : (gTys E)[t]? = some (gA E t, .object C)) (hd : decode cc pc = .ok (.aastore, 1)) (hM : M a = some (.inl (t, n, .inr (.inr (.inr (.inr f)))))) (hin : vp_in i n) (hn : pc + 1 = pc') (k : SV E Γ nL (va_up M a (some (.inl (t, n, .inr (.inr (.inr (.inr (va_up f i.toNatClampNeg none)))))))) nx ce sl pc' lv st) : SV E Γ nL M nx ce sl pc lv (.null :: .int i :: .ref a :: st) := by
  obtain ⟨p, l, e, R, s, m, args, below, meth, c, Q⟩ := Γ
  obtain ⟨hx, hb, hml, hown, hts, hK, hr, hlk, hnm, hrm, hsz, hZ, hZC⟩ := hΓ
  subst hn
  intro H locs ls hR hS hl
  obtain ⟨ha1, ha2, hat⟩ := hR.2.2 a _ hM
  refine va_WaastN (C := C) hx hb hat ((hK.2 t _ ht).1 n _) (fun h => by cases h) (by show ¬ (i < 0 ∨ (arrV _ _ _).slots.size ≤ _); rw [arrV_size]; exact hin) rfl rfl hd fun H1 e z oq => ?_
  refine k H1 _ ls (hR.set hM ?_ z oq) (hS.put z oq (ta_ge ha1)) hl
  show H1[ta E a]? = some (vp_cell (gA E t) (n, .inr (.inr (.inr (.inr (fun j => ((va_up f i.toNatClampNeg none) j).map (ta E)))))))
  rw [e]
  show some ((vp_cell (gA E t) (n, .inr (.inr (.inr (.inr (fun j => (f j).map (ta E))))))).setSlot _ _) = _
  rw [vp_cell_q, vp_cell_q, arrV_store]
  congr 2
  funext q
  by_cases hq : q = i.toNatClampNeg
  · subst hq
    simp [updV, va_up, va_rf]
  · simp [updV, va_up, hq]
end
/-! A contract: from M the method ends, answers r and leaves M', by Post; at most mc cells of ms slots are new -/
def PB (E : aG) (M : aM) (nx : Nat) (U : State) : Prop := RP E M nx U.heap ∧ va_K (gD E) vwCl (gTys E) U ∧ gZ E U U.heap ∧ ZC E
def QC (E : aG) (Post : Option Value → aM → Nat → Prop) : Array Value → State → Outcome → State → Prop := fun _ st oc t => (∃ (r : Option Value) (M' : aM) (nx' : Nat), oc = .returned (r.map (tv E)) ∧ Post r M' nx' ∧ RP E M' nx' t.heap) ∧ va_F (fun q => gb E ≤ q) st t
def CT (E : aG) (l : Launch) (y : MethodName) (cc : ByteArray) (mL : Nat) (ret : Option FieldType) (d : Nat) (av : List Value) (M : aM) (nx mc ms : Nat) (Post : Option Value → aM → Nat → Prop) : Prop :=
  Met l y (wT y cc mL ret) { frames := d, cells := mc, slots := ms, locals := 40 * d } (va_Pc (av.map (tv E)) (PB E M nx)) (QC E Post) mc ms (fun q => gb E ≤ q)
def RQ (E : aG) (Post : Option Value → aM → Nat → Prop) (mc ms : Nat) (Γ : aC) : Prop :=
  match Γ with
  | (p, l, e, R, s, m, args, below, meth, c, Q) => Q = MQ below (QC E Post) args s mc ms (fun q => gb E ≤ q)
theorem PB.blind {E : aG} {M : aM} {nx : Nat} {av : List Value} : FrameBlind (va_Pc (av.map (tv E)) (PB E M nx)) := by
  intro a U g mk q
  obtain ⟨q0, qR, qK, qZ, qC⟩ := q
  exact ⟨q0, qR, va_K.moved (u := U) (U := U.calling g mk a) (Vm.Alike.refl U.vm) qK, qC U (U.calling g mk a) U.heap U.heap qZ (Or.inl rfl) (Nat.le_refl _) (fun _ _ _ => rfl), qC⟩
theorem lg_sl_tv (E : aG) (av : List Value) : (lg_sl (av.map (tv E))).length = (lg_sl av).length := by
  induction av with
  | nil => rfl
  | cons v vs ih =>
    cases v <;> simp only [List.map, tv, lg_sl, List.flatMap_cons, List.length_append] at ih ⊢ <;> first | omega | (simp_all; done) | (simp_all [lg_sl]; done) | (simp_all [lg_sl]; rfl)
theorem CT_intro {E : aG} {l : Launch} {y : MethodName} {cc : ByteArray} {mL : Nat} {ret : Option FieldType} {d : Nat} {av : List Value} {M : aM} {nx mc ms : Nat} {Post : Option Value → aM → Nat → Prop} (hy : plainName y.cls = true) (hsz : (lg_sl av).length ≤ mL)
    (body : ∀ Γ : aC, CK E y.cls cc mL ret y.name d mc ms Γ → RQ E Post mc ms Γ → SV E Γ mL M nx 0 0 0 (lv_args 0 av) []) : CT E l y cc mL ret d av M nx mc ms Post := by
  refine Met.ofW (cc := cc) (maxL := mL) (ret := ret) hy rfl ?_
  intro p e s m args below meth c s₁ B hml hv
  obtain ⟨rfl, hR, hK, hZ, hZC⟩ := hv
  have hts0 := atoms_spec (ws := wT y cc mL ret) B.pre
  have hts : ∀ w ∈ TB, w.before (av.map (tv E)).toArray s = true := fun w h => hts0 w (List.mem_cons_of_mem _ h)
  have hown : s.vm.findClass y.cls = some m.cls := findClass_of_methodNamed B.named
  have hgb : gb E ≤ s.heap.size := by rw [hR.1]; exact ta_ge hR.2.1
  have K := body (p, l, e, { frames := d, cells := mc, slots := ms, locals := 40 * d }, s, m, (av.map (tv E)).toArray, below, meth, c, MQ below (QC E Post) (av.map (tv E)).toArray s mc ms (fun q => gb E ≤ q))
    ⟨B.exec, B.bytes, hml, hown, hts, hK, B.returns, B.notSynchronized, (name_of_methodNamed B.named B.method).1, ⟨Nat.le_refl _, Nat.le_refl _, Nat.le_refl _, Nat.le_refl _⟩, hgb, hZ, hZC⟩ rfl
  have hl := lv_entry (av.map (tv E)) (n := mL) (by rw [lg_sl_tv]; exact hsz)
  rw [lvm_args] at hl
  rw [lg_entry_eq]
  exact K s.heap [] _ hR va_S.rf hl
section
variable {E : aG} {Γ : aC} {own : String} {cc : ByteArray} {nL : Nat} {ret : Option FieldType} {nm : String} {d mc ms : Nat} {M : aM} {nx ce sl pc pc' : Nat} {lv lv' : List (Nat × Value)} {st : List Value} {Post : Option Value → aM → Nat → Prop}
theorem sv_iret (hΓ : CK E own cc nL (some .int) nm d mc ms Γ) (hQ : RQ E Post mc ms Γ) {v : Int32} (hd : decode cc pc = .ok (.ireturn, 1)) (hce : ce ≤ mc) (hsl : sl ≤ ms) (hp : Post (some (.int v)) M nx) : SV E Γ nL M nx ce sl pc lv [.int v] := by
  obtain ⟨p, l, e, R, s, m, args, below, meth, c, Q⟩ := Γ
  obtain ⟨hx, hb, hml, hown, hts, hK, hr, hlk, hnm, hrm, hsz, hZ, hZC⟩ := hΓ
  cases hQ
  intro H locs ls hR hS hl
  exact W.widen hce hsl (W.iret (Qc := QC E Post) hx hb hr (fun t ht hW => ⟨⟨some (.int v), M, nx, rfl, hp, by rw [ht]; exact hR⟩, hS.F ht⟩) hS.2.2 hd hlk)
theorem sv_zret (hΓ : CK E own cc nL (some .boolean) nm d mc ms Γ) (hQ : RQ E Post mc ms Γ) {v : Int32} (hd : decode cc pc = .ok (.ireturn, 1)) (hce : ce ≤ mc) (hsl : sl ≤ ms) (hz : narrow .boolean (.int v) = .int v) (hp : Post (some (.int v)) M nx) : SV E Γ nL M nx ce sl pc lv [.int v] := by
  obtain ⟨p, l, e, R, s, m, args, below, meth, c, Q⟩ := Γ
  obtain ⟨hx, hb, hml, hown, hts, hK, hr, hlk, hnm, hrm, hsz, hZ, hZC⟩ := hΓ
  cases hQ
  intro H locs ls hR hS hl
  exact W.widen hce hsl (W.zret (Qc := QC E Post) hx hb hr hz (fun t ht hW => ⟨⟨some (.int v), M, nx, rfl, hp, by rw [ht]; exact hR⟩, hS.F ht⟩) hS.2.2 hd hlk)
theorem sv_lret (hΓ : CK E own cc nL (some .long) nm d mc ms Γ) (hQ : RQ E Post mc ms Γ) {v : Int64} (hd : decode cc pc = .ok (.lreturn, 1)) (hce : ce ≤ mc) (hsl : sl ≤ ms) (hp : Post (some (.long v)) M nx) : SV E Γ nL M nx ce sl pc lv [.long v] := by
  obtain ⟨p, l, e, R, s, m, args, below, meth, c, Q⟩ := Γ
  obtain ⟨hx, hb, hml, hown, hts, hK, hr, hlk, hnm, hrm, hsz, hZ, hZC⟩ := hΓ
  cases hQ
  intro H locs ls hR hS hl
  exact W.widen hce hsl (W.lret (Qc := QC E Post) hx hb hr (fun t ht hW => ⟨⟨some (.long v), M, nx, rfl, hp, by rw [ht]; exact hR⟩, hS.F ht⟩) hS.2.2 hd hlk)
theorem sv_aret {rt : String} (hΓ : CK E own cc nL (some (.object rt)) nm d mc ms Γ) (hQ : RQ E Post mc ms Γ) {v : Nat} (hd : decode cc pc = .ok (.areturn, 1)) (hce : ce ≤ mc) (hsl : sl ≤ ms) (hp : Post (some (.ref v)) M nx) : SV E Γ nL M nx ce sl pc lv [.ref v] := by
  obtain ⟨p, l, e, R, s, m, args, below, meth, c, Q⟩ := Γ
  obtain ⟨hx, hb, hml, hown, hts, hK, hr, hlk, hnm, hrm, hsz, hZ, hZC⟩ := hΓ
  cases hQ
  intro H locs ls hR hS hl
  exact W.widen hce hsl (W.aret (Qc := QC E Post) hx hb hr (Or.inl ⟨_, rfl⟩) (Or.inr ⟨_, rfl⟩) (fun t ht hW => ⟨⟨some (.ref v), M, nx, rfl, hp, by rw [ht]; exact hR⟩, hS.F ht⟩) hS.2.2 hd hlk)
theorem sv_vret (hΓ : CK E own cc nL none nm d mc ms Γ) (hQ : RQ E Post mc ms Γ) (hd : decode cc pc = .ok (.return_, 1)) (hce : ce ≤ mc) (hsl : sl ≤ ms) (hp : Post none M nx) : SV E Γ nL M nx ce sl pc lv [] := by
  obtain ⟨p, l, e, R, s, m, args, below, meth, c, Q⟩ := Γ
  obtain ⟨hx, hb, hml, hown, hts, hK, hr, hlk, hnm, hrm, hsz, hZ, hZC⟩ := hΓ
  cases hQ
  intro H locs ls hR hS hl
  exact W.widen hce hsl (W.vret (Qc := QC E Post) hx hb hr (fun t ht hW => ⟨⟨none, M, nx, rfl, hp, by rw [ht]; exact hR⟩, hS.F ht⟩) hS.2.2 hd hlk)
/-- the words of a call of an instance's method, of a class's, of a constructor -/
def wV (own : String) (index : Nat) (y : MethodName) (cc : ByteArray) (mL : Nat) (ret : Option FieldType) (n : Nat) : Prop :=
  (Cond.methodLink own index y ∈ TB ∧ Cond.initialized y.cls ∈ TB ∧ Cond.code y cc mL ret ∈ TB) ∧ (y.cls ≠ "java/lang/invoke/MethodHandle" ∧ y.cls ≠ "java/lang/invoke/VarHandle" ∧ (parseMethodDescriptor y.desc).map (fun d => d.parameters.length) = some n) ∧ mL ≤ 21
theorem tv_rl (E : aG) (r : Option Value) (st : List Value) : (r.toList ++ st).map (tv E) = (r.map (tv E)).toList ++ st.map (tv E) := by cases r <;> rfl
theorem sv_callV (hΓ : CK E own cc nL ret nm d mc ms Γ) {y : MethodName} {T : u_T} {cc' : ByteArray} {ret' : Option FieldType} {mL' d' mc' ms' index n N ci a : Nat} {As fs stk : List Value}
    (hC : ∀ l, CT E l y cc' mL' ret' d' (.ref a :: As) M nx mc' ms' Post) (hw : wV own index y cc' mL' ret' n) (hsel : Cond.instanceMethod y ∈ TB ∧ Cond.selects y.cls y y ∈ TB) (hc : vwCl[ci]? = some (y.cls, T, N)) (hM : M a = some (.inr (ci, fs))) (hst : stk = As.reverse ++ .ref a :: st) (hA : As.length = n) (hdd : d' + 1 ≤ d) (hce : ce + mc' ≤ mc) (hsl : sl + ms' ≤ ms) (hcat : (st.map fun v => v.category).sum ≤ 8) (hd : decode cc pc = .ok (.invokevirtual index, 3)) (hn : pc + 3 = pc')
    (k : ∀ (r : Option Value) (M' : aM) (nx' : Nat), Post r M' nx' → SV E Γ nL M' nx' (ce + mc') (sl + ms') pc' lv (r.toList ++ st)) : SV E Γ nL M nx ce sl pc lv stk := by
  obtain ⟨p, l, e, R, s, m, args, below, meth, c, Q⟩ := Γ
  obtain ⟨hx, hb, hml, hown, hts, hK, hr, hlk, hnm, hrm, hsz, hZ, hZC⟩ := hΓ
  subst hn
  intro H locs ls hR hS hl
  obtain ⟨⟨w1, w2, w3⟩, w4, w5⟩ := hw
  have cb : CallB R s args own index y cc' mL' ret' (wT y cc' mL' ret') { frames := d', cells := mc', slots := ms', locals := 40 * d' } mc' ms' n :=
    callB_of (Ts := TB) n hts (fun w h => by
      rcases List.mem_cons.mp h with e | h
      · subst e; exact ⟨w3, good_of_word (TB_good w3)⟩
      · exact ⟨h, good_of_word (TB_good h)⟩) rfl rfl rfl (hts _ w2) (hts _ w1) w4 ⟨by show d' + 1 ≤ R.frames; omega, by show 8 + (mL' + 11) + 40 * d' ≤ R.locals; omega⟩
  have hrun := va_runV (l := l) (e := e) (below := below) (meth := meth) (H := H) (locs := locs) (cells := ce) (slots := sl) (g := F0 m pc ls (stk.map (tv E))) (As := As.map (tv E)) (rest := st.map (tv E)) (b := ta E a) (C := y.cls) ⟨hx, hb, hml, hown, hts⟩ (hC l) ⟨cb, hts _ hsel.1, hts _ hsel.2⟩
    ⟨PB.blind, va_recv hK (va_P1 (hR.2.2 a _ hM).2.2) hc (q0 := 0) rfl, fun U hU hW => ⟨rfl, by rw [hU]; exact hR, va_K.moved hW.alike hK, hZC s U s.heap U.heap hZ (Or.inr hW) (by rw [hU]; exact hS.1) (fun q h1 h2 => by rw [hU]; exact hS.2.1 q h1 h2), hZC⟩⟩ rfl (by rw [List.length_map]; exact hA) hl.1 (by rw [hst, List.map_append, List.map_reverse]; rfl) (lv_room (by rw [tv_cats]; exact hcat)) hd ⟨by omega, by omega⟩
  intro T' hT X
  obtain ⟨v, st₀, t, T2, L, h0, X', hL, e1, e2, ⟨⟨r, M', nx', hv, hp, hRP⟩, hz, hk⟩, stp⟩ := hrun T' hT X
  cases hv
  rw [h0] at hz hk
  obtain ⟨t2, a1, b1⟩ := k r M' nx' hp T2.heap (locs ++ L) ls (by rw [e1]; exact hRP)
    ⟨Nat.le_trans hS.1 (by rw [e1]; exact hz), fun q h1 h2 => by rw [e1, hk q (Nat.lt_of_lt_of_le h1 hS.1) h2]; exact hS.2.1 q h1 h2, fun q hq => by
      rcases List.mem_append.mp hq with h | h
      · exact hS.2.2 q h
      · exact hL q h⟩ hl T2 rfl X'
  rw [tv_rl] at a1
  exact ⟨t2, stp t2 a1, b1⟩
theorem sv_callS (hΓ : CK E own cc nL ret nm d mc ms Γ) {y : MethodName} {cc' : ByteArray} {ret' : Option FieldType} {mL' d' mc' ms' index n : Nat} {As stk : List Value}
    (hC : ∀ l, CT E l y cc' mL' ret' d' As M nx mc' ms' Post) (hw : wV own index y cc' mL' ret' n) (hsel : Cond.static y ∈ TB) (hst : stk = As.reverse ++ st) (hA : As.length = n) (hdd : d' + 1 ≤ d) (hce : ce + mc' ≤ mc) (hsl : sl + ms' ≤ ms) (hcat : (st.map fun v => v.category).sum ≤ 8) (hd : decode cc pc = .ok (.invokestatic index, 3)) (hn : pc + 3 = pc')
    (k : ∀ (r : Option Value) (M' : aM) (nx' : Nat), Post r M' nx' → SV E Γ nL M' nx' (ce + mc') (sl + ms') pc' lv (r.toList ++ st)) : SV E Γ nL M nx ce sl pc lv stk := by
  obtain ⟨p, l, e, R, s, m, args, below, meth, c, Q⟩ := Γ
  obtain ⟨hx, hb, hml, hown, hts, hK, hr, hlk, hnm, hrm, hsz, hZ, hZC⟩ := hΓ
  subst hn
  intro H locs ls hR hS hl
  obtain ⟨⟨w1, w2, w3⟩, w4, w5⟩ := hw
  have cb : CallB R s args own index y cc' mL' ret' (wT y cc' mL' ret') { frames := d', cells := mc', slots := ms', locals := 40 * d' } mc' ms' n :=
    callB_of (Ts := TB) n hts (fun w h => by
      rcases List.mem_cons.mp h with e | h
      · subst e; exact ⟨w3, good_of_word (TB_good w3)⟩
      · exact ⟨h, good_of_word (TB_good h)⟩) rfl rfl rfl (hts _ w2) (hts _ w1) w4 ⟨by show d' + 1 ≤ R.frames; omega, by show 8 + (mL' + 11) + 40 * d' ≤ R.locals; omega⟩
  have hrun := va_runS (l := l) (e := e) (below := below) (meth := meth) (H := H) (locs := locs) (cells := ce) (slots := sl) (g := F0 m pc ls (stk.map (tv E))) (As := As.map (tv E)) (rest := st.map (tv E)) ⟨hx, hb, hml, hown, hts⟩ (hC l) ⟨cb, hts _ hsel⟩
    ⟨PB.blind, fun U hU hW => ⟨rfl, by rw [hU]; exact hR, va_K.moved hW.alike hK, hZC s U s.heap U.heap hZ (Or.inr hW) (by rw [hU]; exact hS.1) (fun q h1 h2 => by rw [hU]; exact hS.2.1 q h1 h2), hZC⟩⟩ rfl (by rw [List.length_map]; exact hA) hl.1 (by rw [hst, List.map_append, List.map_reverse]) (lv_room (by rw [tv_cats]; exact hcat)) hd ⟨by omega, by omega⟩
  intro T' hT X
  obtain ⟨v, st₀, t, T2, L, h0, X', hL, e1, e2, ⟨⟨r, M', nx', hv, hp, hRP⟩, hz, hk⟩, stp⟩ := hrun T' hT X
  cases hv
  rw [h0] at hz hk
  obtain ⟨t2, a1, b1⟩ := k r M' nx' hp T2.heap (locs ++ L) ls (by rw [e1]; exact hRP)
    ⟨Nat.le_trans hS.1 (by rw [e1]; exact hz), fun q h1 h2 => by rw [e1, hk q (Nat.lt_of_lt_of_le h1 hS.1) h2]; exact hS.2.1 q h1 h2, fun q hq => by
      rcases List.mem_append.mp hq with h | h
      · exact hS.2.2 q h
      · exact hL q h⟩ hl T2 rfl X'
  rw [tv_rl] at a1
  exact ⟨t2, stp t2 a1, b1⟩
end
