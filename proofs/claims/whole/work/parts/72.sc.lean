/-! Calls that may throw, and catching -/
def SVX (E : aG) (Γ : aC) (nL : Nat) (M : aM) (nx ce sl pc : Nat) (lv : List (Nat × Value)) (X : String) : Prop :=
  match Γ with
  | (p, l, e, R, s, m, args, below, meth, c, Q) => ∀ (H : Heap) (locs : List Loc) (ls : Array Slot) (q : Addr) (k : Cell) (rest : List Value), RP E M nx H → va_S (fun q => gb E ≤ q) s.heap H locs → lv_has ls nL (lvm E lv) → H[q]? = some k → k.vm = .none → s.vm.findClass X = some k.cls → vx_W p l e R s m args below meth c H locs ce sl Q (F0 m pc ls rest) q
section
variable {E : aG} {Γ : aC} {own : String} {cc : ByteArray} {nL : Nat} {ret : Option FieldType} {nm : String} {d mc ms : Nat} {M : aM} {nx ce sl pc pc' : Nat} {lv lv' : List (Nat × Value)} {st : List Value} {Post : Option Value → aM → Nat → Prop} {PX : String → aM → Nat → Prop}
theorem sv_callVX (hΓ : CK E own cc nL ret nm d mc ms Γ) {y : MethodName} {T : u_T} {cc' : ByteArray} {ret' : Option FieldType} {mL' d' mc' ms' index n N ci a : Nat} {As fs stk : List Value}
    (hC : CX E (gl Γ) y cc' mL' ret' d' (.ref a :: As) M nx mc' ms' Post PX) (hw : wV own index y cc' mL' ret' n) (hsel : Cond.instanceMethod y ∈ TB ∧ Cond.selects y.cls y y ∈ TB) (hc : vwCl[ci]? = some (y.cls, T, N)) (hM : M a = some (.inr (ci, fs))) (hst : stk = As.reverse ++ .ref a :: st) (hA : As.length = n) (hdd : d' + 1 ≤ d) (hce : ce + mc' ≤ mc) (hsl : sl + ms' ≤ ms) (hcat : (st.map fun v => v.category).sum ≤ 8) (hd : decode cc pc = .ok (.invokevirtual index, 3)) (hn : pc + 3 = pc')
    (k : ∀ (r : Option Value) (M' : aM) (nx' : Nat), Post r M' nx' → SV E Γ nL M' nx' (ce + mc') (sl + ms') pc' lv (r.toList ++ st))
    (kx : ∀ (X : String) (M' : aM) (nx' : Nat), PX X M' nx' → SVX E Γ nL M' nx' (ce + mc') (sl + ms') pc lv X) : SV E Γ nL M nx ce sl pc lv stk := by
  obtain ⟨p, l, e, R, s, m, args, below, meth, c, Q⟩ := Γ
  obtain ⟨hx, hb, hml, hown, hts, hK, hr, hlk, hnm, hrm, hsz, hZ, hZC⟩ := hΓ
  subst hn
  intro H locs ls hR hS hl
  obtain ⟨⟨w1, w2, w3⟩, w4, w5⟩ := hw
  have cb : CallB R s args own index y cc' mL' ret' (wT y cc' mL' ret') { frames := d', cells := mc', slots := ms', locals := 40 * d' } mc' ms' n :=
    callB_of (Ts := TB) n hts (fun w h => by
      rcases List.mem_cons.mp h with e | h
      · subst e; exact ⟨w3, good_of_word (TB_good w3)⟩
      · exact ⟨h, good_of_word (TB_good h)⟩) rfl rfl rfl (hts _ w2) (hts _ w1) w4 ⟨by show d' + 1 ≤ R.frames; omega, by show 8 + (mL' + 11) + 40 * d' ≤ R.locals; omega⟩
  have hrun := vx_runV (l := l) (e := e) (below := below) (meth := meth) (H := H) (locs := locs) (cells := ce) (slots := sl) (g := F0 m pc ls (stk.map (tv E))) (As := As.map (tv E)) (rest := st.map (tv E)) (b := ta E a) (C := y.cls) ⟨hx, hb, hml, hown, hts⟩ hC ⟨cb, hts _ hsel.1, hts _ hsel.2⟩
    ⟨PB.blind, va_recv hK (va_P1 (hR.2.2 a _ hM).2.2) hc (q0 := 0) rfl, fun U hU hW => ⟨rfl, by rw [hU]; exact hR, va_K.moved hW.alike hK, hZC s U s.heap U.heap hZ (Or.inr hW) (by rw [hU]; exact hS.1) (fun q h1 h2 => by rw [hU]; exact hS.2.1 q h1 h2), hZC⟩⟩ rfl (by rw [List.length_map]; exact hA) hl.1 (by rw [hst, List.map_append, List.map_reverse]; rfl) (lv_room (by rw [tv_cats]; exact hcat)) hd ⟨by omega, by omega⟩
  intro T' hT X
  rcases hrun T' hT X with ⟨v, st₀, t, T2, L, h0, X', hL, e1, e2, ⟨⟨r, M', nx', hv, hp, hRP⟩, hz, hk⟩, stp⟩ | ⟨q, st₀, t, T2, L, Xn, ce9, h0, X', hL, e1, e2, ⟨⟨M', nx', hp, hRP⟩, hz, hk⟩, hce9, hvm9, hcl9, stp⟩
  · cases hv
    rw [h0] at hz hk
    obtain ⟨t2, a1, b1⟩ := k r M' nx' hp T2.heap (locs ++ L) ls (by rw [e1]; exact hRP)
      ⟨Nat.le_trans hS.1 (by rw [e1]; exact hz), fun q h1 h2 => by rw [e1, hk q (Nat.lt_of_lt_of_le h1 hS.1) h2]; exact hS.2.1 q h1 h2, fun q hq => by
        rcases List.mem_append.mp hq with h | h
        · exact hS.2.2 q h
        · exact hL q h⟩ hl T2 rfl X'
    rw [tv_rl] at a1
    exact ⟨t2, stp t2 a1, b1⟩
  · rw [h0] at hz hk
    obtain ⟨t2, a1, b1⟩ := kx Xn M' nx' hp T2.heap (locs ++ L) ls q ce9 (st.map (tv E)) (by rw [e1]; exact hRP)
      ⟨Nat.le_trans hS.1 (by rw [e1]; exact hz), fun q h1 h2 => by rw [e1, hk q (Nat.lt_of_lt_of_le h1 hS.1) h2]; exact hS.2.1 q h1 h2, fun q hq => by
        rcases List.mem_append.mp hq with h | h
        · exact hS.2.2 q h
        · exact hL q h⟩ hl (by rw [e1]; exact hce9) hvm9 hcl9 T2 rfl X'
    exact ⟨t2, stp.trans a1, b1⟩
/-- the words of a static call of a method with handlers -/
def wW (own : String) (index : Nat) (y : MethodName) (cc : ByteArray) (mL : Nat) (ret : Option FieldType) (hh : List (Nat × Nat × Nat × Nat)) (n : Nat) : Prop :=
  (Cond.methodLink own index y ∈ TB ∧ Cond.initialized y.cls ∈ TB ∧ Cond.codeWith y cc mL ret hh ∈ TB ∧ Cond.static y ∈ TB) ∧ (y.cls ≠ "java/lang/invoke/MethodHandle" ∧ y.cls ≠ "java/lang/invoke/VarHandle" ∧ (parseMethodDescriptor y.desc).map (fun d => d.parameters.length) = some n) ∧ mL ≤ 21
theorem sv_callSW (hΓ : CK E own cc nL ret nm d mc ms Γ) {y : MethodName} {cc' : ByteArray} {ret' : Option FieldType} {hh : List (Nat × Nat × Nat × Nat)} {mL' d' mc' ms' index n : Nat} {As stk : List Value}
    (hC : CW E (gl Γ) y cc' mL' ret' hh d' As M nx mc' ms' Post (fun _ _ _ => False)) (hw : wW own index y cc' mL' ret' hh n) (hst : stk = As.reverse ++ st) (hA : As.length = n) (hdd : d' + 1 ≤ d) (hce : ce + mc' ≤ mc) (hsl : sl + ms' ≤ ms) (hcat : (st.map fun v => v.category).sum ≤ 8) (hd : decode cc pc = .ok (.invokestatic index, 3)) (hn : pc + 3 = pc')
    (k : ∀ (r : Option Value) (M' : aM) (nx' : Nat), Post r M' nx' → SV E Γ nL M' nx' (ce + mc') (sl + ms') pc' lv (r.toList ++ st)) : SV E Γ nL M nx ce sl pc lv stk := by
  obtain ⟨p, l, e, R, s, m, args, below, meth, c, Q⟩ := Γ
  obtain ⟨hx, hb, hml, hown, hts, hK, hr, hlk, hnm, hrm, hsz, hZ, hZC⟩ := hΓ
  subst hn
  intro H locs ls hR hS hl
  obtain ⟨⟨w1, w2, w3, w6⟩, w4, w5⟩ := hw
  have cb : vx_CSW R s args own index y cc' mL' ret' hh (Cond.codeWith y cc' mL' ret' hh :: TB) { frames := d', cells := mc', slots := ms', locals := 40 * d' } mc' ms' n := by
    have hG : GoodIn TB (Cond.codeWith y cc' mL' ret' hh :: TB) := fun w h => by
      rcases List.mem_cons.mp h with e | h
      · subst e; exact ⟨w3, good_of_word (TB_good w3)⟩
      · exact ⟨h, good_of_word (TB_good h)⟩
    refine ⟨⟨rfl, rfl, by show d' + 1 ≤ R.frames; omega, by show 8 + (mL' + 11) + 40 * d' ≤ R.locals; omega, pay_in hts hG, List.mem_cons_self⟩, hts _ w3, hts _ w2, ⟨w4.1, w4.2.1⟩, fun sig h => ?_, hts _ w1, hts _ w6⟩
    have h2 := w4.2.2
    rw [h] at h2
    exact (Option.some.inj h2).symm
  have hrun := vx_runSX (l := l) (e := e) (below := below) (meth := meth) (H := H) (locs := locs) (cells := ce) (slots := sl) (g := F0 m pc ls (stk.map (tv E))) (As := As.map (tv E)) (rest := st.map (tv E)) ⟨hx, hb, hml, hown, hts⟩ hC cb
    ⟨PB.blind, fun U hU hW => ⟨rfl, by rw [hU]; exact hR, va_K.moved hW.alike hK, hZC s U s.heap U.heap hZ (Or.inr hW) (by rw [hU]; exact hS.1) (fun q h1 h2 => by rw [hU]; exact hS.2.1 q h1 h2), hZC⟩⟩ rfl (by rw [List.length_map]; exact hA) hl.1 (by rw [hst, List.map_append, List.map_reverse]) (lv_room (by rw [tv_cats]; exact hcat)) hd ⟨by omega, by omega⟩
  intro T' hT X
  rcases hrun T' hT X with ⟨v, st₀, t, T2, L, h0, X', hL, e1, e2, ⟨⟨r, M', nx', hv, hp, hRP⟩, hz, hk⟩, stp⟩ | ⟨q, st₀, t, T2, L, Xn, ce9, h0, X', hL, e1, e2, ⟨⟨M', nx', hp, hRP⟩, hz, hk⟩, hce9, hvm9, hcl9, stp⟩
  · cases hv
    rw [h0] at hz hk
    obtain ⟨t2, a1, b1⟩ := k r M' nx' hp T2.heap (locs ++ L) ls (by rw [e1]; exact hRP)
      ⟨Nat.le_trans hS.1 (by rw [e1]; exact hz), fun q h1 h2 => by rw [e1, hk q (Nat.lt_of_lt_of_le h1 hS.1) h2]; exact hS.2.1 q h1 h2, fun q hq => by
        rcases List.mem_append.mp hq with h | h
        · exact hS.2.2 q h
        · exact hL q h⟩ hl T2 rfl X'
    rw [tv_rl] at a1
    exact ⟨t2, stp t2 a1, b1⟩
  · exact hp.elim
/-- the class X is caught by the handler x, those before it pass it by; the handler begins by keeping what was thrown in a local -/
theorem sv_catch (hΓ : CK E own cc nL ret nm d mc ms Γ) {hh : List (Nat × Nat × Nat × Nat)} (hT : TE hh Γ) {X name : String} (pre : List ExceptionTableEntry) (x : ExceptionTableEntry) (suf : List ExceptionTableEntry) (hsp : tableOf hh = pre ++ x :: suf)
    (hpass : ∀ z ∈ pre, covers z pc = false ∨ (z.catchType ≠ 0 ∧ ∃ nm : String, Cond.classLink own z.catchType nm ∈ TB ∧ ∀ U H, gZ E U H → va_Nc X nm U)) (hcov : covers x pc = true) (h0 : x.catchType ≠ 0) (hlink : Cond.classLink own x.catchType name ∈ TB) (hcast : ∀ U H, gZ E U H → va_Nw (.castable X name) U)
    {i : Nat} (hi2 : i < nL) (hd : decode cc x.handlerPc = .ok (.astore i, 2) ∧ x.handlerPc + 2 = pc' ∨ ∃ kk : Fin 4, (kk : Nat) = i ∧ decode cc x.handlerPc = .ok (.astore_n kk, 1) ∧ x.handlerPc + 1 = pc') (hl' : lv.filter (fun q => !(q.1 == i) && !(q.1 + 1 == i && q.2.category == 2)) = lv')
    (k : SV E Γ nL M nx ce sl pc' lv' []) : SVX E Γ nL M nx ce sl pc lv X := by
  obtain ⟨p, l, e, R, s, m, args, below, meth, c, Q⟩ := Γ
  obtain ⟨hx, hb, hml, hown, hts, hK, hr, hlk, hnm, hrm, hsz, hZ, hZC⟩ := hΓ
  subst hl'
  intro H locs ls q ce9 rest hR hS hl h1 h2 h3
  refine vx_catch hown pre x suf ((show c.exceptionTable.toList = tableOf hh from hT).trans hsp) (fun z hz => ?_) hcov h0 (hts _ hlink) (va_Nw.use rfl (hcast _ _ hZ)) h1 h2 h3 ?_
  · rcases hpass z hz with h | ⟨z0, n9, z1, z2⟩
    · exact Or.inl h
    · exact Or.inr ⟨z0, n9, hts _ z1, z2 _ _ hZ⟩
  · rcases hd with ⟨hd, e9⟩ | ⟨kk, hk, hd, e9⟩
    · subst e9
      exact lv_astore (x := q) hx hb hd hl hi2 (by rw [lvm_f1]) (fun ls' hl2 => k H locs ls' hR hS ⟨hl2.1, hl2.2.1, fun z hz => hl2.2.2 z (List.mem_cons_of_mem _ hz)⟩)
    · subst e9
      exact lv_astore_n (x := q) hx hb hd hk hl hi2 (by rw [lvm_f1]) (fun ls' hl2 => k H locs ls' hR hS ⟨hl2.1, hl2.2.1, fun z hz => hl2.2.2 z (List.mem_cons_of_mem _ hz)⟩)
end
