section
variable {E : aG} {Γ : aC} {own : String} {cc : ByteArray} {nL : Nat} {ret : Option FieldType} {nm : String} {d mc ms : Nat} {M : aM} {nx ce sl pc pc' : Nat} {lv lv' : List (Nat × Value)} {st : List Value} {Post : Option Value → aM → Nat → Prop}
theorem sv_callI (hΓ : CK E own cc nL ret nm d mc ms Γ) {y : MethodName} {cc' : ByteArray} {mL' d' mc' ms' index n a : Nat} {As stk : List Value}
    (hC : ∀ l, CT E l y cc' mL' none d' (.ref a :: As) M nx mc' ms' Post) (hw : wV own index y cc' mL' none n) (hsel : Cond.instanceMethod y ∈ TB) (hy : y.name = "<init>") (hst : stk = As.reverse ++ .ref a :: st) (hA : As.length = n) (hdd : d' + 1 ≤ d) (hce : ce + mc' ≤ mc) (hsl : sl + ms' ≤ ms) (hcat : (st.map fun v => v.category).sum ≤ 8) (hd : decode cc pc = .ok (.invokespecial index, 3)) (hn : pc + 3 = pc')
    (k : ∀ (r : Option Value) (M' : aM) (nx' : Nat), Post r M' nx' → SV E Γ nL M' nx' (ce + mc') (sl + ms') pc' lv (r.toList ++ st)) : SV E Γ nL M nx ce sl pc lv stk := by
  obtain ⟨p, l, e, R, s, m, args, below, meth, c, Q⟩ := Γ
  obtain ⟨hx, hb, hml, hown, hts, hK, hr, hlk, hnm, hrm, hsz, hZ, hZC⟩ := hΓ
  subst hn
  intro H locs ls hR hS hl
  obtain ⟨⟨w1, w2, w3⟩, w4, w5⟩ := hw
  have cb : CallB R s args own index y cc' mL' none (wT y cc' mL' none) { frames := d', cells := mc', slots := ms', locals := 40 * d' } mc' ms' n :=
    callB_of (Ts := TB) n hts (fun w h => by
      rcases List.mem_cons.mp h with e | h
      · subst e; exact ⟨w3, good_of_word (TB_good w3)⟩
      · exact ⟨h, good_of_word (TB_good h)⟩) rfl rfl rfl (hts _ w2) (hts _ w1) w4 ⟨by show d' + 1 ≤ R.frames; omega, by show 8 + (mL' + 11) + 40 * d' ≤ R.locals; omega⟩
  have hrun := va_runI (l := l) (e := e) (below := below) (meth := meth) (H := H) (locs := locs) (cells := ce) (slots := sl) (g := F0 m pc ls (stk.map (tv E))) (As := As.map (tv E)) (rest := st.map (tv E)) (b := ta E a) ⟨hx, hb, hml, hown, hts⟩ (hC l) ⟨cb, hy, hts _ hsel⟩
    ⟨PB.blind, fun U hU hW => ⟨rfl, by rw [hU]; exact hR, va_K.moved hW.alike hK, hZC s U s.heap U.heap hZ (Or.inr hW) (by rw [hU]; exact hS.1) (fun q h1 h2 => by rw [hU]; exact hS.2.1 q h1 h2), hZC⟩⟩ rfl (by rw [List.length_map]; exact hA) hl.1 (by rw [hst, List.map_append, List.map_reverse]; rfl) (lv_room (by rw [tv_cats]; exact hcat)) hd ⟨by omega, by omega⟩
  intro T' hT X
  obtain ⟨v, st₀, t, T2, L, h0, X', hL, e1, e2, ⟨⟨r, M', nx', hv, hp, hRP⟩, hz, hk⟩, stp⟩ := hrun T' hT X
  cases hv
  rw [h0] at hz hk
  obtain ⟨t2, a1, b1⟩ := k r M' nx' hp T2.heap (locs ++ L) ls (by rw [e1]; exact hRP)
    ⟨Nat.le_trans hS.1 (by rw [e1]; exact hz), fun q h1 h2 => by rw [e1, hk q (Nat.lt_of_lt_of_le h1 hS.1) h2]; exact hS.2.1 q h1 h2, fun q hq => by
      rcases List.mem_append.mp hq with h | h
      · exact hS.2.2 q h
      · exact hL q h⟩ hl T2 rfl X'
  rw [tv_rl] at a1
  exact ⟨t2, stp t2 a1, b1⟩
/-- the words of a call of a nest mate's private constructor or static method -/
def wN (E : aG) (own : String) (index : Nat) (y : MethodName) (host : String) (cc : ByteArray) (mL : Nat) (ret : Option FieldType) (n : Nat) : Prop :=
  (Cond.initialized y.cls ∈ TB ∧ Cond.code y cc mL ret ∈ TB) ∧ (y.cls ≠ "java/lang/invoke/MethodHandle" ∧ y.cls ≠ "java/lang/invoke/VarHandle" ∧ (parseMethodDescriptor y.desc).map (fun d => d.parameters.length) = some n) ∧ mL ≤ 21 ∧ ∀ U H, gZ E U H → va_Nw (.methodLinkNest own index y host) U
theorem sv_callIN (hΓ : CK E own cc nL ret nm d mc ms Γ) {y : MethodName} {host : String} {cc' : ByteArray} {mL' d' mc' ms' index n a : Nat} {As stk : List Value}
    (hC : ∀ l, CT E l y cc' mL' none d' (.ref a :: As) M nx mc' ms' Post) (hw : wN E own index y host cc' mL' none n) (hsel : Cond.instanceMethod y ∈ TB) (hy : y.name = "<init>") (hst : stk = As.reverse ++ .ref a :: st) (hA : As.length = n) (hdd : d' + 1 ≤ d) (hce : ce + mc' ≤ mc) (hsl : sl + ms' ≤ ms) (hcat : (st.map fun v => v.category).sum ≤ 8) (hd : decode cc pc = .ok (.invokespecial index, 3)) (hn : pc + 3 = pc')
    (k : ∀ (r : Option Value) (M' : aM) (nx' : Nat), Post r M' nx' → SV E Γ nL M' nx' (ce + mc') (sl + ms') pc' lv (r.toList ++ st)) : SV E Γ nL M nx ce sl pc lv stk := by
  obtain ⟨p, l, e, R, s, m, args, below, meth, c, Q⟩ := Γ
  obtain ⟨hx, hb, hml, hown, hts, hK, hr, hlk, hnm, hrm, hsz, hZ, hZC⟩ := hΓ
  subst hn
  intro H locs ls hR hS hl
  obtain ⟨⟨w2, w3⟩, w4, w5, w6⟩ := hw
  have cb : va_CN R s args own index y host cc' mL' none (wT y cc' mL' none) { frames := d', cells := mc', slots := ms', locals := 40 * d' } mc' ms' n :=
    va_cnB (Ts := TB) n hts (fun w h => by
      rcases List.mem_cons.mp h with e | h
      · subst e; exact ⟨w3, good_of_word (TB_good w3)⟩
      · exact ⟨h, good_of_word (TB_good h)⟩) rfl rfl rfl (w6 _ _ hZ) (hts _ w2) w4 ⟨by show d' + 1 ≤ R.frames; omega, by show 8 + (mL' + 11) + 40 * d' ≤ R.locals; omega⟩
  have hrun := va_runIN (l := l) (e := e) (below := below) (meth := meth) (H := H) (locs := locs) (cells := ce) (slots := sl) (g := F0 m pc ls (stk.map (tv E))) (As := As.map (tv E)) (rest := st.map (tv E)) (b := ta E a) ⟨hx, hb, hml, hown, hts⟩ (hC l) ⟨cb, hy, hts _ hsel⟩
    ⟨PB.blind, fun U hU hW => ⟨rfl, by rw [hU]; exact hR, va_K.moved hW.alike hK, hZC s U s.heap U.heap hZ (Or.inr hW) (by rw [hU]; exact hS.1) (fun q h1 h2 => by rw [hU]; exact hS.2.1 q h1 h2), hZC⟩⟩ rfl (by rw [List.length_map]; exact hA) hl.1 (by rw [hst, List.map_append, List.map_reverse]; rfl) (lv_room (by rw [tv_cats]; exact hcat)) hd ⟨by omega, by omega⟩
  intro T' hT X
  obtain ⟨v, st₀, t, T2, L, h0, X', hL, e1, e2, ⟨⟨r, M', nx', hv, hp, hRP⟩, hz, hk⟩, stp⟩ := hrun T' hT X
  cases hv
  rw [h0] at hz hk
  obtain ⟨t2, a1, b1⟩ := k r M' nx' hp T2.heap (locs ++ L) ls (by rw [e1]; exact hRP)
    ⟨Nat.le_trans hS.1 (by rw [e1]; exact hz), fun q h1 h2 => by rw [e1, hk q (Nat.lt_of_lt_of_le h1 hS.1) h2]; exact hS.2.1 q h1 h2, fun q hq => by
      rcases List.mem_append.mp hq with h | h
      · exact hS.2.2 q h
      · exact hL q h⟩ hl T2 rfl X'
  rw [tv_rl] at a1
  exact ⟨t2, stp t2 a1, b1⟩
theorem sv_callSN (hΓ : CK E own cc nL ret nm d mc ms Γ) {y : MethodName} {host : String} {cc' : ByteArray} {ret' : Option FieldType} {mL' d' mc' ms' index n : Nat} {As stk : List Value}
    (hC : ∀ l, CT E l y cc' mL' ret' d' As M nx mc' ms' Post) (hw : wN E own index y host cc' mL' ret' n) (hsel : Cond.static y ∈ TB) (hst : stk = As.reverse ++ st) (hA : As.length = n) (hdd : d' + 1 ≤ d) (hce : ce + mc' ≤ mc) (hsl : sl + ms' ≤ ms) (hcat : (st.map fun v => v.category).sum ≤ 8) (hd : decode cc pc = .ok (.invokestatic index, 3)) (hn : pc + 3 = pc')
    (k : ∀ (r : Option Value) (M' : aM) (nx' : Nat), Post r M' nx' → SV E Γ nL M' nx' (ce + mc') (sl + ms') pc' lv (r.toList ++ st)) : SV E Γ nL M nx ce sl pc lv stk := by
  obtain ⟨p, l, e, R, s, m, args, below, meth, c, Q⟩ := Γ
  obtain ⟨hx, hb, hml, hown, hts, hK, hr, hlk, hnm, hrm, hsz, hZ, hZC⟩ := hΓ
  subst hn
  intro H locs ls hR hS hl
  obtain ⟨⟨w2, w3⟩, w4, w5, w6⟩ := hw
  have cb : va_CN R s args own index y host cc' mL' ret' (wT y cc' mL' ret') { frames := d', cells := mc', slots := ms', locals := 40 * d' } mc' ms' n :=
    va_cnB (Ts := TB) n hts (fun w h => by
      rcases List.mem_cons.mp h with e | h
      · subst e; exact ⟨w3, good_of_word (TB_good w3)⟩
      · exact ⟨h, good_of_word (TB_good h)⟩) rfl rfl rfl (w6 _ _ hZ) (hts _ w2) w4 ⟨by show d' + 1 ≤ R.frames; omega, by show 8 + (mL' + 11) + 40 * d' ≤ R.locals; omega⟩
  have hrun := va_runSN (l := l) (e := e) (below := below) (meth := meth) (H := H) (locs := locs) (cells := ce) (slots := sl) (g := F0 m pc ls (stk.map (tv E))) (As := As.map (tv E)) (rest := st.map (tv E)) ⟨hx, hb, hml, hown, hts⟩ (hC l) ⟨cb, hts _ hsel, trivial⟩
    ⟨PB.blind, fun U hU hW => ⟨rfl, by rw [hU]; exact hR, va_K.moved hW.alike hK, hZC s U s.heap U.heap hZ (Or.inr hW) (by rw [hU]; exact hS.1) (fun q h1 h2 => by rw [hU]; exact hS.2.1 q h1 h2), hZC⟩⟩ rfl (by rw [List.length_map]; exact hA) hl.1 (by rw [hst, List.map_append, List.map_reverse]) (lv_room (by rw [tv_cats]; exact hcat)) hd ⟨by omega, by omega⟩
  intro T' hT X
  obtain ⟨v, st₀, t, T2, L, h0, X', hL, e1, e2, ⟨⟨r, M', nx', hv, hp, hRP⟩, hz, hk⟩, stp⟩ := hrun T' hT X
  cases hv
  rw [h0] at hz hk
  obtain ⟨t2, a1, b1⟩ := k r M' nx' hp T2.heap (locs ++ L) ls (by rw [e1]; exact hRP)
    ⟨Nat.le_trans hS.1 (by rw [e1]; exact hz), fun q h1 h2 => by rw [e1, hk q (Nat.lt_of_lt_of_le h1 hS.1) h2]; exact hS.2.1 q h1 h2, fun q hq => by
      rcases List.mem_append.mp hq with h | h
      · exact hS.2.2 q h
      · exact hL q h⟩ hl T2 rfl X'
  rw [tv_rl] at a1
  exact ⟨t2, stp t2 a1, b1⟩
theorem sv_objInit (hΓ : CK E own cc nL ret nm d mc ms Γ) {a index : Nat} (hw : Cond.methodLink own index Lib.objectInit ∈ TB ∧ Cond.instanceMethod Lib.objectInit ∈ TB ∧ Cond.code Lib.objectInit ⟨#[0xb1]⟩ 1 none ∈ TB) (hdd : 1 ≤ d) (hcat : (st.map fun v => v.category).sum ≤ 8) (hd : decode cc pc = .ok (.invokespecial index, 3)) (hn : pc + 3 = pc') (k : SV E Γ nL M nx ce sl pc' lv st) : SV E Γ nL M nx ce sl pc lv (.ref a :: st) := by
  obtain ⟨p, l, e, R, s, m, args, below, meth, c, Q⟩ := Γ
  obtain ⟨hx, hb, hml, hown, hts, hK, hr, hlk, hnm, hrm, hsz, hZ, hZC⟩ := hΓ
  subst hn
  intro H locs ls hR hS hl
  exact W.objInit hx hb hown (hts _ hw.1) (hts _ hw.2.1) (hts _ hw.2.2) rfl (by rw [hml]; exact hl.1) rfl hd (by omega) (by show 2 * 0 + _ + 12 ≤ _; rw [tv_cats]; omega) (k H locs ls hR hS hl)
theorem sv_instY (hΓ : CK E own cc nL ret nm d mc ms Γ) {C : String} {T : u_T} {N ci index a : Nat} {fs : List Value} (hc : vwCl[ci]? = some (C, T, N)) (hlink : Cond.classLink own index C ∈ TB) (hM : M a = some (.inr (ci, fs))) (hd : decode cc pc = .ok (.instanceof index, 3)) (hn : pc + 3 = pc') (k : SV E Γ nL M nx ce sl pc' lv (.int 1 :: st)) : SV E Γ nL M nx ce sl pc lv (.ref a :: st) := by
  obtain ⟨p, l, e, R, s, m, args, below, meth, c, Q⟩ := Γ
  obtain ⟨hx, hb, hml, hown, hts, hK, hr, hlk, hnm, hrm, hsz, hZ, hZC⟩ := hΓ
  subst hn
  intro H locs ls hR hS hl
  exact va_instS hx hb hown (hts _ hlink) (hK.1 ci _ hc).2 (va_recv hK (va_P1 (hR.2.2 a _ hM).2.2) hc (q0 := 0) rfl) hd (k H locs ls hR hS hl)
theorem sv_castY (hΓ : CK E own cc nL ret nm d mc ms Γ) {C : String} {T : u_T} {N ci index a : Nat} {fs : List Value} (hc : vwCl[ci]? = some (C, T, N)) (hlink : Cond.classLink own index C ∈ TB) (hM : M a = some (.inr (ci, fs))) (hd : decode cc pc = .ok (.checkcast index, 3)) (hn : pc + 3 = pc') (k : SV E Γ nL M nx ce sl pc' lv (.ref a :: st)) : SV E Γ nL M nx ce sl pc lv (.ref a :: st) := by
  obtain ⟨p, l, e, R, s, m, args, below, meth, c, Q⟩ := Γ
  obtain ⟨hx, hb, hml, hown, hts, hK, hr, hlk, hnm, hrm, hsz, hZ, hZC⟩ := hΓ
  subst hn
  intro H locs ls hR hS hl
  exact va_castS hx hb hown (hts _ hlink) (hK.1 ci _ hc).2 (va_recv hK (va_P1 (hR.2.2 a _ hM).2.2) hc (q0 := 0) rfl) hd (k H locs ls hR hS hl)
theorem sv_instNo (hΓ : CK E own cc nL ret nm d mc ms Γ) {C C' : String} {T : u_T} {N ci index a : Nat} {fs : List Value} (hc : vwCl[ci]? = some (C, T, N)) (hlink : Cond.classLink own index C' ∈ TB) (hno : ∀ U H, gZ E U H → va_Nc C C' U) (hM : M a = some (.inr (ci, fs))) (hd : decode cc pc = .ok (.instanceof index, 3)) (hn : pc + 3 = pc') (k : SV E Γ nL M nx ce sl pc' lv (.int 0 :: st)) : SV E Γ nL M nx ce sl pc lv (.ref a :: st) := by
  obtain ⟨p, l, e, R, s, m, args, below, meth, c, Q⟩ := Γ
  obtain ⟨hx, hb, hml, hown, hts, hK, hr, hlk, hnm, hrm, hsz, hZ, hZC⟩ := hΓ
  subst hn
  intro H locs ls hR hS hl
  exact va_instNo hx hb hown (hts _ hlink) (hno _ _ hZ) (va_recv hK (va_P1 (hR.2.2 a _ hM).2.2) hc (q0 := 0) rfl) hd (k H locs ls hR hS hl)
theorem sv_instN (hΓ : CK E own cc nL ret nm d mc ms Γ) {index : Nat} (hd : decode cc pc = .ok (.instanceof index, 3)) (hn : pc + 3 = pc') (k : SV E Γ nL M nx ce sl pc' lv (.int 0 :: st)) : SV E Γ nL M nx ce sl pc lv (.null :: st) := by
  obtain ⟨p, l, e, R, s, m, args, below, meth, c, Q⟩ := Γ
  obtain ⟨hx, hb, hml, hown, hts, hK, hr, hlk, hnm, hrm, hsz, hZ, hZC⟩ := hΓ
  subst hn
  intro H locs ls hR hS hl
  exact lv_instN hx hb hd (k H locs ls hR hS hl)
/-- checkcast of an array to its own class -/
theorem sv_castA (hΓ : CK E own cc nL ret nm d mc ms Γ) {index a n : Nat} {x : (Nat → Int32) ⊕ (Nat → Int64) ⊕ (Nat → UInt32) ⊕ (Nat → UInt64) ⊕ (Nat → Option Nat)} (hlink : Cond.classLink own index "[J" ∈ TB) (hM : M a = some (.inl (1, n, x))) (hd : decode cc pc = .ok (.checkcast index, 3)) (hn : pc + 3 = pc') (k : SV E Γ nL M nx ce sl pc' lv (.ref a :: st)) : SV E Γ nL M nx ce sl pc lv (.ref a :: st) := by
  obtain ⟨p, l, e, R, s, m, args, below, meth, c, Q⟩ := Γ
  obtain ⟨hx, hb, hml, hown, hts, hK, hr, hlk, hnm, hrm, hsz, hZ, hZC⟩ := hΓ
  subst hn
  intro H locs ls hR hS hl
  have hnmJ : s.vm.findClass "[J" = some (gA E 1) := (hK.2 1 _ rfl).2
  exact va_castA (D := gD E) (cl := vwCl) (ws := [(ta E a, te E (.inl (1, n, x)))]) hx hb hown (hts _ hlink) (va_P1 (hR.2.2 a _ hM).2.2) 0 rfl hnmJ hd (k H locs ls hR hS hl)
theorem sv_copyl (hΓ : CK E own cc nL ret nm d mc ms Γ) {index a a0 n0 n1 : Nat} {f g : Nat → Int64} {sp dp n : Int32} (hw : Cond.methodLink own index arraycopyName ∈ TB ∧ Cond.native arraycopyName ∈ TB ∧ Cond.static arraycopyName ∈ TB ∧ Cond.initialized "java/lang/System" ∈ TB) (hM0 : M a0 = some (.inl (1, n0, .inr (.inl f)))) (hM : M a = some (.inl (1, n1, .inr (.inl g)))) (h1 : ¬ sp < 0) (h2 : ¬ dp < 0) (h3 : ¬ n < 0) (h4 : sp.toNatClampNeg + n.toNatClampNeg ≤ n0) (h5 : dp.toNatClampNeg + n.toNatClampNeg ≤ n1) (hdd : 1 ≤ d) (hcat : (st.map fun v => v.category).sum ≤ 8) (hd : decode cc pc = .ok (.invokestatic index, 3)) (hn : pc + 3 = pc')
    (k : SV E Γ nL (va_up M a (some (.inl (1, n1, .inr (.inl (va_cpy f g sp.toNatClampNeg dp.toNatClampNeg n.toNatClampNeg)))))) nx ce sl pc' lv st) : SV E Γ nL M nx ce sl pc lv (.int n :: .int dp :: .ref a :: .int sp :: .ref a0 :: st) := by
  obtain ⟨p, l, e, R, s, m, args, below, meth, c, Q⟩ := Γ
  obtain ⟨hx, hb, hml, hown, hts, hK, hr, hlk, hnm, hrm, hsz, hZ, hZC⟩ := hΓ
  subst hn
  intro H locs ls hR hS hl
  have nn : ∀ z : Int32, ¬ z < 0 → z.toInt = (z.toNatClampNeg : Int) := by
    intro z hz
    have hz0 : (0 : Int) ≤ z.toInt := by
      have := Int32.not_lt.mp hz
      simpa using Int32.le_iff_toInt_le.mp this
    show z.toInt = ((z.toInt.toNat : Nat) : Int)
    omega
  intro T hT X
  obtain ⟨ha1, ha2, hc1⟩ := hR.2.2 a _ hM
  obtain ⟨-, -, hc0⟩ := hR.2.2 a0 _ hM0
  replace hc0 : H[ta E a0]? = some (vp_cell (gA E 1) (n0, .inr (.inl f))) := hc0
  replace hc1 : H[ta E a]? = some (vp_cell (gA E 1) (n1, .inr (.inl g))) := hc1
  obtain ⟨-, k0, hk0, cm0, hkk0⟩ := (hK.2 1 _ rfl).1 n0 (fun j => .long (f j))
  obtain ⟨-, k1, hk1, cm1, hkk1⟩ := (hK.2 1 _ rfl).1 n1 (fun j => .long (g j))
  obtain ⟨vm', X', step⟩ := X.arraycopy hx hown (hts _ hw.1) (hts _ hw.2.1) (hts _ hw.2.2.1) (hts _ hw.2.2.2) (src := ta E a0) (dst := ta E a) (cs := vp_cell (gA E 1) (n0, .inr (.inl f))) (cd := vp_cell (gA E 1) (n1, .inr (.inl g))) (srcPos := sp) (destPos := dp) (n := n) (by rw [hT]; exact hc0) (by rw [hT]; exact hc1)
    (fun _ h => by cases h) (fun _ h => by cases h) (fun h => by cases h) (fun h => by cases h) hk0 hk1 hkk0 hkk1 (by simp [refKind]) h1 h2 h3
    (by rw [nn sp h1, nn n h3]; show ¬ _ > ((arrV (gA E 1) n0 (fun j => .long (f j))).slots.size : Int); rw [arrV_size]; omega)
    (by rw [nn dp h2, nn n h3]; show ¬ _ > ((arrV (gA E 1) n1 (fun j => .long (g j))).slots.size : Int); rw [arrV_size]; omega)
    (fun vm₁ _ i hi => by
      have e : (vp_cell (gA E 1) (n0, .inr (.inl f))).slots.getD (sp.toNatClampNeg + i) .null = .long (f (sp.toNatClampNeg + i)) := by
        show (arrV (gA E 1) n0 (fun j => .long (f j))).slots.getD _ _ = _
        rw [Array.getD_eq_getD_getElem?, arrV_read _ _ (by omega)]
        rfl
      refine ⟨?_, ?_⟩
      · rw [e]
        rfl
      · rw [e]
        exact trivial)
    (g := F0 m pc ls (.int n :: .int dp :: .ref (ta E a) :: .int sp :: .ref (ta E a0) :: st.map (tv E))) rfl (by rw [hml]; exact hl.1) (rest := st.map (tv E)) rfl (by rw [hb]; exact hd) (by omega) (by
      show 2 * 0 + _ + (nativeFrameWords "java/lang/System" "arraycopy" 5 + 11) ≤ _
      rw [tv_cats]
      have : nativeFrameWords "java/lang/System" "arraycopy" 5 ≤ 21 := by decide
      omega)
  have e1 : copied (vp_cell (gA E 1) (n0, .inr (.inl f))) (vp_cell (gA E 1) (n1, .inr (.inl g))) sp dp n = vp_cell (gA E 1) (n1, .inr (.inl (va_cpy f g sp.toNatClampNeg dp.toNatClampNeg n.toNatClampNeg))) := va_copied (fun z => .long z) (gA E 1) (gA E 1) f g h4
  rw [e1] at X' step
  have hlt : ta E a < H.size := (Array.getElem?_eq_some_iff.mp hc1).1
  have hheap : ((T.setVm vm').setCell (ta E a) (vp_cell (gA E 1) (n1, .inr (.inl (va_cpy f g sp.toNatClampNeg dp.toNatClampNeg n.toNatClampNeg))))).heap = H.setIfInBounds (ta E a) (vp_cell (gA E 1) (n1, .inr (.inl (va_cpy f g sp.toNatClampNeg dp.toNatClampNeg n.toNatClampNeg)))) := by rw [← hT]; rfl
  have oq : ∀ q : Nat, q ≠ ta E a → (H.setIfInBounds (ta E a) (vp_cell (gA E 1) (n1, .inr (.inl (va_cpy f g sp.toNatClampNeg dp.toNatClampNeg n.toNatClampNeg)))))[q]? = H[q]? := fun q hq => by simp [Array.getElem?_setIfInBounds, Ne.symm hq]
  obtain ⟨t, a1, b1⟩ := k _ _ ls (hR.set hM (x := .inl (1, n1, .inr (.inl (va_cpy f g sp.toNatClampNeg dp.toNatClampNeg n.toNatClampNeg)))) (show (H.setIfInBounds (ta E a) _)[ta E a]? = some _ by simp [Array.getElem?_setIfInBounds, hlt]; rfl) (by simp) oq) ⟨by simp; exact hS.1, fun q g1 g2 => by
      rw [oq q (fun e => g2 (by rw [e]; exact ta_ge ha1))]
      exact hS.2.1 q g1 g2, fun q hq => by
      rcases List.mem_append.mp hq with h | h
      · exact hS.2.2 q h
      · obtain ⟨z, -, hz⟩ := List.mem_map.mp h
        rw [← hz]
        exact ta_ge ha1⟩ hl _ hheap X'
  exact ⟨t, step t a1, b1⟩
theorem sv_clone (hΓ : CK E own cc nL ret nm d mc ms Γ) {index a n : Nat} {f : Nat → Int64} (hw : Cond.methodLink own index ⟨"[J", "clone", "()Ljava/lang/Object;"⟩ ∈ TB ∧ Cond.native ⟨"java/lang/Object", "clone", "()Ljava/lang/Object;"⟩ ∈ TB ∧ Cond.instanceMethod ⟨"java/lang/Object", "clone", "()Ljava/lang/Object;"⟩ ∈ TB ∧ Cond.selects "[J" ⟨"[J", "clone", "()Ljava/lang/Object;"⟩ ⟨"java/lang/Object", "clone", "()Ljava/lang/Object;"⟩ ∈ TB)
    (hz : ∀ U H, gZ E U H → va_Nw (.sameMethod "[J" "java/lang/Object" "clone" "()Ljava/lang/Object;") U ∧ va_Nw (.castable "[J" "java/lang/Cloneable") U) (hM : M a = some (.inl (1, n, .inr (.inl f)))) (hdd : 1 ≤ d) (hce : ce + 1 ≤ mc) (hsl : sl + n ≤ ms) (hcat : (st.map fun v => v.category).sum ≤ 8) (hd : decode cc pc = .ok (.invokevirtual index, 3)) (hn : pc + 3 = pc')
    (k : SV E Γ nL (va_up M nx (some (.inl (1, n, .inr (.inl f))))) (nx + 1) (ce + 1) (sl + n) pc' lv (.ref nx :: st)) : SV E Γ nL M nx ce sl pc lv (.ref a :: st) := by
  obtain ⟨p, l, e, R, s, m, args, below, meth, c, Q⟩ := Γ
  obtain ⟨hx, hb, hml, hown, hts, hK, hr, hlk, hnm, hrm, hsz, hZ, hZC⟩ := hΓ
  subst hn
  intro H locs ls hR hS hl
  have hnmJ : s.vm.findClass "[J" = some (gA E 1) := (hK.2 1 _ rfl).2
  have hszc : (vp_cell (gA E 1) (n, .inr (.inl f))).slots.size = n := arrV_size _ _ _
  have hcellE : ({ cls := (vp_cell (gA E 1) (n, .inr (.inl f))).cls, slots := (vp_cell (gA E 1) (n, .inr (.inl f))).slots } : Cell) = vp_cell (gA E 1) (n, .inr (.inl f)) := rfl
  obtain ⟨hz1, hz2⟩ := hz _ _ hZ
  obtain ⟨c0, t0', f1, f2, f3⟩ := Cond.castable_spec (va_Nw.use (A := args) rfl hz2)
  cases hnmJ.symm.trans f1
  intro T hT X
  have hat : H[ta E a]? = some (vp_cell (gA E 1) (n, .inr (.inl f))) := (hR.2.2 a _ hM).2.2
  have hcellT : T.heap[ta E a]? = some (vp_cell (gA E 1) (n, .inr (.inl f))) := by rw [hT]; exact hat
  obtain ⟨-, kA, hkA, comp, hkind⟩ := State.isArrayOf_alike X.warmed.alike ((hK.2 1 _ rfl).1 0 (fun _ => .null))
  obtain ⟨-, kS, hkS, compS, hkindS⟩ := (hK.2 1 _ rfl).1 0 (fun _ => .null)
  obtain ⟨vm', X', st'⟩ := X.cloneArray hx hown (hts _ hw.1) (va_Nw.use rfl hz1) (hts _ hw.2.1) (hts _ hw.2.2.1) (hts _ hw.2.2.2) (a := ta E a) (cell := vp_cell (gA E 1) (n, .inr (.inl f))) hcellT (fun k h => by cases h) (fun h => by cases h) hnmJ f2 f3
    (fun i v hv => by
      have hk' : T.vm.classes[gA E 1]? = some kA := hkA
      have hfit : fits .long v = true := va_fit (F := fun j => .long (f j)) (cA := gA E 1) (n := n) (fun i _ => rfl) i v hv
      show T.fitsSlot (gA E 1) _ i v = true
      simpa [State.fitsSlot, State.slotType?, hk', hkind] using hfit)
    (g := F0 m pc ls (.ref (ta E a) :: st.map (tv E))) rfl (by rw [hml]; exact hl.1) rfl (by rw [hb]; exact hd) (by omega) (by show 2 * 0 + _ + 14 ≤ _; rw [tv_cats]; omega) (by omega) (by rw [hszc]; omega) (hloader := Vm.clonesLoader_of_array hkS hkindS)
  rw [hcellE, hszc] at X'
  generalize hH1 : H.push (vp_cell (gA E 1) (n, .inr (.inl f))) = H1
  have z1 : H1.size = H.size + 1 := by rw [← hH1, Array.size_push]
  have e1 : H1[H.size]? = some (vp_cell (gA E 1) (n, .inr (.inl f))) := by rw [← hH1, Array.getElem?_push_size]
  have o1 : ∀ q : Nat, q < H.size → H1[q]? = H[q]? := fun q hq => by rw [← hH1, Array.getElem?_push, if_neg (Nat.ne_of_lt hq)]
  obtain ⟨t, b1, b2⟩ := k H1 locs ls (hR.push (x := .inl (1, n, .inr (.inl f))) (by rw [hR.1] at e1; exact e1) z1 o1) (hS.new z1 o1) hl
    ((T.setVm vm').pushCell (vp_cell (gA E 1) (n, .inr (.inl f)))) (by rw [← hH1, ← hT]; rfl) X'
  refine ⟨t, st' t ?_, b2⟩
  rw [hcellE, hT, hR.1]
  exact b1
/-- the law's own script: cell 0 -/
def SX (E : aG) (Γ : aC) : Prop :=
  match Γ with
  | (p, l, e, R, s, m, args, below, meth, c, Q) => va_X (gs E) (gL E) (gX E) s s.heap ∧ gs E < s.heap.size ∧ gs E < gb E
theorem sv_sld (hΓ : CK E own cc nL ret nm d mc ms Γ) (hX : SX E Γ) {i : Int32} (hin : vp_in i (gL E)) (hd : decode cc pc = .ok (.iaload, 1)) (hn : pc + 1 = pc') (k : SV E Γ nL M nx ce sl pc' lv (.int (gX E i.toNatClampNeg) :: st)) : SV E Γ nL M nx ce sl pc lv (.int i :: .ref 0 :: st) := by
  obtain ⟨p, l, e, R, s, m, args, below, meth, c, Q⟩ := Γ
  obtain ⟨hx, hb, hml, hown, hts, hK, hr, hlk, hnm, hrm, hsz, hZ, hZC⟩ := hΓ
  subst hn
  intro H locs ls hR hS hl
  exact va_sld hx hb hX.1 hX.2.1 (Nat.not_le.mpr hX.2.2) hS hin hd (k H locs ls hR hS hl)
theorem sv_slen (hΓ : CK E own cc nL ret nm d mc ms Γ) (hX : SX E Γ) (hd : decode cc pc = .ok (.arraylength, 1)) (hn : pc + 1 = pc') (k : SV E Γ nL M nx ce sl pc' lv (.int (Int32.ofNat (gL E)) :: st)) : SV E Γ nL M nx ce sl pc lv (.ref 0 :: st) := by
  obtain ⟨p, l, e, R, s, m, args, below, meth, c, Q⟩ := Γ
  obtain ⟨hx, hb, hml, hown, hts, hK, hr, hlk, hnm, hrm, hsz, hZ, hZC⟩ := hΓ
  subst hn
  intro H locs ls hR hS hl
  exact va_slen hx hb hX.1 hX.2.1 (Nat.not_le.mpr hX.2.2) hS hd (k H locs ls hR hS hl)
end
