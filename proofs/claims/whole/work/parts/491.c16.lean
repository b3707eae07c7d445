section
variable {E : aG} {Γ : aC} {own : String} {cc : ByteArray} {nL : Nat} {ret : Option FieldType} {nm : String} {d mc ms : Nat} {M : aM} {nx ce sl pc pc' : Nat} {lv lv' : List (Nat × Value)} {st : List Value} {Post : Option Value → aM → Nat → Prop}
theorem sv_callI16 (hΓ : CK E own cc nL ret nm d mc ms Γ) {y : MethodName} {cc' : ByteArray} {mL' d' mc' ms' index n a : Nat} {As stk : List Value}
    (hC : ∀ l, CT E l y cc' mL' none d' (.ref a :: As) M nx mc' ms' Post) (hw : wV own index y cc' mL' none n) (hsel : Cond.instanceMethod y ∈ TB) (hy : y.name = "<init>") (hst : stk = As.reverse ++ .ref a :: st) (hA : As.length = n) (hdd : d' + 1 ≤ d) (hce : ce + mc' ≤ mc) (hsl : sl + ms' ≤ ms) (h13 : mL' ≤ 13) (hcat : (st.map fun v => v.category).sum ≤ 16) (hd : decode cc pc = .ok (.invokespecial index, 3)) (hn : pc + 3 = pc')
    (k : ∀ (r : Option Value) (M' : aM) (nx' : Nat), Post r M' nx' → SV E Γ nL M' nx' (ce + mc') (sl + ms') pc' lv (r.toList ++ st)) : SV E Γ nL M nx ce sl pc lv stk := by
  obtain ⟨p, l, e, R, s, m, args, below, meth, c, Q⟩ := Γ
  obtain ⟨hx, hb, hml, hown, hts, hK0, hr, hlk, hnm, hrm, hsz, hZ, hZC⟩ := hΓ
  subst hn
  intro H locs ls hR hS hl
  obtain ⟨⟨w1, w2, w3⟩, w4, w5⟩ := hw
  have cb : CallB R s args own index y cc' mL' none (wT y cc' mL' none) { frames := d', cells := mc', slots := ms', locals := 40 * d' } mc' ms' n :=
    callB_of (Ts := TB) n hts (fun w h => by
      rcases List.mem_cons.mp h with e | h
      · subst e; exact ⟨w3, good_of_word (TB_good w3)⟩
      · exact ⟨h, good_of_word (TB_good h)⟩) rfl rfl rfl (hts _ w2) (hts _ w1) w4 ⟨by show d' + 1 ≤ R.frames; omega, by show 8 + (mL' + 11) + 40 * d' ≤ R.locals; omega⟩
  have hbl : FrameBlind (va_Pc ((.ref a :: As).map (tv E)) (PB E M nx)) := PB.blind
  have hK : Back l R p e below s args y 3 16 (PreOf R mc' ms' (va_Pc ((.ref a :: As).map (tv E)) (PB E M nx))) (PostOf (QC E Post) mc' ms' (fun q => gb E ≤ q)) := by
    obtain ⟨hrc, hrs, hfr, hlo, hws, hcw, -, hini, -⟩ := cb
    exact back_of (bytes := cc') (maxL := mL') (ret := none) (hC l) hbl hrc hrs hfr (by show 16 + (mL' + 11) + 40 * d' ≤ R.locals; omega) hws hcw (fun a' U hW => word_at hW (Or.inl (by first | rfl | simp [Cond.onTables, Cond.keeps, Cond.steady])) hini)
  have hpre : ∀ U : State, U.heap = H → s.WarmedH U.vm → va_Pc ((.ref a :: As).map (tv E)) (PB E M nx) ((Value.ref (ta E a) :: As.map (tv E))).toArray U := fun U hU hW => ⟨rfl, by rw [hU]; exact hR, va_K.moved hW.alike hK0, hZC s U s.heap U.heap hZ (Or.inr hW) (by rw [hU]; exact hS.1) (fun q h1 h2 => by rw [hU]; exact hS.2.1 q h1 h2), hZC⟩
  have hrun : va_Run p l e R s m args below meth c H locs ce sl mc' ms' (F0 m pc ls (stk.map (tv E))) (st.map (tv E)) (QC E Post ((Value.ref (ta E a) :: As.map (tv E))).toArray) (fun q => gb E ≤ q) := by
    obtain ⟨-, -, -, -, -, -, hcode, hini, hy2, hlen, hl2⟩ := cb
    intro T hT X
    obtain ⟨v, vm₁, ⟨U', l2, c2, s2⟩, hW₁, X', ⟨g', mk, t, L, e1, e2, hq, h1, hL, h2, h3⟩, st'⟩ := callI X hx (g := F0 m pc ls (stk.map (tv E))) (bytes := cc') (maxL := mL') hown hy hl2 (hts _ hsel) hcode hy2 hK rfl (hl.1.trans hml.symm) (a := ta E a) (argsL := As.map (tv E)) (rest := st.map (tv E)) (fun sig h => ((List.length_map (f := tv E) (as := As)).trans hA).trans (hlen sig h)) (by show stk.map (tv E) = _; rw [hst, List.map_append, List.map_reverse]; rfl) (by show 2 * 0 + _ ≤ 16; rw [tv_cats]; omega) (by rw [hb]; exact hd)
      (fun vm₁ hW₁ => ⟨by show ce + mc' ≤ _; omega, by show sl + ms' ≤ _; omega, hpre (T.setVm vm₁) hT hW₁⟩)
    dsimp only [Pt.U, Pt.locs, Pt.cells, Pt.slots] at X' e1 e2 h1 h2 h3 st'
    subst h1; subst h2; subst h3
    exact ⟨v, (T.setVm vm₁).calling g' mk ((Value.ref (ta E a) :: As.map (tv E))).toArray, t, U', L, hT, X', hL, e1, e2, hq, st'⟩
  intro T' hT X
  obtain ⟨v, st₀, t, T2, L, h0, X', hL, e1, e2, ⟨⟨r, M', nx', hv, hp, hRP⟩, hz, hk⟩, stp⟩ := hrun T' hT X
  cases hv
  rw [h0] at hz hk
  obtain ⟨t2, a1, b1⟩ := k r M' nx' hp T2.heap (locs ++ L) ls (by rw [e1]; exact hRP)
    ⟨Nat.le_trans hS.1 (by rw [e1]; exact hz), fun q h1 h2 => by rw [e1, hk q (Nat.lt_of_lt_of_le h1 hS.1) h2]; exact hS.2.1 q h1 h2, fun q hq => by
      rcases List.mem_append.mp hq with h | h
      · exact hS.2.2 q h
      · exact hL q h⟩ hl T2 rfl X'
  rw [tv_rl] at a1
  exact ⟨t2, stp t2 a1, b1⟩
theorem sv_callS16 (hΓ : CK E own cc nL ret nm d mc ms Γ) {y : MethodName} {cc' : ByteArray} {ret' : Option FieldType} {mL' d' mc' ms' index n : Nat} {As stk : List Value}
    (hC : ∀ l, CT E l y cc' mL' ret' d' As M nx mc' ms' Post) (hw : wV own index y cc' mL' ret' n) (hsel : Cond.static y ∈ TB) (hst : stk = As.reverse ++ st) (hA : As.length = n) (hdd : d' + 1 ≤ d) (hce : ce + mc' ≤ mc) (hsl : sl + ms' ≤ ms) (h13 : mL' ≤ 13) (hcat : (st.map fun v => v.category).sum ≤ 16) (hd : decode cc pc = .ok (.invokestatic index, 3)) (hn : pc + 3 = pc')
    (k : ∀ (r : Option Value) (M' : aM) (nx' : Nat), Post r M' nx' → SV E Γ nL M' nx' (ce + mc') (sl + ms') pc' lv (r.toList ++ st)) : SV E Γ nL M nx ce sl pc lv stk := by
  obtain ⟨p, l, e, R, s, m, args, below, meth, c, Q⟩ := Γ
  obtain ⟨hx, hb, hml, hown, hts, hK0, hr, hlk, hnm, hrm, hsz, hZ, hZC⟩ := hΓ
  subst hn
  intro H locs ls hR hS hl
  obtain ⟨⟨w1, w2, w3⟩, w4, w5⟩ := hw
  have cb : CallB R s args own index y cc' mL' ret' (wT y cc' mL' ret') { frames := d', cells := mc', slots := ms', locals := 40 * d' } mc' ms' n :=
    callB_of (Ts := TB) n hts (fun w h => by
      rcases List.mem_cons.mp h with e | h
      · subst e; exact ⟨w3, good_of_word (TB_good w3)⟩
      · exact ⟨h, good_of_word (TB_good h)⟩) rfl rfl rfl (hts _ w2) (hts _ w1) w4 ⟨by show d' + 1 ≤ R.frames; omega, by show 8 + (mL' + 11) + 40 * d' ≤ R.locals; omega⟩
  have hbl : FrameBlind (va_Pc (As.map (tv E)) (PB E M nx)) := PB.blind
  have hK : Back l R p e below s args y 3 16 (PreOf R mc' ms' (va_Pc (As.map (tv E)) (PB E M nx))) (PostOf (QC E Post) mc' ms' (fun q => gb E ≤ q)) := by
    obtain ⟨hrc, hrs, hfr, hlo, hws, hcw, -, hini, -⟩ := cb
    exact back_of (bytes := cc') (maxL := mL') (ret := ret') (hC l) hbl hrc hrs hfr (by show 16 + (mL' + 11) + 40 * d' ≤ R.locals; omega) hws hcw (fun a' U hW => word_at hW (Or.inl (by first | rfl | simp [Cond.onTables, Cond.keeps, Cond.steady])) hini)
  have hpre : ∀ U : State, U.heap = H → s.WarmedH U.vm → va_Pc (As.map (tv E)) (PB E M nx) ((As.map (tv E))).toArray U := fun U hU hW => ⟨rfl, by rw [hU]; exact hR, va_K.moved hW.alike hK0, hZC s U s.heap U.heap hZ (Or.inr hW) (by rw [hU]; exact hS.1) (fun q h1 h2 => by rw [hU]; exact hS.2.1 q h1 h2), hZC⟩
  have hrun : va_Run p l e R s m args below meth c H locs ce sl mc' ms' (F0 m pc ls (stk.map (tv E))) (st.map (tv E)) (QC E Post ((As.map (tv E))).toArray) (fun q => gb E ≤ q) := by
    obtain ⟨-, -, -, -, -, -, hcode, hini, hy2, hlen, hl2⟩ := cb
    intro T hT X
    obtain ⟨v, vm₁, ⟨U', l2, c2, s2⟩, hW₁, X', ⟨g', mk, t, L, e1, e2, hq, h1, hL, h2, h3⟩, st'⟩ := callS X hx (g := F0 m pc ls (stk.map (tv E))) (bytes := cc') (maxL := mL') (ret := ret') hown hl2 (hts _ hsel) hini hcode hy2 hK rfl (hl.1.trans hml.symm) (argsL := As.map (tv E)) (rest := st.map (tv E)) (fun sig h => ((List.length_map (f := tv E) (as := As)).trans hA).trans (hlen sig h)) (by show stk.map (tv E) = _; rw [hst, List.map_append, List.map_reverse]) (by show 2 * 0 + _ ≤ 16; rw [tv_cats]; omega) (by rw [hb]; exact hd)
      (fun vm₁ hW₁ => ⟨by show ce + mc' ≤ _; omega, by show sl + ms' ≤ _; omega, hpre (T.setVm vm₁) hT hW₁⟩)
    dsimp only [Pt.U, Pt.locs, Pt.cells, Pt.slots] at X' e1 e2 h1 h2 h3 st'
    subst h1; subst h2; subst h3
    exact ⟨v, (T.setVm vm₁).calling g' mk ((As.map (tv E))).toArray, t, U', L, hT, X', hL, e1, e2, hq, st'⟩
  intro T' hT X
  obtain ⟨v, st₀, t, T2, L, h0, X', hL, e1, e2, ⟨⟨r, M', nx', hv, hp, hRP⟩, hz, hk⟩, stp⟩ := hrun T' hT X
  cases hv
  rw [h0] at hz hk
  obtain ⟨t2, a1, b1⟩ := k r M' nx' hp T2.heap (locs ++ L) ls (by rw [e1]; exact hRP)
    ⟨Nat.le_trans hS.1 (by rw [e1]; exact hz), fun q h1 h2 => by rw [e1, hk q (Nat.lt_of_lt_of_le h1 hS.1) h2]; exact hS.2.1 q h1 h2, fun q hq => by
      rcases List.mem_append.mp hq with h | h
      · exact hS.2.2 q h
      · exact hL q h⟩ hl T2 rfl X'
  rw [tv_rl] at a1
  exact ⟨t2, stp t2 a1, b1⟩
end
