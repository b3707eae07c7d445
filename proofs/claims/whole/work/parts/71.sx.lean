/-! Exceptions in the walk -/
/-- what the launch's words say of throws -/
def XW (E : aG) : Prop := ∀ U H, gZ E U H → (∀ w ∈ lw_tbl, w.onTables = true → va_Nw w U) ∧ vx_Zq Bundle.tN "UNASSIGNED_STACK" Bundle.steD (fun q => gb E ≤ q) U H ∧ vx_Zq Bundle.tN "SUPPRESSED_SENTINEL" Bundle.listD (fun q => gb E ≤ q) U H ∧ ∀ own k tx, Cond.stringRef own k tx ∈ lw_tbl → ∃ sa, vk_R own k tx sa U
def XB (E : aG) (PX : String → aM → Nat → Prop) : String → State → State → Prop := fun X st t => (∃ (M' : aM) (nx' : Nat), PX X M' nx' ∧ RP E M' nx' t.heap) ∧ va_F (fun q => gb E ≤ q) st t
/-- a contract of a method that may throw: it returns by Post, or throws an object of class X by PX -/
def CX (E : aG) (l : Launch) (y : MethodName) (cc : ByteArray) (mL : Nat) (ret : Option FieldType) (d : Nat) (av : List Value) (M : aM) (nx mc ms : Nat) (Post : Option Value → aM → Nat → Prop) (PX : String → aM → Nat → Prop) : Prop :=
  vx_Met l y (wT y cc mL ret) { frames := d, cells := mc, slots := ms, locals := 40 * d } (va_Pc (av.map (tv E)) (PB E M nx)) (QC E Post) (XB E PX) mc ms (fun q => gb E ≤ q)
/-- the same of a method with a table of handlers -/
def CW (E : aG) (l : Launch) (y : MethodName) (cc : ByteArray) (mL : Nat) (ret : Option FieldType) (hh : List (Nat × Nat × Nat × Nat)) (d : Nat) (av : List Value) (M : aM) (nx mc ms : Nat) (Post : Option Value → aM → Nat → Prop) (PX : String → aM → Nat → Prop) : Prop :=
  vx_Met l y (Cond.codeWith y cc mL ret hh :: TB) { frames := d, cells := mc, slots := ms, locals := 40 * d } (va_Pc (av.map (tv E)) (PB E M nx)) (QC E Post) (XB E PX) mc ms (fun q => gb E ≤ q)
def RQX (E : aG) (Post : Option Value → aM → Nat → Prop) (PX : String → aM → Nat → Prop) (mc ms : Nat) (Γ : aC) : Prop :=
  match Γ with
  | (p, l, e, R, s, m, args, below, meth, c, Q) => Q = vx_MQ below (QC E Post) (XB E PX) args s mc ms (fun q => gb E ≤ q)
/-- the body's table of handlers; the launch -/
def TE (hh : List (Nat × Nat × Nat × Nat)) (Γ : aC) : Prop :=
  match Γ with
  | (p, l, e, R, s, m, args, below, meth, c, Q) => c.exceptionTable.toList = tableOf hh
def gl (Γ : aC) : Launch := Γ.2.1
theorem CX_intro {E : aG} {l : Launch} {y : MethodName} {cc : ByteArray} {mL : Nat} {ret : Option FieldType} {d : Nat} {av : List Value} {M : aM} {nx mc ms : Nat} {Post : Option Value → aM → Nat → Prop} {PX : String → aM → Nat → Prop} (hy : plainName y.cls = true) (hsz : (lg_sl av).length ≤ mL)
    (body : ∀ Γ : aC, CK E y.cls cc mL ret y.name d mc ms Γ → RQX E Post PX mc ms Γ → TE [] Γ → gl Γ = l → SV E Γ mL M nx 0 0 0 (lv_args 0 av) []) : CX E l y cc mL ret d av M nx mc ms Post PX := by
  refine vx_ofW (cc := cc) (maxL := mL) (ret := ret) hy rfl ?_
  intro p e s m args below meth c s₁ B hml ht hv
  obtain ⟨rfl, hR, hK, hZ, hZC⟩ := hv
  have hts0 := atoms_spec (ws := wT y cc mL ret) B.pre
  have hts : ∀ w ∈ TB, w.before (av.map (tv E)).toArray s = true := fun w h => hts0 w (List.mem_cons_of_mem _ h)
  have hown : s.vm.findClass y.cls = some m.cls := findClass_of_methodNamed B.named
  have hgb : gb E ≤ s.heap.size := by rw [hR.1]; exact ta_ge hR.2.1
  have hT0 : c.exceptionTable.toList = [] := by
    cases h : c.exceptionTable.toList with
    | nil => rfl
    | cons x xs => exact (ht x (by rw [h]; exact List.mem_cons_self)).elim
  have K := body (p, l, e, { frames := d, cells := mc, slots := ms, locals := 40 * d }, s, m, (av.map (tv E)).toArray, below, meth, c, vx_MQ below (QC E Post) (XB E PX) (av.map (tv E)).toArray s mc ms (fun q => gb E ≤ q))
    ⟨B.exec, B.bytes, hml, hown, hts, hK, B.returns, B.notSynchronized, (name_of_methodNamed B.named B.method).1, ⟨Nat.le_refl _, Nat.le_refl _, Nat.le_refl _, Nat.le_refl _⟩, hgb, hZ, hZC⟩ rfl hT0 rfl
  have hl := lv_entry (av.map (tv E)) (n := mL) (by rw [lg_sl_tv]; exact hsz)
  rw [lvm_args] at hl
  rw [lg_entry_eq]
  exact K s.heap [] _ hR va_S.rf hl
theorem CW_intro {E : aG} {l : Launch} {y : MethodName} {cc : ByteArray} {mL : Nat} {ret : Option FieldType} {hh : List (Nat × Nat × Nat × Nat)} {d : Nat} {av : List Value} {M : aM} {nx mc ms : Nat} {Post : Option Value → aM → Nat → Prop} {PX : String → aM → Nat → Prop} (hy : plainName y.cls = true) (hsz : (lg_sl av).length ≤ mL)
    (body : ∀ Γ : aC, CK E y.cls cc mL ret y.name d mc ms Γ → RQX E Post PX mc ms Γ → TE hh Γ → gl Γ = l → SV E Γ mL M nx 0 0 0 (lv_args 0 av) []) : CW E l y cc mL ret hh d av M nx mc ms Post PX := by
  refine vx_ofWH (cc := cc) (maxL := mL) (ret := ret) (hh := hh) hy rfl ?_
  intro p e s m args below meth c s₁ B hml hv
  obtain ⟨rfl, hR, hK, hZ, hZC⟩ := hv
  have hts0 := atoms_spec (ws := Cond.codeWith y cc mL ret hh :: TB) B.pre
  have hts : ∀ w ∈ TB, w.before (av.map (tv E)).toArray s = true := fun w h => hts0 w (List.mem_cons_of_mem _ h)
  have hown : s.vm.findClass y.cls = some m.cls := findClass_of_methodNamed B.named
  have hgb : gb E ≤ s.heap.size := by rw [hR.1]; exact ta_ge hR.2.1
  have hT0 : c.exceptionTable.toList = tableOf hh := vx_table (x := y) B (hts0 _ List.mem_cons_self)
  have K := body (p, l, e, { frames := d, cells := mc, slots := ms, locals := 40 * d }, s, m, (av.map (tv E)).toArray, below, meth, c, vx_MQ below (QC E Post) (XB E PX) (av.map (tv E)).toArray s mc ms (fun q => gb E ≤ q))
    ⟨B.exec, B.bytes, hml, hown, hts, hK, B.returns, B.notSynchronized, (name_of_methodNamed B.named B.method).1, ⟨Nat.le_refl _, Nat.le_refl _, Nat.le_refl _, Nat.le_refl _⟩, hgb, hZ, hZC⟩ rfl hT0 rfl
  have hl := lv_entry (av.map (tv E)) (n := mL) (by rw [lg_sl_tv]; exact hsz)
  rw [lvm_args] at hl
  rw [lg_entry_eq]
  exact K s.heap [] _ hR va_S.rf hl
theorem ta_add {E : aG} {k : Nat} (hk : 1 ≤ k) : ∀ j, ta E (k + j) = ta E k + j
  | 0 => rfl
  | j + 1 => by
    show ta E (k + j + 1) = _
    rw [ta_succ (by omega), ta_add hk j]
    omega
theorem RP.grow {E : aG} {M : aM} {nx : Nat} {H H1 : Heap} (h : RP E M nx H) (z : H.size ≤ H1.size) (oq : ∀ q : Nat, q < H.size → H1[q]? = H[q]?) : RP E M (nx + (H1.size - H.size)) H1 := by
  refine ⟨by rw [ta_add h.2.1, ← h.1]; omega, by have := h.2.1; omega, fun j y hj => ?_⟩
  obtain ⟨h1, h2, h3⟩ := h.2.2 j y hj
  exact ⟨h1, by omega, h3.kept (oq _ h3.lt)⟩
section
variable {E : aG} {Γ : aC} {own : String} {cc : ByteArray} {nL : Nat} {ret : Option FieldType} {nm : String} {d mc ms : Nat} {M : aM} {nx ce sl pc pc' : Nat} {lv lv' : List (Nat × Value)} {st : List Value} {Post : Option Value → aM → Nat → Prop} {PX : String → aM → Nat → Prop}
/-- the rest of the body throws no more -/
theorem sv_xr (hΓ : CK E own cc nL ret nm d mc ms Γ) (hQ : RQX E Post PX mc ms Γ) (k : ∀ Γ', CK E own cc nL ret nm d mc ms Γ' → RQ E Post mc ms Γ' → SV E Γ' nL M nx ce sl pc lv st) : SV E Γ nL M nx ce sl pc lv st := by
  obtain ⟨p, l, e, R, s, m, args, below, meth, c, Q⟩ := Γ
  cases hQ
  intro H locs ls hR hS hl
  exact vx_ret (k (p, l, e, R, s, m, args, below, meth, c, MQ below (QC E Post) args s mc ms (fun q => gb E ≤ q)) hΓ rfl H locs ls hR hS hl)
theorem sv_throwS (hΓ : CK E own cc nL ret nm d mc ms Γ) (hQ : RQX E Post PX mc ms Γ) (hT : TE [] Γ) (hX : XW E) (hl : (gl Γ).stackTraces = false) {cls text : String} {names : List String} {ik is ic : Nat} (hcls : Bundle.fit cls = true) (hnames : ∀ n ∈ names, Bundle.fit n = true)
    (hk : Cond.classLink own ik cls ∈ TB) (hini : Cond.initialized cls ∈ TB) (hstr : Cond.stringRef own is text ∈ lw_tbl) (hat : ∀ w ∈ vx_atS own ic cls names, w ∈ lw_tbl ∧ w.onTables = true)
    (d0 : decode cc pc = .ok (.new ik, 3)) (d3 : decode cc (pc + 3) = .ok (.dup, 1)) (d4 : decode cc (pc + 4) = .ok (.ldc is, 2)) (d6 : decode cc (pc + 6) = .ok (.invokespecial ic, 3)) (d9 : decode cc (pc + 9) = .ok (.athrow, 1))
    (hn2 : names.length = 2) (hd6 : 6 ≤ d) (hcat : (st.map fun v => v.category).sum ≤ 8) (hce : ce + 1 ≤ mc) (hsl : sl + 6 ≤ ms) (hp : ∀ nx', nx ≤ nx' → PX cls M nx') : SV E Γ nL M nx ce sl pc lv st := by
  obtain ⟨p, l, e, R, s, m, args, below, meth, c, Q⟩ := Γ
  obtain ⟨hx, hb, hml, hown, hts, hK, hr, hlk, hnm, hrm, hsz, hZ, hZC⟩ := hΓ
  cases hQ
  intro H locs ls hR hS hlv
  obtain ⟨x1, x2, x3, x4⟩ := hX _ _ hZ
  obtain ⟨sa, hsa⟩ := x4 own is text hstr
  refine vx_throwS hx hb hl (own := own) (cls := cls) (text := text) (names := names) (ik := ik) (is := is) (ic := ic) (sa := sa) hown hcls hnames (hts _ hk) (hts _ hini) hsa (fun w hw => va_Nw.use (hat w hw).2 (x1 w (hat w hw).1 (hat w hw).2)) ?_ x2 x3 hS (hlv.1.trans hml.symm) d0 d3 d4 d6 d9 ?_ (by omega) (by rw [tv_cats]; omega) (by omega) (by omega) hlk ?_ hS.2.2 hce hsl
  · intro w hw
    unfold vx_ot
    rcases List.mem_cons.mp hw with h | hw
    · rw [h, TB_good hk, Bool.or_true]
    · rcases List.mem_cons.mp hw with h | hw
      · rw [h, TB_good hini, Bool.or_true]
      · rw [(hat w hw).2, Bool.true_or]
  · intro x hx2
    have hT2 : c.exceptionTable.toList = [] := hT
    rw [hT2] at hx2
    cases hx2
  · intro t _ hz hq
    exact ⟨⟨M, _, hp _ (Nat.le_add_right _ _), hR.grow hz hq⟩, Nat.le_trans hS.1 hz, fun q h1 h2 => by rw [hq q (Nat.lt_of_lt_of_le h1 hS.1)]; exact hS.2.1 q h1 h2⟩
theorem sv_throwSW (hΓ : CK E own cc nL ret nm d mc ms Γ) (hQ : RQX E Post PX mc ms Γ) (hT : TE [] Γ) (hX : XW E) (hl : (gl Γ).stackTraces = false) {cls text : String} {names : List String} {ik is ic : Nat} (hcls : Bundle.fit cls = true) (hnames : ∀ n ∈ names, Bundle.fit n = true)
    (hk : Cond.classLink own ik cls ∈ TB) (hini : Cond.initialized cls ∈ TB) (hstr : Cond.stringRef own is text ∈ lw_tbl) (hat : ∀ w ∈ vx_atS own ic cls names, w ∈ lw_tbl ∧ w.onTables = true)
    (d0 : decode cc pc = .ok (.new ik, 3)) (d3 : decode cc (pc + 3) = .ok (.dup, 1)) (d4 : decode cc (pc + 4) = .ok (.ldc_w is, 3)) (d7 : decode cc (pc + 7) = .ok (.invokespecial ic, 3)) (d10 : decode cc (pc + 10) = .ok (.athrow, 1))
    (hn2 : names.length = 2) (hd6 : 6 ≤ d) (hcat : (st.map fun v => v.category).sum ≤ 8) (hce : ce + 1 ≤ mc) (hsl : sl + 6 ≤ ms) (hp : ∀ nx', nx ≤ nx' → PX cls M nx') : SV E Γ nL M nx ce sl pc lv st := by
  obtain ⟨p, l, e, R, s, m, args, below, meth, c, Q⟩ := Γ
  obtain ⟨hx, hb, hml, hown, hts, hK, hr, hlk, hnm, hrm, hsz, hZ, hZC⟩ := hΓ
  cases hQ
  intro H locs ls hR hS hlv
  obtain ⟨x1, x2, x3, x4⟩ := hX _ _ hZ
  obtain ⟨sa, hsa⟩ := x4 own is text hstr
  refine vx_throwSW hx hb hl (own := own) (cls := cls) (text := text) (names := names) (ik := ik) (is := is) (ic := ic) (sa := sa) hown hcls hnames (hts _ hk) (hts _ hini) hsa (fun w hw => va_Nw.use (hat w hw).2 (x1 w (hat w hw).1 (hat w hw).2)) ?_ x2 x3 hS (hlv.1.trans hml.symm) d0 d3 d4 d7 d10 ?_ (by omega) (by rw [tv_cats]; omega) (by omega) (by omega) hlk ?_ hS.2.2 hce hsl
  · intro w hw
    unfold vx_ot
    rcases List.mem_cons.mp hw with h | hw
    · rw [h, TB_good hk, Bool.or_true]
    · rcases List.mem_cons.mp hw with h | hw
      · rw [h, TB_good hini, Bool.or_true]
      · rw [(hat w hw).2, Bool.true_or]
  · intro x hx2
    have hT2 : c.exceptionTable.toList = [] := hT
    rw [hT2] at hx2
    cases hx2
  · intro t _ hz hq
    exact ⟨⟨M, _, hp _ (Nat.le_add_right _ _), hR.grow hz hq⟩, Nat.le_trans hS.1 hz, fun q h1 h2 => by rw [hq q (Nat.lt_of_lt_of_le h1 hS.1)]; exact hS.2.1 q h1 h2⟩
end
