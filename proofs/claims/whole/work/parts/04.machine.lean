/-! An abstract memory beside the heap: cell k of ours (1, 2 ..) lies at gb E + (k - 1); cell 0 is the script. -/
abbrev aE : Type := (Nat × vp_A) ⊕ (Nat × List Value)
abbrev aM : Type := Nat → Option aE
abbrev aG : Type := (Nat → ClassId) × (Nat → Nat → Nat) × (Nat → ClassId) × (Nat × Nat) × Nat × (Nat → Int32) × (State → Heap → Prop)
def gD (E : aG) : va_G := (E.1, E.2.1)
def gA (E : aG) (t : Nat) : ClassId := E.2.2.1 t
def gs (E : aG) : Nat := E.2.2.2.1.1
def gb (E : aG) : Nat := E.2.2.2.1.2
def gL (E : aG) : Nat := E.2.2.2.2.1
def gX (E : aG) : Nat → Int32 := E.2.2.2.2.2.1
/-- what else is known of the state, and of cells that aren't ours -/
def gZ (E : aG) : State → Heap → Prop := E.2.2.2.2.2.2
def ZC (E : aG) : Prop := ∀ (U U' : State) (H H' : Heap), gZ E U H → (U.vm = U'.vm ∨ U.WarmedH U'.vm) → H.size ≤ H'.size → (∀ q : Nat, q < H.size → ¬ gb E ≤ q → H'[q]? = H[q]?) → gZ E U' H'
def ta (E : aG) : Nat → Nat
  | 0 => gs E
  | k + 1 => gb E + k
def tv (E : aG) : Value → Value
  | .ref k => .ref (ta E k)
  | v => v
def tc (E : aG) : ((Nat → Int32) ⊕ (Nat → Int64) ⊕ (Nat → UInt32) ⊕ (Nat → UInt64) ⊕ (Nat → Option Nat)) → ((Nat → Int32) ⊕ (Nat → Int64) ⊕ (Nat → UInt32) ⊕ (Nat → UInt64) ⊕ (Nat → Option Nat))
  | .inr (.inr (.inr (.inr f))) => .inr (.inr (.inr (.inr (fun j => (f j).map (ta E)))))
  | x => x
def te (E : aG) : aE → va_E
  | .inl (t, n, x) => .inl (gA E t, n, tc E x)
  | .inr (ci, fs) => .inr (ci, fs.map (tv E))
/-- the array classes: int, long, boolean, and rows of Act, Held, Tape -/
def gTys (E : aG) : List (ClassId × FieldType) := [(gA E 0, .int), (gA E 1, .long), (gA E 2, .boolean), (gA E 3, .object RX0), (gA E 4, .object RX2), (gA E 5, .object RX10)]
def RP (E : aG) (M : aM) (nx : Nat) (H : Heap) : Prop := H.size = ta E nx ∧ 1 ≤ nx ∧ ∀ (k : Nat) (x : aE), M k = some x → 1 ≤ k ∧ k < nx ∧ va_at (gD E) vwCl (ta E k, te E x) H
theorem ta_inj {E : aG} {k j : Nat} (hk : 1 ≤ k) (hj : 1 ≤ j) (h : ta E k = ta E j) : k = j := by
  cases k with
  | zero => omega
  | succ k =>
    cases j with
    | zero => omega
    | succ j =>
      have h2 : gb E + k = gb E + j := h
      omega
theorem ta_succ {E : aG} {k : Nat} (hk : 1 ≤ k) : ta E (k + 1) = ta E k + 1 := by
  cases k with
  | zero => omega
  | succ k =>
    show gb E + (k + 1) = gb E + k + 1
    omega
theorem ta_ge {E : aG} {k : Nat} (hk : 1 ≤ k) : gb E ≤ ta E k := by
  cases k with
  | zero => omega
  | succ k =>
    show gb E ≤ gb E + k
    omega
theorem tv_cat (E : aG) (v : Value) : (tv E v).category = v.category := by cases v <;> rfl
theorem tv_cats (E : aG) (st : List Value) : ((st.map (tv E)).map fun v => v.category) = st.map fun v => v.category := by
  rw [List.map_map]
  congr 1
  funext v
  exact tv_cat E v
theorem RP.set {E : aG} {M : aM} {nx k : Nat} {H H1 : Heap} {x0 x : aE} (h : RP E M nx H) (hk : M k = some x0) (hx : va_at (gD E) vwCl (ta E k, te E x) H1) (z : H1.size = H.size) (oq : ∀ q : Nat, q ≠ ta E k → H1[q]? = H[q]?) : RP E (va_up M k (some x)) nx H1 := by
  refine ⟨z.trans h.1, h.2.1, fun j y hj => ?_⟩
  obtain ⟨k1, k2, -⟩ := h.2.2 k x0 hk
  by_cases e : j = k
  · subst e
    rw [va_up_self] at hj
    cases hj
    exact ⟨k1, k2, hx⟩
  · rw [va_up_ne _ _ e] at hj
    obtain ⟨h1, h2, h3⟩ := h.2.2 j y hj
    exact ⟨h1, h2, h3.kept (oq _ (fun z => e (ta_inj h1 k1 z)))⟩
theorem RP.push {E : aG} {M : aM} {nx : Nat} {H H1 : Heap} {x : aE} (h : RP E M nx H) (hx : va_at (gD E) vwCl (ta E nx, te E x) H1) (z : H1.size = H.size + 1) (oq : ∀ q : Nat, q < H.size → H1[q]? = H[q]?) : RP E (va_up M nx (some x)) (nx + 1) H1 := by
  refine ⟨by rw [z, h.1, ta_succ h.2.1], by omega, fun j y hj => ?_⟩
  by_cases e : j = nx
  · subst e
    rw [va_up_self] at hj
    cases hj
    exact ⟨h.2.1, by omega, hx⟩
  · rw [va_up_ne _ _ e] at hj
    obtain ⟨h1, h2, h3⟩ := h.2.2 j y hj
    exact ⟨h1, by omega, h3.kept (oq _ h3.lt)⟩
theorem va_P1 {D : va_G} {cl : List vw_C} {q : Nat × va_E} {H : Heap} (h : va_at D cl q H) : va_P D cl [q] H := by
  intro k q' hk
  cases k with
  | zero => cases hk; exact h
  | succ k => simp at hk
/-- the context of a walk -/
abbrev aC : Type := Program × Launch × Env × Room × State × MethodId × Array Value × List Frame × Method × Code × (State → Prop)
abbrev lvm (E : aG) (lv : List (Nat × Value)) : List (Nat × Value) := lv.map (fun q => (q.1, tv E q.2))
def SV (E : aG) (Γ : aC) (nL : Nat) (M : aM) (nx ce sl pc : Nat) (lv : List (Nat × Value)) (st : List Value) : Prop :=
  match Γ with
  | (p, l, e, R, s, m, args, below, meth, c, Q) => ∀ (H : Heap) (locs : List Loc) (ls : Array Slot), RP E M nx H → va_S (fun q => gb E ≤ q) s.heap H locs → lv_has ls nL (lvm E lv) → W p l e R s m args below meth c H locs ce sl Q (F0 m pc ls (st.map (tv E)))
def CK (E : aG) (own : String) (cc : ByteArray) (nL : Nat) (ret : Option FieldType) (nm : String) (d mc ms : Nat) (Γ : aC) : Prop :=
  match Γ with
  | (p, l, e, R, s, m, args, below, meth, c, Q) => p.tables.exec = Jvm.exec ∧ c.code = cc ∧ c.maxLocals = nL ∧ s.vm.findClass own = some m.cls ∧ (∀ w ∈ TB, w.before args s = true) ∧ va_K (gD E) vwCl (gTys E) s ∧ meth.sig.returnType = ret ∧ meth.locks = false ∧ meth.name = nm ∧ (d ≤ R.frames ∧ 40 * d ≤ R.locals ∧ mc ≤ R.cells ∧ ms ≤ R.slots) ∧ gb E ≤ s.heap.size ∧ gZ E s s.heap ∧ ZC E
theorem lvm_at {E : aG} {ls : Array Slot} {nL : Nat} {lv : List (Nat × Value)} (h : lv_has ls nL (lvm E lv)) (q : Nat) {i : Nat} {v : Value} (hq : lv[q]? = some (i, v)) : ls[i]? = some (.val (tv E v)) :=
  lv_at h q (by rw [List.getElem?_map, hq]; rfl)
theorem lvm_f1 (E : aG) (lv : List (Nat × Value)) (i : Nat) : (lvm E lv).filter (fun q => !(q.1 == i) && !(q.1 + 1 == i && q.2.category == 2)) = lvm E (lv.filter (fun q => !(q.1 == i) && !(q.1 + 1 == i && q.2.category == 2))) := by
  rw [lvm, List.filter_map]
  congr 2
  funext q
  show (!(q.1 == i) && !(q.1 + 1 == i && (tv E q.2).category == 2)) = _
  rw [tv_cat]
theorem lvm_f2 (E : aG) (lv : List (Nat × Value)) (i : Nat) : (lvm E lv).filter (fun q => !(q.1 == i) && (!(q.1 == i + 1) && !(q.1 + 1 == i && q.2.category == 2))) = lvm E (lv.filter (fun q => !(q.1 == i) && (!(q.1 == i + 1) && !(q.1 + 1 == i && q.2.category == 2)))) := by
  rw [lvm, List.filter_map]
  congr 2
  funext q
  show (!(q.1 == i) && (!(q.1 == i + 1) && !(q.1 + 1 == i && (tv E q.2).category == 2))) = _
  rw [tv_cat]
theorem lvm_args (E : aG) : ∀ (i : Nat) (vs : List Value), lv_args i (vs.map (tv E)) = lvm E (lv_args i vs)
  | _, [] => rfl
  | i, v :: vs => by
    show (i, tv E v) :: lv_args (if (tv E v).category = 2 then i + 2 else i + 1) (vs.map (tv E)) = (i, tv E v) :: lvm E (lv_args (if v.category = 2 then i + 2 else i + 1) vs)
    rw [tv_cat, lvm_args E _ vs]
