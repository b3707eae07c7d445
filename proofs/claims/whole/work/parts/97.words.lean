/-! What the walk knows besides the cells, and that it lasts -/
def wK : Cond → Bool
  | .declares _ => true
  | .castable .. => true
  | .methodLinkNest .. => true
  | .privateMethod _ => true
  | w => goodWord w || !w.onTables
theorem lw_wK : lw_tbl.all wK = true := by decide +kernel
theorem Nw_warm {w : Cond} {U U' : State} (hw : wK w = true) (ho : w.onTables = true) (h : va_Nw w U) (hW : U.vm = U'.vm ∨ U.WarmedH U'.vm) : va_Nw w U' := by
  rcases hW with e | hW
  · exact va_Nw.same ho e h
  · by_cases hg : goodWord w = true
    · exact word_at hW (good_of_word hg) h
    · cases w
      all_goals first
        | exact va_Nw.warmD hW h
        | exact va_Nw.warmC hW h
        | exact va_Nw.warmM hW h
        | exact Cond.privateMethod_warm hW h
        | (exfalso; simp_all [wK])
/-- all of it -/
def gZ0 (B : Nat) : State → Heap → Prop := fun U H => (∀ w ∈ lw_tbl, w.onTables = true → va_Nw w U) ∧ vx_Zq Bundle.tN "UNASSIGNED_STACK" Bundle.steD (fun q => B ≤ q) U H ∧ vx_Zq Bundle.tN "SUPPRESSED_SENTINEL" Bundle.listD (fun q => B ≤ q) U H ∧ (∀ own k tx, Cond.stringRef own k tx ∈ lw_tbl → ∃ sa, vk_R own k tx sa U) ∧ (va_AO RX0 U ∧ va_AO RX2 U ∧ va_AO RX10 U) ∧ (va_Nc RX0 RX7 U ∧ va_Nc RX7 RX0 U) ∧ va_Nc "java/lang/IllegalStateException" "java/lang/IllegalArgumentException" U ∧ va_Nc "java/util/NoSuchElementException" "java/lang/IllegalArgumentException" U ∧ va_Nc "java/util/NoSuchElementException" "java/lang/IllegalStateException" U
theorem gZ0_keep {B : Nat} {U U' : State} {H H' : Heap} (h : gZ0 B U H) (hW : U.vm = U'.vm ∨ U.WarmedH U'.vm) (hq : ∀ q : Nat, q < H.size → ¬ B ≤ q → H'[q]? = H[q]?) : gZ0 B U' H' := by
  obtain ⟨z1, z2, z3, z4, ⟨z5, z6, z7⟩, ⟨z8, z9⟩, x1, x2, x3⟩ := h
  have hA : U.vm.Alike U'.vm := by
    rcases hW with e | hW
    · rw [← e]; exact Vm.Alike.refl _
    · exact hW.alike
  refine ⟨fun w hw ho => Nw_warm (List.all_eq_true.mp lw_wK w hw) ho (z1 w hw ho) hW, vx_Zq.moved hA (z2.kept hq), vx_Zq.moved hA (z3.kept hq), fun own k tx hm => ?_, ⟨z5.moved hA, z6.moved hA, z7.moved hA⟩, ⟨z8.moved hA, z9.moved hA⟩, x1.moved hA, x2.moved hA, x3.moved hA⟩
  obtain ⟨sa, hs⟩ := z4 own k tx hm
  rcases hW with e | hW
  · exact ⟨sa, hs.same e.symm⟩
  · exact ⟨sa, hs.warm hW⟩
theorem sr_of {args : Array Value} {s : State} {own tx : String} {k : Nat} (h : (Cond.stringRef own k tx).before args s = true) : ∃ sa, vk_R own k tx sa s := by
  have hc : ∃ cur, s.vm.findClass own = some cur := by
    have h1 := h
    simp only [Cond.before, Cond.holds, Cond.value] at h1
    cases hc : s.vm.findClass own with
    | none => simp [hc] at h1
    | some cur => exact ⟨cur, rfl⟩
  obtain ⟨cur, hc⟩ := hc
  obtain ⟨-, -, -, a, -, -, -, -, -, he⟩ := Cond.stringRef_spec hc h
  exact ⟨a, vk_R.of h he⟩
set_option maxRecDepth 100000 in
theorem lw_827 : Cond.laysStatic Bundle.tN "UNASSIGNED_STACK" Bundle.steD ∈ lw_tbl := tk_4 (List.mem_of_getElem? (i := 107) rfl)
set_option maxRecDepth 100000 in
theorem lw_829 : Cond.laysStatic Bundle.tN "SUPPRESSED_SENTINEL" Bundle.listD ∈ lw_tbl := tk_4 (List.mem_of_getElem? (i := 109) rfl)
theorem lw_iT : Cond.initialized Bundle.tN ∈ lw_tbl := by decide +kernel
set_option maxRecDepth 100000 in
theorem lw_38 : Cond.arrayOver (.object RX0) ∈ lw_tbl := tk_1 (List.mem_of_getElem? (i := 38) rfl)
set_option maxRecDepth 100000 in
theorem lw_159 : Cond.arrayOver (.object RX10) ∈ lw_tbl := tk_1 (List.mem_of_getElem? (i := 159) rfl)
set_option maxRecDepth 100000 in
theorem lw_219 : Cond.arrayOver (.object RX2) ∈ lw_tbl := tk_1 (List.mem_of_getElem? (i := 219) rfl)
set_option maxRecDepth 100000 in
theorem lw_33 : Cond.methodLinkNest RX11 9 yX1_init "GateMaker" ∈ lw_tbl := tk_1 (List.mem_of_getElem? (i := 33) rfl)
set_option maxRecDepth 100000 in
theorem lw_48 : Cond.methodLinkNest RX11 18 yX9_init "GateMaker" ∈ lw_tbl := tk_1 (List.mem_of_getElem? (i := 48) rfl)
set_option maxRecDepth 100000 in
theorem lw_282 : Cond.methodLinkNest RX0 3 yX2_init "GateMaker" ∈ lw_tbl := tk_2 (List.mem_of_getElem? (i := 42) rfl)
set_option maxRecDepth 100000 in
theorem lw_677 : Cond.methodLinkNest RX3 133 yX11_isPlace "GateMaker" ∈ lw_tbl := tk_3 (List.mem_of_getElem? (i := 197) rfl)
set_option maxRecDepth 100000 in
theorem lw_687 : Cond.methodLinkNest RX3 112 yX11_cut "GateMaker" ∈ lw_tbl := tk_3 (List.mem_of_getElem? (i := 207) rfl)
set_option maxRecDepth 100000 in
theorem lw_744 : Cond.methodLinkNest RX7 1 yX2_init "GateMaker" ∈ lw_tbl := tk_4 (List.mem_of_getElem? (i := 24) rfl)
set_option maxRecDepth 100000 in
theorem lw_755 : Cond.sameMethod "[J" "java/lang/Object" "clone" "()Ljava/lang/Object;" ∈ lw_tbl := tk_4 (List.mem_of_getElem? (i := 35) rfl)
set_option maxRecDepth 100000 in
theorem lw_759 : Cond.castable "[J" "java/lang/Cloneable" ∈ lw_tbl := tk_4 (List.mem_of_getElem? (i := 39) rfl)
set_option maxRecDepth 100000 in
theorem lw_1376 : Cond.castable RX0 RX2 ∈ lw_tbl := tk_6 (List.mem_of_getElem? (i := 176) rfl)
set_option maxRecDepth 100000 in
theorem lw_1377 : Cond.castable RX7 RX2 ∈ lw_tbl := tk_6 (List.mem_of_getElem? (i := 177) rfl)
theorem wn_0 : (yX1_init.cls ≠ "java/lang/invoke/MethodHandle" ∧ yX1_init.cls ≠ "java/lang/invoke/VarHandle" ∧ (parseMethodDescriptor yX1_init.desc).map (fun d => d.parameters.length) = some 0) := by decide +kernel
theorem wn_1 : (yX9_init.cls ≠ "java/lang/invoke/MethodHandle" ∧ yX9_init.cls ≠ "java/lang/invoke/VarHandle" ∧ (parseMethodDescriptor yX9_init.desc).map (fun d => d.parameters.length) = some 0) := by decide +kernel
theorem wn_2 : (yX2_init.cls ≠ "java/lang/invoke/MethodHandle" ∧ yX2_init.cls ≠ "java/lang/invoke/VarHandle" ∧ (parseMethodDescriptor yX2_init.desc).map (fun d => d.parameters.length) = some 0) := by decide +kernel
theorem wn_3 : (yX11_isPlace.cls ≠ "java/lang/invoke/MethodHandle" ∧ yX11_isPlace.cls ≠ "java/lang/invoke/VarHandle" ∧ (parseMethodDescriptor yX11_isPlace.desc).map (fun d => d.parameters.length) = some 1) := by decide +kernel
theorem wn_4 : (yX11_cut.cls ≠ "java/lang/invoke/MethodHandle" ∧ yX11_cut.cls ≠ "java/lang/invoke/VarHandle" ∧ (parseMethodDescriptor yX11_cut.desc).map (fun d => d.parameters.length) = some 2) := by decide +kernel
section
variable {E : aG} {B : Nat}
theorem NW_of (h : gZ E = gZ0 B) : NW E := by
  have z : ∀ U H, gZ E U H → gZ0 B U H := fun U H q => by rw [h] at q; exact q
  have n : ∀ {w : Cond}, w ∈ lw_tbl → w.onTables = true → ∀ U H, gZ E U H → va_Nw w U := fun {w} hm ho U H q => (z U H q).1 w hm ho
  exact ⟨⟨⟨tb_2, tb_35⟩, wn_0, by decide, n lw_33 rfl⟩, ⟨⟨tb_3, tb_50⟩, wn_1, by decide, n lw_48 rfl⟩, ⟨⟨tb_10, tb_284⟩, wn_2, by decide, n lw_282 rfl⟩, ⟨⟨tb_1, tb_461⟩, wn_3, by decide, n lw_677 rfl⟩, ⟨⟨tb_1, tb_260⟩, wn_4, by decide, n lw_687 rfl⟩, ⟨⟨tb_10, tb_284⟩, wn_2, by decide, n lw_744 rfl⟩, fun U H q => (z U H q).2.2.2.2.1.1, fun U H q => (z U H q).2.2.2.2.1.2.1, fun U H q => (z U H q).2.2.2.2.1.2.2, n lw_1376 rfl, n lw_1377 rfl, fun U H q => (z U H q).2.2.2.2.2.1.1, fun U H q => (z U H q).2.2.2.2.2.1.2⟩
theorem NX_of (h : gZ E = gZ0 B) : NX E := fun U H q => by
  rw [h] at q
  exact ⟨q.1 _ lw_755 rfl, q.1 _ lw_759 rfl⟩
theorem XW_of (h : gZ E = gZ0 (gb E)) : XW E := fun U H q => by
  rw [h] at q
  exact ⟨q.1, q.2.1, q.2.2.1, q.2.2.2.1⟩
theorem XN_of (h : gZ E = gZ0 B) : XN E := fun U H q => by
  rw [h] at q
  exact q.2.2.2.2.2.2
theorem ZC_of (h : gZ E = gZ0 (gb E)) : ZC E := fun U U' H H' q hW _ hq => by
  rw [h] at q ⊢
  exact gZ0_keep q hW hq
end
