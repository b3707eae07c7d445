/-! the law's own methods that catch -/
def XN (E : aG) : Prop := ∀ U H, gZ E U H → va_Nc "java/lang/IllegalStateException" "java/lang/IllegalArgumentException" U ∧ va_Nc "java/util/NoSuchElementException" "java/lang/IllegalArgumentException" U ∧ va_Nc "java/util/NoSuchElementException" "java/lang/IllegalStateException" U
set_option maxRecDepth 100000 in
theorem cast_ia : Cond.castable "java/lang/IllegalArgumentException" "java/lang/IllegalArgumentException" ∈ lw_tbl := List.mem_of_getElem? (i := 861) rfl
set_option maxRecDepth 100000 in
theorem cast_is : Cond.castable "java/lang/IllegalStateException" "java/lang/IllegalStateException" ∈ lw_tbl := List.mem_of_getElem? (i := 929) rfl
set_option maxRecDepth 100000 in
theorem cw_L_span {E : aG} (l : Launch) (c : aI) (nu : Nat → Int64) (q z : Int32) (n : Nat) {ci : Nat → Nat → Int32} {cl : Nat → Nat → Int64} {cr : Nat → Nat → Option Nat} {dy : aM} {nx : Nat} (hB : BK c nu ci cr dy n) (hX : XW E) (htr : l.stackTraces = false) : CW E l yL_span cL_span 5 (some .int) [(0, 9, 12, 13)] 7 [.ref 1, .int q, .int z, .ref 73] (mm ci cl cr dy) nx 1 6
    (fun r M' nx' => (¬ AI n q ∧ r = some (.int 1) ∧ M' = mm ci cl cr dy ∧ nx ≤ nx') ∨ (∃ a, a < n ∧ q = nI a ∧ r = some (.int 0) ∧ M' = mm ci (up2 cl 73 0 (if z = 0 then SL c nu a else SH c nu a)) cr dy ∧ nx ≤ nx')) (fun _ _ _ => False) := by
  refine CW_intro (by decide) (Nat.le_of_ble_eq_true rfl) (fun Γ hΓ hQ hT hL => ?_)
  replace hΓ : CK E RL cL_span 5 (some .int) "span" 7 1 6 Γ := hΓ
  show SV E Γ 5 (mm ci cl cr dy) nx 0 0 0 [(0, .ref 1), (1, .int q), (2, .int z), (3, .ref 73)] []
  refine sv_aload_n hΓ dL_span_0 rfl 3 rfl rfl ?_
  refine sv_iconst (v := 0) hΓ dL_span_1 (by decide) rfl ?_
  refine sv_aload_n hΓ dL_span_2 rfl 0 rfl rfl ?_
  refine sv_iload_n hΓ dL_span_3 rfl 1 rfl rfl ?_
  refine sv_iload_n hΓ dL_span_4 rfl 2 rfl rfl ?_
  refine sv_callVX hΓ (cx_X11_span _ c nu q z n hB hX (by rw [hL]; exact htr)) wv_L_7 vs_X11_span rfl m_1 rfl rfl (by decide) (Nat.le_of_ble_eq_true rfl) (Nat.le_of_ble_eq_true rfl) (Nat.le_of_ble_eq_true rfl) dL_span_5 rfl (fun r M' nx' hp => ?_) (fun X M' nx' hp => ?_)
  · obtain ⟨a, ha, rfl, rfl, rfl, rfl⟩ := hp
    refine at_73 hΓ 0 rfl (by decide) dL_span_8 rfl ?_
    refine sv_goto (pc' := 16) hΓ dL_span_9 (by decide) ?_
    refine sv_iconst (v := 0) hΓ dL_span_16 (by decide) rfl ?_
    refine sv_xr hΓ hQ (fun Γ hΓ hQ => ?_)
    exact sv_iret hΓ hQ dL_span_17 (Nat.le_of_ble_eq_true rfl) (Nat.le_of_ble_eq_true rfl) (Or.inr ⟨a, ha, rfl, rfl, rfl, Nat.le_refl _⟩)
  · obtain ⟨rfl, hno, rfl, hnx⟩ := hp
    refine sv_catch hΓ hT (name := "java/lang/IllegalArgumentException") [] ⟨0, 9, 12, 13⟩ [] rfl (fun z h => nomatch h) (by decide) (by decide) tb_903 (fun U H h => (hX U H h).1 _ cast_ia rfl) (i := 4) (by decide) (Or.inl ⟨dL_span_12, rfl⟩) rfl ?_
    refine sv_iconst (v := 1) hΓ dL_span_14 (by decide) rfl ?_
    refine sv_xr hΓ hQ (fun Γ hΓ hQ => ?_)
    exact sv_iret hΓ hQ dL_span_15 (Nat.le_of_ble_eq_true rfl) (Nat.le_of_ble_eq_true rfl) (Or.inl ⟨hno, rfl, rfl, hnx⟩)
set_option maxRecDepth 100000 in
theorem cw_L_row {E : aG} (l : Launch) (q : Int32) {ci : Nat → Nat → Int32} {cl : Nat → Nat → Int64} {cr : Nat → Nat → Option Nat} {dy : aM} {nx : Nat} (hX : XW E) (hXN : XN E) (htr : l.stackTraces = false) : CW E l yL_row cL_row 4 (some .int) [(0, 8, 11, 13), (0, 8, 14, 19)] 7 [.ref 1, .int q, .ref 73] (mm ci cl cr dy) nx 1 6
    (fun r M' nx' => (¬ II 0 15 q ∧ r = some (.int 1) ∧ M' = mm ci cl cr dy ∧ nx ≤ nx') ∨ (II 0 15 q ∧ ci 1 8 = 0 ∧ r = some (.int 2) ∧ M' = mm ci cl cr dy ∧ nx ≤ nx') ∨ (∃ k, k ≤ 15 ∧ q = nI k ∧ ¬ ci 1 8 = 0 ∧ r = some (.int 0) ∧ M' = mm ci (up2 cl 73 0 (cl 22 k)) cr dy ∧ nx ≤ nx')) (fun _ _ _ => False) := by
  refine CW_intro (by decide) (Nat.le_of_ble_eq_true rfl) (fun Γ hΓ hQ hT hL => ?_)
  replace hΓ : CK E RL cL_row 4 (some .int) "row" 7 1 6 Γ := hΓ
  show SV E Γ 4 (mm ci cl cr dy) nx 0 0 0 [(0, .ref 1), (1, .int q), (2, .ref 73)] []
  refine sv_aload_n hΓ dL_row_0 rfl 2 rfl rfl ?_
  refine sv_iconst (v := 0) hΓ dL_row_1 (by decide) rfl ?_
  refine sv_aload_n hΓ dL_row_2 rfl 0 rfl rfl ?_
  refine sv_iload_n hΓ dL_row_3 rfl 1 rfl rfl ?_
  refine sv_callVX hΓ (cx_X11_row _ q hX (by rw [hL]; exact htr)) wv_L_21 vs_X11_row rfl m_1 rfl rfl (by decide) (Nat.le_of_ble_eq_true rfl) (Nat.le_of_ble_eq_true rfl) (Nat.le_of_ble_eq_true rfl) dL_row_4 rfl (fun r M' nx' hp => ?_) (fun X M' nx' hp => ?_)
  · obtain ⟨k, hk, rfl, hr, rfl, rfl, rfl⟩ := hp
    refine at_73 hΓ 0 rfl (by decide) dL_row_7 rfl ?_
    refine sv_goto (pc' := 17) hΓ dL_row_8 (by decide) ?_
    refine sv_iconst (v := 0) hΓ dL_row_17 (by decide) rfl ?_
    refine sv_xr hΓ hQ (fun Γ hΓ hQ => ?_)
    exact sv_iret hΓ hQ dL_row_18 (Nat.le_of_ble_eq_true rfl) (Nat.le_of_ble_eq_true rfl) (Or.inr (Or.inr ⟨k, hk, rfl, hr, rfl, rfl, Nat.le_refl _⟩))
  · rcases hp with ⟨rfl, hno, rfl, hnx⟩ | ⟨rfl, hq, hr, rfl, hnx⟩
    · refine sv_catch hΓ hT (name := "java/lang/IllegalArgumentException") [] ⟨0, 8, 11, 13⟩ [⟨0, 8, 14, 19⟩] rfl (fun z h => nomatch h) (by decide) (by decide) tb_903 (fun U H h => (hX U H h).1 _ cast_ia rfl) (i := 3) (by decide) (Or.inr ⟨3, rfl, dL_row_11, rfl⟩) rfl ?_
      refine sv_iconst (v := 1) hΓ dL_row_12 (by decide) rfl ?_
      refine sv_xr hΓ hQ (fun Γ hΓ hQ => ?_)
      exact sv_iret hΓ hQ dL_row_13 (Nat.le_of_ble_eq_true rfl) (Nat.le_of_ble_eq_true rfl) (Or.inl ⟨hno, rfl, rfl, hnx⟩)
    · refine sv_catch hΓ hT (name := "java/lang/IllegalStateException") [⟨0, 8, 11, 13⟩] ⟨0, 8, 14, 19⟩ [] rfl (fun z h => Or.inr (by cases List.mem_singleton.mp h; exact ⟨by decide, _, tb_903, fun U H h => (hXN U H h).1⟩)) (by decide) (by decide) tb_913 (fun U H h => (hX U H h).1 _ cast_is rfl) (i := 3) (by decide) (Or.inr ⟨3, rfl, dL_row_14, rfl⟩) rfl ?_
      refine sv_iconst (v := 2) hΓ dL_row_15 (by decide) rfl ?_
      refine sv_xr hΓ hQ (fun Γ hΓ hQ => ?_)
      exact sv_iret hΓ hQ dL_row_16 (Nat.le_of_ble_eq_true rfl) (Nat.le_of_ble_eq_true rfl) (Or.inr (Or.inl ⟨hq, hr, rfl, rfl, hnx⟩))
