set_option maxRecDepth 100000 in
theorem cw_L_out {E : aG} (l : Launch) (q i : Int32) {ci : Nat → Nat → Int32} {cl : Nat → Nat → Int64} {cr : Nat → Nat → Option Nat} {dy : aM} {nx : Nat} (hT0 : TR cr) (hpu : ∀ k, k < 4 → ∃ f, f ≤ 16 ∧ ci (26 + 2 * (2 * k + 1)) 1 = nI f) (hX : XW E) (hXN : XN E) (htr : l.stackTraces = false) : CW E l yL_out cL_out 5 (some .int) [(0, 9, 12, 13), (0, 9, 16, 19)] 7 [.ref 1, .int q, .int i, .ref 73] (mm ci cl cr dy) nx 1 6
    (fun r M' nx' => (¬ (II 0 3 q ∧ 0 ≤ i) ∧ r = some (.int 1) ∧ M' = mm ci cl cr dy ∧ nx ≤ nx') ∨ (II 0 3 q ∧ 0 ≤ i ∧ ci 1 8 = 0 ∧ r = some (.int 2) ∧ M' = mm ci cl cr dy ∧ nx ≤ nx') ∨ (∃ k, k < 4 ∧ q = nI k ∧ 0 ≤ i ∧ ¬ ci 1 8 = 0 ∧ ¬ i < ci (26 + 2 * (2 * k + 1)) 1 ∧ r = some (.int 1) ∧ M' = mm ci cl cr dy ∧ nx ≤ nx') ∨ (∃ k j f, k < 4 ∧ q = nI k ∧ i = nI j ∧ ¬ ci 1 8 = 0 ∧ f ≤ 16 ∧ ci (26 + 2 * (2 * k + 1)) 1 = nI f ∧ j < f ∧ r = some (.int 0) ∧ M' = mm ci (up2 cl 73 0 (cl (27 + 2 * (2 * k + 1)) j)) cr dy ∧ nx ≤ nx')) (fun _ _ _ => False) := by
  refine CW_intro (by decide) (Nat.le_of_ble_eq_true rfl) (fun Γ hΓ hQ hT hL => ?_)
  replace hΓ : CK E RL cL_out 5 (some .int) "out" 7 1 6 Γ := hΓ
  show SV E Γ 5 (mm ci cl cr dy) nx 0 0 0 [(0, .ref 1), (1, .int q), (2, .int i), (3, .ref 73)] []
  refine sv_aload_n hΓ dL_out_0 rfl 3 rfl rfl ?_
  refine sv_iconst (v := 0) hΓ dL_out_1 (by decide) rfl ?_
  refine sv_aload_n hΓ dL_out_2 rfl 0 rfl rfl ?_
  refine sv_iload_n hΓ dL_out_3 rfl 1 rfl rfl ?_
  refine sv_iload_n hΓ dL_out_4 rfl 2 rfl rfl ?_
  refine sv_callVX hΓ (cx_X11_out _ q i hT0 hpu hX (by rw [hL]; exact htr)) wv_L_15 vs_X11_out rfl m_1 rfl rfl (by decide) (Nat.le_of_ble_eq_true rfl) (Nat.le_of_ble_eq_true rfl) (Nat.le_of_ble_eq_true rfl) dL_out_5 rfl (fun r M' nx' hp => ?_) (fun X M' nx' hp => ?_)
  · obtain ⟨k, j, f, hk, rfl, rfl, hr, hf, ef, hj, rfl, rfl, rfl⟩ := hp
    refine at_73 hΓ 0 rfl (by decide) dL_out_8 rfl ?_
    refine sv_goto (pc' := 20) hΓ dL_out_9 (by decide) ?_
    refine sv_iconst (v := 0) hΓ dL_out_20 (by decide) rfl ?_
    refine sv_xr hΓ hQ (fun Γ hΓ hQ => ?_)
    exact sv_iret hΓ hQ dL_out_21 (Nat.le_of_ble_eq_true rfl) (Nat.le_of_ble_eq_true rfl) (Or.inr (Or.inr (Or.inr ⟨k, j, f, hk, rfl, rfl, hr, hf, ef, hj, rfl, rfl, Nat.le_refl _⟩)))
  · rcases hp with ⟨rfl, hno, rfl, hnx⟩ | ⟨rfl, hq, hi, hr, rfl, hnx⟩ | ⟨k, hk, rfl, rfl, hi, hr, hlt, rfl, hnx⟩
    · refine sv_catch hΓ hT (name := "java/lang/IllegalArgumentException") [] ⟨0, 9, 12, 13⟩ [⟨0, 9, 16, 19⟩] rfl (fun z h => nomatch h) (by decide) (by decide) tb_903 (fun U H h => (hX U H h).1 _ cast_ia rfl) (i := 4) (by decide) (Or.inl ⟨dL_out_12, rfl⟩) rfl ?_
      refine sv_iconst (v := 1) hΓ dL_out_14 (by decide) rfl ?_
      refine sv_xr hΓ hQ (fun Γ hΓ hQ => ?_)
      exact sv_iret hΓ hQ dL_out_15 (Nat.le_of_ble_eq_true rfl) (Nat.le_of_ble_eq_true rfl) (Or.inl ⟨hno, rfl, rfl, hnx⟩)
    · refine sv_catch hΓ hT (name := "java/lang/IllegalStateException") [⟨0, 9, 12, 13⟩] ⟨0, 9, 16, 19⟩ [] rfl (fun z h => Or.inr (by cases List.mem_singleton.mp h; exact ⟨by decide, _, tb_903, fun U H h => (hXN U H h).1⟩)) (by decide) (by decide) tb_913 (fun U H h => (hX U H h).1 _ cast_is rfl) (i := 4) (by decide) (Or.inl ⟨dL_out_16, rfl⟩) rfl ?_
      refine sv_iconst (v := 2) hΓ dL_out_18 (by decide) rfl ?_
      refine sv_xr hΓ hQ (fun Γ hΓ hQ => ?_)
      exact sv_iret hΓ hQ dL_out_19 (Nat.le_of_ble_eq_true rfl) (Nat.le_of_ble_eq_true rfl) (Or.inr (Or.inl ⟨hq, hi, hr, rfl, rfl, hnx⟩))
    · refine sv_catch hΓ hT (name := "java/lang/IllegalArgumentException") [] ⟨0, 9, 12, 13⟩ [⟨0, 9, 16, 19⟩] rfl (fun z h => nomatch h) (by decide) (by decide) tb_903 (fun U H h => (hX U H h).1 _ cast_ia rfl) (i := 4) (by decide) (Or.inl ⟨dL_out_12, rfl⟩) rfl ?_
      refine sv_iconst (v := 1) hΓ dL_out_14 (by decide) rfl ?_
      refine sv_xr hΓ hQ (fun Γ hΓ hQ => ?_)
      exact sv_iret hΓ hQ dL_out_15 (Nat.le_of_ble_eq_true rfl) (Nat.le_of_ble_eq_true rfl) (Or.inr (Or.inr (Or.inl ⟨k, hk, rfl, hi, hr, hlt, rfl, rfl, hnx⟩)))
set_option maxRecDepth 100000 in
theorem cw_L_element {E : aG} (l : Launch) (q i : Int32) {ci : Nat → Nat → Int32} {cl : Nat → Nat → Int64} {cr : Nat → Nat → Option Nat} {dy : aM} {nx : Nat} (hSh : ∀ e, e < 8 → SHX cr dy e) (hNW : NW E) (hX : XW E) (hXN : XN E) (htr : l.stackTraces = false) : CW E l yL_element cL_element 5 (some .int) [(0, 9, 12, 13), (0, 9, 16, 19)] 7 [.ref 1, .int q, .int i, .ref 73] (mm ci cl cr dy) nx 1 6
    (fun r M' nx' => (¬ AI 8 q ∧ r = some (.int 1) ∧ M' = mm ci cl cr dy ∧ nx ≤ nx') ∨ (∃ e, e < 8 ∧ q = nI e ∧ (cr 42 e = none ∨ (∃ k c nu a s, cr 42 e = some k ∧ AT c nu dy a k s) ∨ (∃ k q w v f, cr 42 e = some k ∧ RW dy k q w v f ∧ v ≤ 60 ∧ ¬ RC v i 1)) ∧ r = some (.int 2) ∧ M' = mm ci cl cr dy ∧ nx ≤ nx') ∨ (∃ e j k q' w v f, e < 8 ∧ q = nI e ∧ i = nI j ∧ cr 42 e = some k ∧ RW dy k q' w v f ∧ v ≤ 60 ∧ j < v ∧ r = some (.int 0) ∧ M' = mm ci (up2 cl 73 0 (f j)) cr dy ∧ nx ≤ nx')) (fun _ _ _ => False) := by
  refine CW_intro (by decide) (Nat.le_of_ble_eq_true rfl) (fun Γ hΓ hQ hT hL => ?_)
  replace hΓ : CK E RL cL_element 5 (some .int) "element" 7 1 6 Γ := hΓ
  show SV E Γ 5 (mm ci cl cr dy) nx 0 0 0 [(0, .ref 1), (1, .int q), (2, .int i), (3, .ref 73)] []
  refine sv_aload_n hΓ dL_element_0 rfl 3 rfl rfl ?_
  refine sv_iconst (v := 0) hΓ dL_element_1 (by decide) rfl ?_
  refine sv_aload_n hΓ dL_element_2 rfl 0 rfl rfl ?_
  refine sv_iload_n hΓ dL_element_3 rfl 1 rfl rfl ?_
  refine sv_iload_n hΓ dL_element_4 rfl 2 rfl rfl ?_
  refine sv_callVX hΓ (cx_X11_element _ q i hSh hNW hX (by rw [hL]; exact htr)) wv_L_25 vs_X11_element rfl m_1 rfl rfl (by decide) (Nat.le_of_ble_eq_true rfl) (Nat.le_of_ble_eq_true rfl) (Nat.le_of_ble_eq_true rfl) dL_element_5 rfl (fun r M' nx' hp => ?_) (fun X M' nx' hp => ?_)
  · obtain ⟨e, j, k, q', w, v, f, he, rfl, rfl, hc, hR, hv, hj, rfl, rfl, rfl⟩ := hp
    refine at_73 hΓ 0 rfl (by decide) dL_element_8 rfl ?_
    refine sv_goto (pc' := 20) hΓ dL_element_9 (by decide) ?_
    refine sv_iconst (v := 0) hΓ dL_element_20 (by decide) rfl ?_
    refine sv_xr hΓ hQ (fun Γ hΓ hQ => ?_)
    exact sv_iret hΓ hQ dL_element_21 (Nat.le_of_ble_eq_true rfl) (Nat.le_of_ble_eq_true rfl) (Or.inr (Or.inr ⟨e, j, k, q', w, v, f, he, rfl, rfl, hc, hR, hv, hj, rfl, rfl, Nat.le_refl _⟩))
  · rcases hp with ⟨rfl, hno, rfl, hnx⟩ | ⟨e, he, rfl, rfl, hw, rfl, hnx⟩
    · refine sv_catch hΓ hT (name := "java/lang/IllegalArgumentException") [] ⟨0, 9, 12, 13⟩ [⟨0, 9, 16, 19⟩] rfl (fun z h => nomatch h) (by decide) (by decide) tb_903 (fun U H h => (hX U H h).1 _ cast_ia rfl) (i := 4) (by decide) (Or.inl ⟨dL_element_12, rfl⟩) rfl ?_
      refine sv_iconst (v := 1) hΓ dL_element_14 (by decide) rfl ?_
      refine sv_xr hΓ hQ (fun Γ hΓ hQ => ?_)
      exact sv_iret hΓ hQ dL_element_15 (Nat.le_of_ble_eq_true rfl) (Nat.le_of_ble_eq_true rfl) (Or.inl ⟨hno, rfl, rfl, hnx⟩)
    · refine sv_catch hΓ hT (name := "java/lang/IllegalStateException") [⟨0, 9, 12, 13⟩] ⟨0, 9, 16, 19⟩ [] rfl (fun z h => Or.inr (by cases List.mem_singleton.mp h; exact ⟨by decide, _, tb_903, fun U H h => (hXN U H h).1⟩)) (by decide) (by decide) tb_913 (fun U H h => (hX U H h).1 _ cast_is rfl) (i := 4) (by decide) (Or.inl ⟨dL_element_16, rfl⟩) rfl ?_
      refine sv_iconst (v := 2) hΓ dL_element_18 (by decide) rfl ?_
      refine sv_xr hΓ hQ (fun Γ hΓ hQ => ?_)
      exact sv_iret hΓ hQ dL_element_19 (Nat.le_of_ble_eq_true rfl) (Nat.le_of_ble_eq_true rfl) (Or.inr (Or.inl ⟨e, he, rfl, hw, rfl, rfl, hnx⟩))
