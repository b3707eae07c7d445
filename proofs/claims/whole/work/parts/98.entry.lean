/-! The law from its entry -/
theorem law_start {E : aG} {Γ : aC} {nm : String} (C : LC E Γ nm) (LOOP : SV E Γ 8 (mm ci0 cl0 cr0 (fun _ => none)) 74 (100 + 3 * 0) (5000 + 62 * 0) 23 (LVk 0) []) : SV E Γ 8 (fun _ => none) 1 0 0 0 [(0, .ref 0)] [] := by
  obtain ⟨hΓ, hSX, hL, hNW, -⟩ := C
  refine nw_L_8 hΓ dL_law_0 (Nat.le_of_ble_eq_true rfl) (Nat.le_of_ble_eq_true rfl) rfl ?_
  refine sv_dup hΓ dL_law_3 rfl rfl ?_
  refine sv_callI hΓ (fun l => ct_X11_init l rfl hNW) wv_L_28 tb_26 rfl rfl rfl (by decide) (Nat.le_of_ble_eq_true rfl) (Nat.le_of_ble_eq_true rfl) (Nat.le_of_ble_eq_true rfl) dL_law_4 rfl (fun r M' nx' p1 => ?_)
  obtain ⟨rfl, rfl, rfl⟩ := p1
  show SV E Γ 8 _ 43 _ _ 7 [(0, .ref 0)] [.ref 1]
  refine sv_astore_n (lv' := [(1, .ref 1), (0, .ref 0)]) hΓ dL_law_7 rfl (by decide) rfl rfl ?_
  refine nw_L_29 hΓ dL_law_8 (Nat.le_of_ble_eq_true rfl) (Nat.le_of_ble_eq_true rfl) rfl ?_
  refine sv_dup hΓ dL_law_11 rfl rfl ?_
  refine sv_callI hΓ (fun l => ct_X12_init l rfl) wv_L_31 tb_943 rfl rfl rfl (by decide) (Nat.le_of_ble_eq_true rfl) (Nat.le_of_ble_eq_true rfl) (Nat.le_of_ble_eq_true rfl) dL_law_12 rfl (fun r M' nx' p1 => ?_)
  obtain ⟨rfl, rfl, rfl⟩ := p1
  show SV E Γ 8 _ 73 _ _ 15 [(1, .ref 1), (0, .ref 0)] [.ref 43]
  refine sv_astore_n (lv' := [(2, .ref 43), (1, .ref 1), (0, .ref 0)]) hΓ dL_law_15 rfl (by decide) rfl rfl ?_
  refine sv_iconst (v := 1) hΓ dL_law_16 (by decide) rfl ?_
  refine sv_newJ hΓ (n := 1) 1 tb_172 dL_law_17 (by decide) (by decide) (by decide) (Nat.le_of_ble_eq_true rfl) (Nat.le_of_ble_eq_true rfl) rfl ?_
  refine sv_astore_n (lv' := [(3, .ref 73), (2, .ref 43), (1, .ref 1), (0, .ref 0)]) hΓ dL_law_19 rfl (by decide) rfl rfl ?_
  refine sv_iconst (v := 0) hΓ dL_law_20 (by decide) rfl ?_
  refine sv_istore (lv' := LVk 0) hΓ dL_law_21 (by decide) rfl rfl ?_
  show SV E Γ 8 mc0 74 _ _ 23 (LVk 0) []
  refine sv_sub (mm ci0 cl0 cr0 (fun _ => none)) mc0_le ?_
  exact SV_w (Nat.le_of_ble_eq_true rfl) (Nat.le_of_ble_eq_true rfl) LOOP
theorem AK {s : State} {args : Array Value} {ty : FieldType} (h : (Cond.arrayClass ty).before args s = true) : ∃ cA, ArrOfT s cA ty ∧ s.vm.findClass ("[" ++ ty.toString) = some cA := by
  obtain ⟨cA, kA, comp, h1, h2, h3⟩ := Cond.arrayClass_spec h
  exact ⟨cA, fun N z => ⟨(fun k h => by cases h), kA, h2, comp, h3⟩, h1⟩
theorem AO {s : State} {args : Array Value} {C : String} (h : (Cond.arrayOver (.object C)).before args s = true) : ∃ cA, ArrOfT s cA (.object C) ∧ va_RA s cA (.object C) := by
  obtain ⟨comp, cA, kA, h1, h2, h3, h4, h5⟩ := Cond.arrayOver_spec h
  exact ⟨cA, fun N z => ⟨(fun k h => by cases h), kA, h3, comp, h4⟩, kA, comp, h3, h4, h1, h5⟩
theorem start_K {s : State} {args : Array Value} (hts : ∀ w ∈ lw_tbl, w.before args s = true) : ∃ (D : va_G) (gA : Nat → ClassId), va_K D vwCl [(gA 0, .int), (gA 1, .long), (gA 2, .boolean), (gA 3, .object RX0), (gA 4, .object RX2), (gA 5, .object RX10)] s := by
  have hTB : ∀ w ∈ TB, w.before args s = true := fun w h => hts w (TB_in h)
  obtain ⟨c0, i0, k0⟩ := u_known (n := 7) hTB i_X0 (hTB _ tb_262)
  obtain ⟨c1, i1, k1⟩ := u_known (n := 2) hTB i_X1 (hTB _ tb_32)
  obtain ⟨c2, i2, k2⟩ := u_known (n := 12) hTB i_X3 (hTB _ tb_153)
  obtain ⟨c3, i3, k3⟩ := u_known (n := 3) hTB i_X4 (hTB _ tb_69)
  obtain ⟨c4, i4, k4⟩ := u_known (n := 7) hTB i_X5 (hTB _ tb_85)
  obtain ⟨c5, i5, k5⟩ := u_known (n := 7) hTB i_X6 (hTB _ tb_121)
  obtain ⟨c6, i6, k6⟩ := u_known (n := 2) hTB i_X7 (hTB _ tb_740)
  obtain ⟨c7, i7, k7⟩ := u_known (n := 2) hTB i_X8 (hTB _ tb_264)
  obtain ⟨c8, i8, k8⟩ := u_known (n := 3) hTB i_X9 (hTB _ tb_47)
  obtain ⟨c9, i9, k9⟩ := u_known (n := 2) hTB i_X10 (hTB _ tb_160)
  obtain ⟨c10, i10, k10⟩ := u_known (n := 9) hTB i_X11 (hTB _ tb_24)
  obtain ⟨c11, i11, k11⟩ := u_known (n := 41) hTB i_X12 (hTB _ tb_941)
  obtain ⟨a0, p0, q0⟩ := AK (hTB _ tb_66)
  obtain ⟨a1, p1, q1⟩ := AK (hTB _ tb_172)
  obtain ⟨a2, p2, q2⟩ := AK (hTB _ tb_67)
  obtain ⟨a3, p3, q3⟩ := AO (hts _ lw_38)
  obtain ⟨a4, p4, q4⟩ := AO (hts _ lw_219)
  obtain ⟨a5, p5, q5⟩ := AO (hts _ lw_159)
  refine ⟨(fun k => [c0, c1, c2, c3, c4, c5, c6, c7, c8, c9, c10, c11].getD k 0, fun k => [i0, i1, i2, i3, i4, i5, i6, i7, i8, i9, i10, i11].getD k (fun _ => 0)), fun k => [a0, a1, a2, a3, a4, a5].getD k 0, fun k q hq => ?_, fun k q hq => ?_⟩
  · match k, hq with
    | 0, hq => cases hq; exact k0
    | 1, hq => cases hq; exact k1
    | 2, hq => cases hq; exact k2
    | 3, hq => cases hq; exact k3
    | 4, hq => cases hq; exact k4
    | 5, hq => cases hq; exact k5
    | 6, hq => cases hq; exact k6
    | 7, hq => cases hq; exact k7
    | 8, hq => cases hq; exact k8
    | 9, hq => cases hq; exact k9
    | 10, hq => cases hq; exact k10
    | 11, hq => cases hq; exact k11
    | k + 12, hq => cases hq
  · match k, hq with
    | 0, hq => cases hq; exact ⟨p0, q0⟩
    | 1, hq => cases hq; exact ⟨p1, q1⟩
    | 2, hq => cases hq; exact ⟨p2, q2⟩
    | 3, hq => cases hq; exact ⟨p3, q3⟩
    | 4, hq => cases hq; exact ⟨p4, q4⟩
    | 5, hq => cases hq; exact ⟨p5, q5⟩
    | k + 6, hq => cases hq
