set_option maxRecDepth 100000 in
set_option maxHeartbeats 4000000 in
/-- isShelf -/
theorem ct_X12_isShelfI {E : aG} (l : Launch) (d : Int32) {ci : Nat → Nat → Int32} {cl : Nat → Nat → Int64} {cr : Nat → Nat → Option Nat} {dy : aM} {nx : Nat}  : CT E l yX12_isShelf cX12_isShelf 1 (some .boolean) 0 [.int d] (mm ci cl cr dy) nx 0 0 (fun r M' nx' => r = some (.int (bI (AI 8 d))) ∧ M' = mm ci cl cr dy ∧ nx = nx') := by
  refine CT_intro (by decide) (Nat.le_of_ble_eq_true rfl) (fun Γ hΓ hQ => ?_)
  replace hΓ : CK E RX12 cX12_isShelf 1 (some .boolean) "isShelf" 0 0 0 Γ := hΓ
  show SV E Γ 1 (mm ci cl cr dy) nx 0 0 0 [(0, .int d)] []
  refine sv_iload_n hΓ dX12_isShelf_0 rfl 0 rfl rfl ?_
  refine sv_if_lt (tgt := 14) hΓ dX12_isShelf_1 (by decide) rfl (fun u1 => ?_) (fun u1 => ?_)
  · refine sv_iconst (v := 0) hΓ dX12_isShelf_14 (by decide) rfl ?_
    exact sv_zret hΓ hQ dX12_isShelf_15 (Nat.le_of_ble_eq_true rfl) (Nat.le_of_ble_eq_true rfl) rfl ⟨by rw [← bI_iff sh_i]; simp [bI, u1], rfl, rfl⟩
  · refine sv_iload_n hΓ dX12_isShelf_4 rfl 0 rfl rfl ?_
    refine sv_bipush (v := 8) hΓ dX12_isShelf_5 (by decide) rfl ?_
    refine sv_icmp_ge (tgt := 14) hΓ dX12_isShelf_7 (by decide) rfl (fun u2 => ?_) (fun u2 => ?_)
    · refine sv_iconst (v := 0) hΓ dX12_isShelf_14 (by decide) rfl ?_
      exact sv_zret hΓ hQ dX12_isShelf_15 (Nat.le_of_ble_eq_true rfl) (Nat.le_of_ble_eq_true rfl) rfl ⟨by rw [← bI_iff sh_i]; simp [bI, u1, u2], rfl, rfl⟩
    · refine sv_iconst (v := 1) hΓ dX12_isShelf_10 (by decide) rfl ?_
      refine sv_goto (pc' := 15) hΓ dX12_isShelf_11 (by decide) ?_
      exact sv_zret hΓ hQ dX12_isShelf_15 (Nat.le_of_ble_eq_true rfl) (Nat.le_of_ble_eq_true rfl) rfl ⟨by rw [← bI_iff sh_i]; simp [bI, u1, u2], rfl, rfl⟩
set_option maxRecDepth 100000 in
set_option maxHeartbeats 4000000 in
/-- denied -/
theorem ct_X12_denied {E : aG} (l : Launch) (d : Int32) {ci : Nat → Nat → Int32} {cl : Nat → Nat → Int64} {cr : Nat → Nat → Option Nat} {dy : aM} {nx : Nat}  : CT E l yX12_denied cX12_denied 2 (some .int) 1 [.ref 43, .int d] (mm ci cl cr dy) nx 0 0 (fun r M' nx' => (¬ AI 8 d ∧ r = some (.int (-1)) ∧ M' = mm ci cl cr dy ∧ nx = nx') ∨ (∃ e, e < 8 ∧ d = nI e ∧ ((ci 67 e = 0 ∧ r = some (.int (-11)) ∧ M' = mm ci cl cr dy ∧ nx = nx') ∨ (¬ ci 67 e = 0 ∧ ¬ ci 67 e ≤ 1 ∧ r = some (.int (-12)) ∧ M' = mm ci cl cr dy ∧ nx = nx') ∨ (¬ ci 67 e = 0 ∧ ci 67 e ≤ 1 ∧ r = some (.int 0) ∧ M' = mm ci cl cr dy ∧ nx = nx')))) := by
  refine CT_intro (by decide) (Nat.le_of_ble_eq_true rfl) (fun Γ hΓ hQ => ?_)
  replace hΓ : CK E RX12 cX12_denied 2 (some .int) "denied" 1 0 0 Γ := hΓ
  show SV E Γ 2 (mm ci cl cr dy) nx 0 0 0 [(0, .ref 43), (1, .int d)] []
  refine sv_iload_n hΓ dX12_denied_0 rfl 1 rfl rfl ?_
  refine sv_callS hΓ (fun l => ct_X12_isShelfI l d ) wv_X12_272 tb_1323 rfl rfl (by decide) (Nat.le_of_ble_eq_true rfl) (Nat.le_of_ble_eq_true rfl) (Nat.le_of_ble_eq_true rfl) dX12_denied_1 rfl (fun r M' nx' p1 => ?_)
  obtain ⟨rfl, rfl, rfl⟩ := p1
  show SV E Γ 2 (mm ci cl cr dy) nx 0 0 4 [(0, .ref 43), (1, .int d)] [.int (bI (AI 8 d))]
  refine sv_if_ne (tgt := 11) hΓ dX12_denied_4 (by decide) rfl (fun u2 => ?_) (fun u2 => ?_)
  · replace u2 := bI_ne.mp u2
    have hd := u2
    obtain ⟨e, he, ed⟩ := AI.k u2
    refine sv_aload_n hΓ dX12_denied_11 rfl 0 rfl rfl ?_
    refine g_X12_81_43 hΓ dX12_denied_12 rfl ?_
    refine sv_iload_n hΓ dX12_denied_15 rfl 1 rfl rfl ?_
    refine ai_67 hΓ (e) ed he dX12_denied_16 rfl ?_
    refine sv_if_ne (tgt := 25) hΓ dX12_denied_17 (by decide) rfl (fun u3 => ?_) (fun u3 => ?_)
    · refine sv_aload_n hΓ dX12_denied_25 rfl 0 rfl rfl ?_
      refine g_X12_81_43 hΓ dX12_denied_26 rfl ?_
      refine sv_iload_n hΓ dX12_denied_29 rfl 1 rfl rfl ?_
      refine ai_67 hΓ (e) ed he dX12_denied_30 rfl ?_
      refine sv_iconst (v := 1) hΓ dX12_denied_31 (by decide) rfl ?_
      refine sv_icmp_le (tgt := 40) hΓ dX12_denied_32 (by decide) rfl (fun u4 => ?_) (fun u4 => ?_)
      · refine sv_iconst (v := 0) hΓ dX12_denied_40 (by decide) rfl ?_
        exact sv_iret hΓ hQ dX12_denied_41 (Nat.le_of_ble_eq_true rfl) (Nat.le_of_ble_eq_true rfl) (Or.inr ⟨e, he, ed, Or.inr (Or.inr ⟨u3, u4, rfl, rfl, rfl⟩)⟩)
      · refine sv_bipush (v := (-12)) hΓ dX12_denied_35 (by decide) rfl ?_
        refine sv_goto (pc' := 41) hΓ dX12_denied_37 (by decide) ?_
        exact sv_iret hΓ hQ dX12_denied_41 (Nat.le_of_ble_eq_true rfl) (Nat.le_of_ble_eq_true rfl) (Or.inr ⟨e, he, ed, Or.inr (Or.inl ⟨u3, u4, rfl, rfl, rfl⟩)⟩)
    · refine sv_bipush (v := (-11)) hΓ dX12_denied_20 (by decide) rfl ?_
      refine sv_goto (pc' := 41) hΓ dX12_denied_22 (by decide) ?_
      exact sv_iret hΓ hQ dX12_denied_41 (Nat.le_of_ble_eq_true rfl) (Nat.le_of_ble_eq_true rfl) (Or.inr ⟨e, he, ed, Or.inl ⟨u3, rfl, rfl, rfl⟩⟩)
  · replace u2 := bI_0.mp u2
    refine sv_iconst (v := (-1)) hΓ dX12_denied_7 (by decide) rfl ?_
    refine sv_goto (pc' := 41) hΓ dX12_denied_8 (by decide) ?_
    exact sv_iret hΓ hQ dX12_denied_41 (Nat.le_of_ble_eq_true rfl) (Nat.le_of_ble_eq_true rfl) (Or.inl ⟨u2, rfl, rfl, rfl⟩)
set_option maxRecDepth 100000 in
set_option maxHeartbeats 4000000 in
/-- weight -/
theorem ct_X12_weight {E : aG} (l : Launch) (d : Int32) {ci : Nat → Nat → Int32} {cl : Nat → Nat → Int64} {cr : Nat → Nat → Option Nat} {dy : aM} {nx : Nat}  : CT E l yX12_weight cX12_weight 3 (some .int) 2 [.ref 43, .int d] (mm ci cl cr dy) nx 0 0 (fun r M' nx' => (¬ AI 8 d ∧ r = some (.int (-1)) ∧ M' = mm (up2 ci 43 0 0) cl cr dy ∧ nx = nx') ∨ (∃ e, e < 8 ∧ d = nI e ∧ (((up2 ci 43 0 0) 67 e = 0 ∧ r = some (.int (-11)) ∧ M' = mm (up2 ci 43 0 0) cl cr dy ∧ nx = nx') ∨ (¬ (up2 ci 43 0 0) 67 e = 0 ∧ ¬ (up2 ci 43 0 0) 67 e ≤ 1 ∧ r = some (.int (-12)) ∧ M' = mm (up2 ci 43 0 0) cl cr dy ∧ nx = nx') ∨ (¬ (up2 ci 43 0 0) 67 e = 0 ∧ (up2 ci 43 0 0) 67 e ≤ 1 ∧ r = some (.int ((up2 ci 43 0 0) 69 e)) ∧ M' = mm (up2 ci 43 0 0) cl cr dy ∧ nx = nx')))) := by
  refine CT_intro (by decide) (Nat.le_of_ble_eq_true rfl) (fun Γ hΓ hQ => ?_)
  replace hΓ : CK E RX12 cX12_weight 3 (some .int) "weight" 2 0 0 Γ := hΓ
  show SV E Γ 3 (mm ci cl cr dy) nx 0 0 0 [(0, .ref 43), (1, .int d)] []
  refine sv_aload_n hΓ dX12_weight_0 rfl 0 rfl rfl ?_
  refine sv_iconst (v := 0) hΓ dX12_weight_1 (by decide) rfl ?_
  refine p_X12_99_43 hΓ dX12_weight_2 rfl ?_
  generalize hc0 : up2 ci 43 0 0 = c0 at hQ ⊢
  refine sv_aload_n hΓ dX12_weight_5 rfl 0 rfl rfl ?_
  refine sv_iload_n hΓ dX12_weight_6 rfl 1 rfl rfl ?_
  refine sv_callV hΓ (fun l => ct_X12_denied l d ) wv_X12_281 vs_X12_denied rfl m_43 rfl rfl (by decide) (Nat.le_of_ble_eq_true rfl) (Nat.le_of_ble_eq_true rfl) (Nat.le_of_ble_eq_true rfl) dX12_weight_7 rfl (fun r M' nx' p1 => ?_)
  rcases p1 with ⟨h0, rfl, rfl, rfl⟩ | ⟨e, he, ed, ⟨h1, rfl, rfl, rfl⟩ | ⟨h1, h2, rfl, rfl, rfl⟩ | ⟨h1, h2, rfl, rfl, rfl⟩⟩
  · show SV E Γ 3 (mm c0 cl cr dy) nx 0 0 10 [(0, .ref 43), (1, .int d)] [.int ((-1))]
    refine sv_istore_n (lv' := [(2, .int ((-1))), (0, .ref 43), (1, .int d)]) hΓ dX12_weight_10 rfl (by decide) rfl rfl ?_
    refine sv_iload_n hΓ dX12_weight_11 rfl 0 rfl rfl ?_
    refine sv_if_ge (tgt := 19) hΓ dX12_weight_12 (by decide) rfl (fun u2 => absurd u2 (by decide)) (fun u2 => ?_)
    replace u2 : ¬ (0 ≤ (((-1)) : Int32)) := u2
    refine sv_iload_n hΓ dX12_weight_15 rfl 0 rfl rfl ?_
    refine sv_goto (pc' := 25) hΓ dX12_weight_16 (by decide) ?_
    exact sv_iret hΓ hQ dX12_weight_25 (Nat.le_of_ble_eq_true rfl) (Nat.le_of_ble_eq_true rfl) (Or.inl ⟨h0, rfl, rfl, rfl⟩)
  · show SV E Γ 3 (mm c0 cl cr dy) nx 0 0 10 [(0, .ref 43), (1, .int d)] [.int ((-11))]
    refine sv_istore_n (lv' := [(2, .int ((-11))), (0, .ref 43), (1, .int d)]) hΓ dX12_weight_10 rfl (by decide) rfl rfl ?_
    refine sv_iload_n hΓ dX12_weight_11 rfl 0 rfl rfl ?_
    refine sv_if_ge (tgt := 19) hΓ dX12_weight_12 (by decide) rfl (fun u3 => absurd u3 (by decide)) (fun u3 => ?_)
    replace u3 : ¬ (0 ≤ (((-11)) : Int32)) := u3
    refine sv_iload_n hΓ dX12_weight_15 rfl 0 rfl rfl ?_
    refine sv_goto (pc' := 25) hΓ dX12_weight_16 (by decide) ?_
    exact sv_iret hΓ hQ dX12_weight_25 (Nat.le_of_ble_eq_true rfl) (Nat.le_of_ble_eq_true rfl) (Or.inr ⟨e, he, ed, Or.inl ⟨h1, rfl, rfl, rfl⟩⟩)
  · show SV E Γ 3 (mm c0 cl cr dy) nx 0 0 10 [(0, .ref 43), (1, .int d)] [.int ((-12))]
    refine sv_istore_n (lv' := [(2, .int ((-12))), (0, .ref 43), (1, .int d)]) hΓ dX12_weight_10 rfl (by decide) rfl rfl ?_
    refine sv_iload_n hΓ dX12_weight_11 rfl 0 rfl rfl ?_
    refine sv_if_ge (tgt := 19) hΓ dX12_weight_12 (by decide) rfl (fun u4 => absurd u4 (by decide)) (fun u4 => ?_)
    replace u4 : ¬ (0 ≤ (((-12)) : Int32)) := u4
    refine sv_iload_n hΓ dX12_weight_15 rfl 0 rfl rfl ?_
    refine sv_goto (pc' := 25) hΓ dX12_weight_16 (by decide) ?_
    exact sv_iret hΓ hQ dX12_weight_25 (Nat.le_of_ble_eq_true rfl) (Nat.le_of_ble_eq_true rfl) (Or.inr ⟨e, he, ed, Or.inr (Or.inl ⟨h1, h2, rfl, rfl, rfl⟩)⟩)
  · show SV E Γ 3 (mm c0 cl cr dy) nx 0 0 10 [(0, .ref 43), (1, .int d)] [.int 0]
    refine sv_istore_n (lv' := [(2, .int 0), (0, .ref 43), (1, .int d)]) hΓ dX12_weight_10 rfl (by decide) rfl rfl ?_
    refine sv_iload_n hΓ dX12_weight_11 rfl 0 rfl rfl ?_
    refine sv_if_ge (tgt := 19) hΓ dX12_weight_12 (by decide) rfl (fun u5 => ?_) (fun u5 => absurd (by decide) u5)
    replace u5 : 0 ≤ (0 : Int32) := u5
    refine sv_aload_n hΓ dX12_weight_19 rfl 1 rfl rfl ?_
    refine g_X12_87_43 hΓ dX12_weight_20 rfl ?_
    refine sv_iload_n hΓ dX12_weight_23 rfl 2 rfl rfl ?_
    refine ai_69 hΓ (e) ed he dX12_weight_24 rfl ?_
    exact sv_iret hΓ hQ dX12_weight_25 (Nat.le_of_ble_eq_true rfl) (Nat.le_of_ble_eq_true rfl) (Or.inr ⟨e, he, ed, Or.inr (Or.inr ⟨h1, h2, rfl, rfl, rfl⟩)⟩)
set_option maxRecDepth 100000 in
set_option maxHeartbeats 4000000 in
/-- toss -/
theorem ct_X12_toss {E : aG} (l : Launch) (d : Int32) {ci : Nat → Nat → Int32} {cl : Nat → Nat → Int64} {cr : Nat → Nat → Option Nat} {dy : aM} {nx : Nat}  : CT E l yX12_toss cX12_toss 3 (some .int) 2 [.ref 43, .int d] (mm ci cl cr dy) nx 0 0 (fun r M' nx' => (¬ AI 8 d ∧ r = some (.int (-1)) ∧ M' = mm (up2 ci 43 0 0) cl cr dy ∧ nx = nx') ∨ (∃ e, e < 8 ∧ d = nI e ∧ (((up2 ci 43 0 0) 67 e = 0 ∧ r = some (.int (-11)) ∧ M' = mm (up2 ci 43 0 0) cl cr dy ∧ nx = nx') ∨ (¬ (up2 ci 43 0 0) 67 e = 0 ∧ ¬ (up2 ci 43 0 0) 67 e ≤ 1 ∧ r = some (.int (-12)) ∧ M' = mm (up2 ci 43 0 0) cl cr dy ∧ nx = nx') ∨ (¬ (up2 ci 43 0 0) 67 e = 0 ∧ (up2 ci 43 0 0) 67 e ≤ 1 ∧ r = some (.int ((up2 ci 43 0 0) 70 e)) ∧ M' = mm (up2 ci 43 0 0) cl cr dy ∧ nx = nx')))) := by
  refine CT_intro (by decide) (Nat.le_of_ble_eq_true rfl) (fun Γ hΓ hQ => ?_)
  replace hΓ : CK E RX12 cX12_toss 3 (some .int) "toss" 2 0 0 Γ := hΓ
  show SV E Γ 3 (mm ci cl cr dy) nx 0 0 0 [(0, .ref 43), (1, .int d)] []
  refine sv_aload_n hΓ dX12_toss_0 rfl 0 rfl rfl ?_
  refine sv_iconst (v := 0) hΓ dX12_toss_1 (by decide) rfl ?_
  refine p_X12_99_43 hΓ dX12_toss_2 rfl ?_
  generalize hc0 : up2 ci 43 0 0 = c0 at hQ ⊢
  refine sv_aload_n hΓ dX12_toss_5 rfl 0 rfl rfl ?_
  refine sv_iload_n hΓ dX12_toss_6 rfl 1 rfl rfl ?_
  refine sv_callV hΓ (fun l => ct_X12_denied l d ) wv_X12_281 vs_X12_denied rfl m_43 rfl rfl (by decide) (Nat.le_of_ble_eq_true rfl) (Nat.le_of_ble_eq_true rfl) (Nat.le_of_ble_eq_true rfl) dX12_toss_7 rfl (fun r M' nx' p1 => ?_)
  rcases p1 with ⟨h0, rfl, rfl, rfl⟩ | ⟨e, he, ed, ⟨h1, rfl, rfl, rfl⟩ | ⟨h1, h2, rfl, rfl, rfl⟩ | ⟨h1, h2, rfl, rfl, rfl⟩⟩
  · show SV E Γ 3 (mm c0 cl cr dy) nx 0 0 10 [(0, .ref 43), (1, .int d)] [.int ((-1))]
    refine sv_istore_n (lv' := [(2, .int ((-1))), (0, .ref 43), (1, .int d)]) hΓ dX12_toss_10 rfl (by decide) rfl rfl ?_
    refine sv_iload_n hΓ dX12_toss_11 rfl 0 rfl rfl ?_
    refine sv_if_ge (tgt := 19) hΓ dX12_toss_12 (by decide) rfl (fun u2 => absurd u2 (by decide)) (fun u2 => ?_)
    replace u2 : ¬ (0 ≤ (((-1)) : Int32)) := u2
    refine sv_iload_n hΓ dX12_toss_15 rfl 0 rfl rfl ?_
    refine sv_goto (pc' := 25) hΓ dX12_toss_16 (by decide) ?_
    exact sv_iret hΓ hQ dX12_toss_25 (Nat.le_of_ble_eq_true rfl) (Nat.le_of_ble_eq_true rfl) (Or.inl ⟨h0, rfl, rfl, rfl⟩)
  · show SV E Γ 3 (mm c0 cl cr dy) nx 0 0 10 [(0, .ref 43), (1, .int d)] [.int ((-11))]
    refine sv_istore_n (lv' := [(2, .int ((-11))), (0, .ref 43), (1, .int d)]) hΓ dX12_toss_10 rfl (by decide) rfl rfl ?_
    refine sv_iload_n hΓ dX12_toss_11 rfl 0 rfl rfl ?_
    refine sv_if_ge (tgt := 19) hΓ dX12_toss_12 (by decide) rfl (fun u3 => absurd u3 (by decide)) (fun u3 => ?_)
    replace u3 : ¬ (0 ≤ (((-11)) : Int32)) := u3
    refine sv_iload_n hΓ dX12_toss_15 rfl 0 rfl rfl ?_
    refine sv_goto (pc' := 25) hΓ dX12_toss_16 (by decide) ?_
    exact sv_iret hΓ hQ dX12_toss_25 (Nat.le_of_ble_eq_true rfl) (Nat.le_of_ble_eq_true rfl) (Or.inr ⟨e, he, ed, Or.inl ⟨h1, rfl, rfl, rfl⟩⟩)
  · show SV E Γ 3 (mm c0 cl cr dy) nx 0 0 10 [(0, .ref 43), (1, .int d)] [.int ((-12))]
    refine sv_istore_n (lv' := [(2, .int ((-12))), (0, .ref 43), (1, .int d)]) hΓ dX12_toss_10 rfl (by decide) rfl rfl ?_
    refine sv_iload_n hΓ dX12_toss_11 rfl 0 rfl rfl ?_
    refine sv_if_ge (tgt := 19) hΓ dX12_toss_12 (by decide) rfl (fun u4 => absurd u4 (by decide)) (fun u4 => ?_)
    replace u4 : ¬ (0 ≤ (((-12)) : Int32)) := u4
    refine sv_iload_n hΓ dX12_toss_15 rfl 0 rfl rfl ?_
    refine sv_goto (pc' := 25) hΓ dX12_toss_16 (by decide) ?_
    exact sv_iret hΓ hQ dX12_toss_25 (Nat.le_of_ble_eq_true rfl) (Nat.le_of_ble_eq_true rfl) (Or.inr ⟨e, he, ed, Or.inr (Or.inl ⟨h1, h2, rfl, rfl, rfl⟩)⟩)
  · show SV E Γ 3 (mm c0 cl cr dy) nx 0 0 10 [(0, .ref 43), (1, .int d)] [.int 0]
    refine sv_istore_n (lv' := [(2, .int 0), (0, .ref 43), (1, .int d)]) hΓ dX12_toss_10 rfl (by decide) rfl rfl ?_
    refine sv_iload_n hΓ dX12_toss_11 rfl 0 rfl rfl ?_
    refine sv_if_ge (tgt := 19) hΓ dX12_toss_12 (by decide) rfl (fun u5 => ?_) (fun u5 => absurd (by decide) u5)
    replace u5 : 0 ≤ (0 : Int32) := u5
    refine sv_aload_n hΓ dX12_toss_19 rfl 1 rfl rfl ?_
    refine g_X12_90_43 hΓ dX12_toss_20 rfl ?_
    refine sv_iload_n hΓ dX12_toss_23 rfl 2 rfl rfl ?_
    refine ai_70 hΓ (e) ed he dX12_toss_24 rfl ?_
    exact sv_iret hΓ hQ dX12_toss_25 (Nat.le_of_ble_eq_true rfl) (Nat.le_of_ble_eq_true rfl) (Or.inr ⟨e, he, ed, Or.inr (Or.inr ⟨h1, h2, rfl, rfl, rfl⟩)⟩)
set_option maxRecDepth 100000 in
set_option maxHeartbeats 4000000 in
/-- make -/
theorem ct_X12_make {E : aG} (l : Launch) (d : Int32) (m : Int32) (k : Int32) {ci : Nat → Nat → Int32} {cl : Nat → Nat → Int64} {cr : Nat → Nat → Option Nat} {dy : aM} {nx : Nat}  : CT E l yX12_make cX12_make 5 (some .int) 1 [.ref 43, .int d, .int m, .int k] (mm ci cl cr dy) nx 0 0 (fun r M' nx' => (¬ (AI 8 d ∧ II 3 4 m ∧ k ≤ 60) ∧ r = some (.int (-1)) ∧ M' = mm (up2 ci 43 0 0) cl cr dy ∧ nx = nx') ∨ ((AI 8 d ∧ II 3 4 m ∧ k ≤ 60) ∧ ((¬ 0 ≤ k ∧ r = some (.int (-14)) ∧ M' = mm (up2 ci 43 0 0) cl cr dy ∧ nx = nx') ∨ (∃ e j, e < 8 ∧ j ≤ 60 ∧ d = nI e ∧ k = nI j ∧ r = some (.int 0) ∧ M' = mm (up2 (up2 (up2 ci 43 0 0) 67 e m) 68 e (nI j)) (rwC cl (60 * e) (fun _ => 0) j) cr dy ∧ nx = nx')))) := by
  refine CT_intro (by decide) (Nat.le_of_ble_eq_true rfl) (fun Γ hΓ hQ => ?_)
  replace hΓ : CK E RX12 cX12_make 5 (some .int) "make" 1 0 0 Γ := hΓ
  show SV E Γ 5 (mm ci cl cr dy) nx 0 0 0 [(0, .ref 43), (1, .int d), (2, .int m), (3, .int k)] []
  refine sv_aload_n hΓ dX12_make_0 rfl 0 rfl rfl ?_
  refine sv_iconst (v := 0) hΓ dX12_make_1 (by decide) rfl ?_
  refine p_X12_99_43 hΓ dX12_make_2 rfl ?_
  generalize hc0 : up2 ci 43 0 0 = c0 at hQ ⊢
  refine sv_iload_n hΓ dX12_make_5 rfl 1 rfl rfl ?_
  refine sv_callS hΓ (fun l => ct_X12_isShelfI l d ) wv_X12_272 tb_1323 rfl rfl (by decide) (Nat.le_of_ble_eq_true rfl) (Nat.le_of_ble_eq_true rfl) (Nat.le_of_ble_eq_true rfl) dX12_make_6 rfl (fun r M' nx' p1 => ?_)
  obtain ⟨rfl, rfl, rfl⟩ := p1
  show SV E Γ 5 (mm c0 cl cr dy) nx 0 0 9 [(0, .ref 43), (1, .int d), (2, .int m), (3, .int k)] [.int (bI (AI 8 d))]
  refine sv_if_eq (tgt := 32) hΓ dX12_make_9 (by decide) rfl (fun u2 => ?_) (fun u2 => ?_)
  · replace u2 := bI_0.mp u2
    refine sv_iconst (v := (-1)) hΓ dX12_make_32 (by decide) rfl ?_
    exact sv_iret hΓ hQ dX12_make_33 (Nat.le_of_ble_eq_true rfl) (Nat.le_of_ble_eq_true rfl) (Or.inl ⟨by grind, rfl, rfl, rfl⟩)
  · replace u2 := bI_ne.mp u2
    obtain ⟨e, he, ed⟩ := AI.k u2
    subst ed
    refine sv_iload_n hΓ dX12_make_12 rfl 2 rfl rfl ?_
    refine sv_i2l hΓ dX12_make_13 rfl rfl ?_
    refine sv_ldc2 hΓ dX12_make_14 tb_1097 rfl ?_
    refine sv_ldc2 hΓ dX12_make_17 tb_1124 rfl ?_
    refine sv_callS hΓ (fun l => ct_X12_isInI l m 3 4 3 4 (by decide) (by decide) rfl rfl) wv_X12_118 tb_1080 rfl rfl (by decide) (Nat.le_of_ble_eq_true rfl) (Nat.le_of_ble_eq_true rfl) (Nat.le_of_ble_eq_true rfl) dX12_make_20 rfl (fun r M' nx' p3 => ?_)
    obtain ⟨rfl, rfl, rfl⟩ := p3
    show SV E Γ 5 (mm c0 cl cr dy) nx 0 0 23 [(0, .ref 43), (1, .int (nI e)), (2, .int m), (3, .int k)] [.int (bI (II 3 4 m))]
    refine sv_if_eq (tgt := 32) hΓ dX12_make_23 (by decide) rfl (fun u4 => ?_) (fun u4 => ?_)
    · replace u4 := bI_0.mp u4
      refine sv_iconst (v := (-1)) hΓ dX12_make_32 (by decide) rfl ?_
      exact sv_iret hΓ hQ dX12_make_33 (Nat.le_of_ble_eq_true rfl) (Nat.le_of_ble_eq_true rfl) (Or.inl ⟨by grind, rfl, rfl, rfl⟩)
    · replace u4 := bI_ne.mp u4
      have hm := u4
      refine sv_iload_n hΓ dX12_make_26 rfl 3 rfl rfl ?_
      refine sv_bipush (v := 60) hΓ dX12_make_27 (by decide) rfl ?_
      refine sv_icmp_le (tgt := 34) hΓ dX12_make_29 (by decide) rfl (fun u5 => ?_) (fun u5 => ?_)
      · replace u5 : (k : Int32) ≤ 60 := u5
        have hk := u5
        refine sv_iload_n hΓ dX12_make_34 rfl 3 rfl rfl ?_
        refine sv_if_ge (tgt := 41) hΓ dX12_make_35 (by decide) rfl (fun u6 => ?_) (fun u6 => ?_)
        · replace u6 : 0 ≤ (k : Int32) := u6
          obtain ⟨j, hj, ej⟩ := nn_k u6 hk
          subst ej
          refine sv_aload_n hΓ dX12_make_41 rfl 0 rfl rfl ?_
          refine g_X12_81_43 hΓ dX12_make_42 rfl ?_
          refine sv_iload_n hΓ dX12_make_45 rfl 1 rfl rfl ?_
          refine sv_iload_n hΓ dX12_make_46 rfl 2 rfl rfl ?_
          refine as_67 hΓ (e) rfl (by omega) dX12_make_47 rfl ?_
          refine sv_aload_n hΓ dX12_make_48 rfl 0 rfl rfl ?_
          refine g_X12_84_43 hΓ dX12_make_49 rfl ?_
          refine sv_iload_n hΓ dX12_make_52 rfl 1 rfl rfl ?_
          refine sv_iload_n hΓ dX12_make_53 rfl 3 rfl rfl ?_
          refine as_68 hΓ (e) rfl (by omega) dX12_make_54 rfl ?_
          refine sv_iconst (v := 0) hΓ dX12_make_55 (by decide) rfl ?_
          refine sv_istore (lv' := [(4, .int 0), (0, .ref 43), (1, .int (nI e)), (2, .int m), (3, .int (nI j))]) hΓ dX12_make_56 (by decide) rfl rfl ?_
          have LP58 : ∀ kq i : Nat, i + kq = j → SV E Γ 5 (mm (up2 (up2 c0 67 e m) 68 e (nI j)) (rwC cl (60 * e) (fun _ => 0) i) cr dy) nx 0 0 58 [(4, .int (nI i)), (0, .ref 43), (1, .int (nI e)), (2, .int m), (3, .int (nI j))] [] := by
            intro kq
            induction kq with
            | zero =>
              intro i ha
              have ea : i = j := by omega
              obtain rfl : j = i := by omega
              refine sv_iload hΓ dX12_make_58 0 rfl rfl ?_
              refine sv_iload_n hΓ dX12_make_60 rfl 4 rfl rfl ?_
              refine sv_icmp_ge (tgt := 83) hΓ dX12_make_61 (by decide) rfl (fun u7 => ?_) (fun u7 => absurd (nI_le (by omega) (by omega)) u7)
              replace u7 : (nI j) ≤ ((nI j) : Int32) := u7
              refine sv_iconst (v := 0) hΓ dX12_make_83 (by decide) rfl ?_
              exact sv_iret hΓ hQ dX12_make_84 (Nat.le_of_ble_eq_true rfl) (Nat.le_of_ble_eq_true rfl) (Or.inr ⟨⟨(AI_nI (by omega)).mpr he, hm, hk⟩, Or.inr ⟨e, j, he, hj, rfl, rfl, rfl, rfl, rfl⟩⟩)
            | succ kq ih =>
              intro i ha
              refine sv_iload hΓ dX12_make_58 0 rfl rfl ?_
              refine sv_iload_n hΓ dX12_make_60 rfl 4 rfl rfl ?_
              refine sv_icmp_ge (tgt := 83) hΓ dX12_make_61 (by decide) rfl (fun u8 => absurd u8 (nI_ge (by omega) (by omega))) (fun u8 => ?_)
              replace u8 : ¬ ((nI j) ≤ ((nI i) : Int32)) := u8
              refine sv_aload_n hΓ dX12_make_64 rfl 1 rfl rfl ?_
              refine g_X12_93_43 hΓ dX12_make_65 rfl ?_
              refine sv_bipush (v := 60) hΓ dX12_make_68 (by decide) rfl ?_
              refine sv_iload_n hΓ dX12_make_70 rfl 2 rfl rfl ?_
              refine sv_imulE (v := nI (60 * e)) hΓ dX12_make_71 (nx_mul rfl rfl) rfl ?_
              refine sv_iload hΓ dX12_make_72 0 rfl rfl ?_
              refine sv_iaddE (v := nI (60 * e + i)) hΓ dX12_make_74 (nx_add rfl rfl) rfl ?_
              refine sv_lconst (v := 0) hΓ dX12_make_75 (by decide) rfl ?_
              refine at_71 hΓ (60 * e + i) rfl (by omega) dX12_make_76 rfl ?_
              refine sv_iinc (v := nI (i + 1)) (lv' := [(4, .int (nI (i + 1))), (0, .ref 43), (1, .int (nI e)), (2, .int m), (3, .int (nI j))]) hΓ dX12_make_77 0 rfl (nx_inc rfl) (by decide) rfl rfl ?_
              refine sv_goto (pc' := 58) hΓ dX12_make_80 (by decide) ?_
              have q := ih (i + 1) (by omega)
              exact SV_lv [0, 1, 2, 3, 4] rfl q
          exact SV_lv [0, 1, 2, 3, 4] rfl (LP58 j 0 (by omega))
        · replace u6 : ¬ (0 ≤ (k : Int32)) := u6
          refine sv_bipush (v := (-14)) hΓ dX12_make_38 (by decide) rfl ?_
          exact sv_iret hΓ hQ dX12_make_40 (Nat.le_of_ble_eq_true rfl) (Nat.le_of_ble_eq_true rfl) (Or.inr ⟨⟨(AI_nI (by omega)).mpr he, hm, hk⟩, Or.inl ⟨by grind, rfl, rfl, rfl⟩⟩)
      · replace u5 : ¬ ((k : Int32) ≤ 60) := u5
        refine sv_iconst (v := (-1)) hΓ dX12_make_32 (by decide) rfl ?_
        exact sv_iret hΓ hQ dX12_make_33 (Nat.le_of_ble_eq_true rfl) (Nat.le_of_ble_eq_true rfl) (Or.inl ⟨by grind, rfl, rfl, rfl⟩)
set_option maxRecDepth 100000 in
set_option maxHeartbeats 4000000 in
/-- element -/
theorem ct_X12_element {E : aG} (l : Launch) (d : Int32) (i : Int32) {ci : Nat → Nat → Int32} {cl : Nat → Nat → Int64} {cr : Nat → Nat → Option Nat} {dy : aM} {nx : Nat} (hsz : ∀ e, e < 8 → ∃ v, v ≤ 60 ∧ ci 68 e = nI v) : CT E l yX12_element cX12_element 4 (some .long) 1 [.ref 43, .int d, .int i] (mm ci cl cr dy) nx 0 0 (fun r M' nx' => (¬ AI 8 d ∧ r = some (.long (0)) ∧ M' = mm (up2 ci 43 0 1) cl cr dy ∧ nx = nx') ∨ (∃ e v, e < 8 ∧ v ≤ 60 ∧ ci 68 e = nI v ∧ d = nI e ∧ ¬ (¬ ci 67 e ≤ 2 ∧ AI v i) ∧ r = some (.long 0) ∧ M' = mm (up2 ci 43 0 2) cl cr dy ∧ nx = nx') ∨ (∃ e v j, e < 8 ∧ v ≤ 60 ∧ ci 68 e = nI v ∧ d = nI e ∧ i = nI j ∧ j < v ∧ ¬ ci 67 e ≤ 2 ∧ r = some (.long (cl 71 (60 * e + j))) ∧ M' = mm (up2 ci 43 0 0) cl cr dy ∧ nx = nx')) := by
  refine CT_intro (by decide) (Nat.le_of_ble_eq_true rfl) (fun Γ hΓ hQ => ?_)
  replace hΓ : CK E RX12 cX12_element 4 (some .long) "element" 1 0 0 Γ := hΓ
  show SV E Γ 4 (mm ci cl cr dy) nx 0 0 0 [(0, .ref 43), (1, .int d), (2, .int i)] []
  refine sv_iload_n hΓ dX12_element_0 rfl 1 rfl rfl ?_
  refine sv_callS hΓ (fun l => ct_X12_isShelfI l d ) wv_X12_272 tb_1323 rfl rfl (by decide) (Nat.le_of_ble_eq_true rfl) (Nat.le_of_ble_eq_true rfl) (Nat.le_of_ble_eq_true rfl) dX12_element_1 rfl (fun r M' nx' p1 => ?_)
  obtain ⟨rfl, rfl, rfl⟩ := p1
  show SV E Γ 4 (mm ci cl cr dy) nx 0 0 4 [(0, .ref 43), (1, .int d), (2, .int i)] [.int (bI (AI 8 d))]
  refine sv_if_eq (tgt := 39) hΓ dX12_element_4 (by decide) rfl (fun u2 => ?_) (fun u2 => ?_)
  · replace u2 := bI_0.mp u2
    refine sv_iconst (v := 0) hΓ dX12_element_39 (by decide) rfl ?_
    refine sv_istore_n (lv' := [(3, .int 0), (0, .ref 43), (1, .int d), (2, .int i)]) hΓ dX12_element_40 rfl (by decide) rfl rfl ?_
    refine sv_aload_n hΓ dX12_element_41 rfl 1 rfl rfl ?_
    refine sv_iload_n hΓ dX12_element_42 rfl 2 rfl rfl ?_
    refine sv_callS hΓ (fun l => ct_X12_isShelfI l d ) wv_X12_272 tb_1323 rfl rfl (by decide) (Nat.le_of_ble_eq_true rfl) (Nat.le_of_ble_eq_true rfl) (Nat.le_of_ble_eq_true rfl) dX12_element_43 rfl (fun r M' nx' p3 => ?_)
    obtain ⟨rfl, rfl, rfl⟩ := p3
    show SV E Γ 4 (mm ci cl cr dy) nx 0 0 46 [(3, .int 0), (0, .ref 43), (1, .int d), (2, .int i)] [.int (bI (AI 8 d)), .ref 43]
    refine sv_if_ne (tgt := 53) hΓ dX12_element_46 (by decide) rfl (fun u4 => absurd u4 (not_not_intro (bI_0.mpr u2))) (fun u4 => ?_)
    replace u4 := bI_0.mp u4
    refine sv_iconst (v := 1) hΓ dX12_element_49 (by decide) rfl ?_
    refine sv_goto (pc' := 62) hΓ dX12_element_50 (by decide) ?_
    refine p_X12_99_43 hΓ dX12_element_62 rfl ?_
    refine sv_iload_n hΓ dX12_element_65 rfl 0 rfl rfl ?_
    refine sv_if_eq (tgt := 83) hΓ dX12_element_66 (by decide) rfl (fun u5 => ?_) (fun u5 => absurd (by decide) u5)
    replace u5 : (0 : Int32) = 0 := u5
    refine sv_lconst (v := 0) hΓ dX12_element_83 (by decide) rfl ?_
    exact sv_lret hΓ hQ dX12_element_84 (Nat.le_of_ble_eq_true rfl) (Nat.le_of_ble_eq_true rfl) (Or.inl ⟨u2, rfl, rfl, rfl⟩)
  · replace u2 := bI_ne.mp u2
    obtain ⟨e, he, ed⟩ := AI.k u2
    subst ed
    obtain ⟨v, hv6, hv⟩ := hsz e he
    refine sv_aload_n hΓ dX12_element_7 rfl 0 rfl rfl ?_
    refine g_X12_81_43 hΓ dX12_element_8 rfl ?_
    refine sv_iload_n hΓ dX12_element_11 rfl 1 rfl rfl ?_
    refine ai_67 hΓ (e) rfl (by omega) dX12_element_12 rfl ?_
    refine sv_iconst (v := 2) hΓ dX12_element_13 (by decide) rfl ?_
    refine sv_icmp_le (tgt := 39) hΓ dX12_element_14 (by decide) rfl (fun u6 => ?_) (fun u6 => ?_)
    · refine sv_iconst (v := 0) hΓ dX12_element_39 (by decide) rfl ?_
      refine sv_istore_n (lv' := [(3, .int 0), (0, .ref 43), (1, .int (nI e)), (2, .int i)]) hΓ dX12_element_40 rfl (by decide) rfl rfl ?_
      refine sv_aload_n hΓ dX12_element_41 rfl 1 rfl rfl ?_
      refine sv_iload_n hΓ dX12_element_42 rfl 2 rfl rfl ?_
      refine sv_callS hΓ (fun l => ct_X12_isShelfI l (nI e) ) wv_X12_272 tb_1323 rfl rfl (by decide) (Nat.le_of_ble_eq_true rfl) (Nat.le_of_ble_eq_true rfl) (Nat.le_of_ble_eq_true rfl) dX12_element_43 rfl (fun r M' nx' p7 => ?_)
      obtain ⟨rfl, rfl, rfl⟩ := p7
      show SV E Γ 4 (mm ci cl cr dy) nx 0 0 46 [(3, .int 0), (0, .ref 43), (1, .int (nI e)), (2, .int i)] [.int (bI (AI 8 (nI e))), .ref 43]
      refine sv_if_ne (tgt := 53) hΓ dX12_element_46 (by decide) rfl (fun u8 => ?_) (fun u8 => absurd u8 (bI_ne.mpr u2))
      replace u8 := bI_ne.mp u8
      refine sv_iload_n hΓ dX12_element_53 rfl 0 rfl rfl ?_
      refine sv_if_eq (tgt := 61) hΓ dX12_element_54 (by decide) rfl (fun u9 => ?_) (fun u9 => absurd (by decide) u9)
      refine sv_iconst (v := 2) hΓ dX12_element_61 (by decide) rfl ?_
      refine p_X12_99_43 hΓ dX12_element_62 rfl ?_
      refine sv_iload_n hΓ dX12_element_65 rfl 0 rfl rfl ?_
      refine sv_if_eq (tgt := 83) hΓ dX12_element_66 (by decide) rfl (fun u10 => ?_) (fun u10 => absurd (by decide) u10)
      replace u10 : (0 : Int32) = 0 := u10
      refine sv_lconst (v := 0) hΓ dX12_element_83 (by decide) rfl ?_
      exact sv_lret hΓ hQ dX12_element_84 (Nat.le_of_ble_eq_true rfl) (Nat.le_of_ble_eq_true rfl) (Or.inr (Or.inl ⟨e, v, he, hv6, hv, rfl, by grind, rfl, rfl, rfl⟩))
    · refine sv_iload_n hΓ dX12_element_17 rfl 2 rfl rfl ?_
      refine sv_i2l hΓ dX12_element_18 rfl rfl ?_
      refine sv_lconst (v := 0) hΓ dX12_element_19 (by decide) rfl ?_
      refine sv_aload_n hΓ dX12_element_20 rfl 0 rfl rfl ?_
      refine g_X12_84_43 hΓ dX12_element_21 rfl ?_
      refine sv_iload_n hΓ dX12_element_24 rfl 1 rfl rfl ?_
      refine ai_68 hΓ (e) rfl (by omega) dX12_element_25 rfl ?_
      refine sv_iconst (v := 1) hΓ dX12_element_26 (by decide) rfl ?_
      refine sv_isub hΓ dX12_element_27 rfl ?_
      refine sv_i2l hΓ dX12_element_28 rfl rfl ?_
      refine sv_callS hΓ (fun l => ct_X12_isIn l (Int32.toInt64 i) 0 (Int32.toInt64 ((ci 68 e) - 1)) ) wv_X12_118 tb_1080 rfl rfl (by decide) (Nat.le_of_ble_eq_true rfl) (Nat.le_of_ble_eq_true rfl) (Nat.le_of_ble_eq_true rfl) dX12_element_29 rfl (fun r M' nx' p11 => ?_)
      obtain ⟨rfl, rfl, rfl⟩ := p11
      show SV E Γ 4 (mm ci cl cr dy) nx 0 0 32 [(0, .ref 43), (1, .int (nI e)), (2, .int i)] [.int (bI (¬ (Int32.toInt64 i) < 0 ∧ ¬ (Int32.toInt64 ((ci 68 e) - 1)) < (Int32.toInt64 i)))]
      refine sv_if_eq (tgt := 39) hΓ dX12_element_32 (by decide) rfl (fun u12 => ?_) (fun u12 => ?_)
      · replace u12 := bI_0.mp u12
        replace u12 : ¬ AI v i := mt (el_i hv hv6).mpr u12
        refine sv_iconst (v := 0) hΓ dX12_element_39 (by decide) rfl ?_
        refine sv_istore_n (lv' := [(3, .int 0), (0, .ref 43), (1, .int (nI e)), (2, .int i)]) hΓ dX12_element_40 rfl (by decide) rfl rfl ?_
        refine sv_aload_n hΓ dX12_element_41 rfl 1 rfl rfl ?_
        refine sv_iload_n hΓ dX12_element_42 rfl 2 rfl rfl ?_
        refine sv_callS hΓ (fun l => ct_X12_isShelfI l (nI e) ) wv_X12_272 tb_1323 rfl rfl (by decide) (Nat.le_of_ble_eq_true rfl) (Nat.le_of_ble_eq_true rfl) (Nat.le_of_ble_eq_true rfl) dX12_element_43 rfl (fun r M' nx' p13 => ?_)
        obtain ⟨rfl, rfl, rfl⟩ := p13
        show SV E Γ 4 (mm ci cl cr dy) nx 0 0 46 [(3, .int 0), (0, .ref 43), (1, .int (nI e)), (2, .int i)] [.int (bI (AI 8 (nI e))), .ref 43]
        refine sv_if_ne (tgt := 53) hΓ dX12_element_46 (by decide) rfl (fun u14 => ?_) (fun u14 => absurd u14 (bI_ne.mpr u2))
        replace u14 := bI_ne.mp u14
        refine sv_iload_n hΓ dX12_element_53 rfl 0 rfl rfl ?_
        refine sv_if_eq (tgt := 61) hΓ dX12_element_54 (by decide) rfl (fun u15 => ?_) (fun u15 => absurd (by decide) u15)
        refine sv_iconst (v := 2) hΓ dX12_element_61 (by decide) rfl ?_
        refine p_X12_99_43 hΓ dX12_element_62 rfl ?_
        refine sv_iload_n hΓ dX12_element_65 rfl 0 rfl rfl ?_
        refine sv_if_eq (tgt := 83) hΓ dX12_element_66 (by decide) rfl (fun u16 => ?_) (fun u16 => absurd (by decide) u16)
        replace u16 : (0 : Int32) = 0 := u16
        refine sv_lconst (v := 0) hΓ dX12_element_83 (by decide) rfl ?_
        exact sv_lret hΓ hQ dX12_element_84 (Nat.le_of_ble_eq_true rfl) (Nat.le_of_ble_eq_true rfl) (Or.inr (Or.inl ⟨e, v, he, hv6, hv, rfl, by grind, rfl, rfl, rfl⟩))
      · replace u12 := bI_ne.mp u12
        replace u12 : AI v i := (el_i hv hv6).mp u12
        refine sv_iconst (v := 1) hΓ dX12_element_35 (by decide) rfl ?_
        refine sv_goto (pc' := 40) hΓ dX12_element_36 (by decide) ?_
        refine sv_istore_n (lv' := [(3, .int 1), (0, .ref 43), (1, .int (nI e)), (2, .int i)]) hΓ dX12_element_40 rfl (by decide) rfl rfl ?_
        refine sv_aload_n hΓ dX12_element_41 rfl 1 rfl rfl ?_
        refine sv_iload_n hΓ dX12_element_42 rfl 2 rfl rfl ?_
        refine sv_callS hΓ (fun l => ct_X12_isShelfI l (nI e) ) wv_X12_272 tb_1323 rfl rfl (by decide) (Nat.le_of_ble_eq_true rfl) (Nat.le_of_ble_eq_true rfl) (Nat.le_of_ble_eq_true rfl) dX12_element_43 rfl (fun r M' nx' p17 => ?_)
        obtain ⟨rfl, rfl, rfl⟩ := p17
        show SV E Γ 4 (mm ci cl cr dy) nx 0 0 46 [(3, .int 1), (0, .ref 43), (1, .int (nI e)), (2, .int i)] [.int (bI (AI 8 (nI e))), .ref 43]
        refine sv_if_ne (tgt := 53) hΓ dX12_element_46 (by decide) rfl (fun u18 => ?_) (fun u18 => absurd u18 (bI_ne.mpr u2))
        replace u18 := bI_ne.mp u18
        refine sv_iload_n hΓ dX12_element_53 rfl 0 rfl rfl ?_
        refine sv_if_eq (tgt := 61) hΓ dX12_element_54 (by decide) rfl (fun u19 => absurd u19 (by decide)) (fun u19 => ?_)
        refine sv_iconst (v := 0) hΓ dX12_element_57 (by decide) rfl ?_
        refine sv_goto (pc' := 62) hΓ dX12_element_58 (by decide) ?_
        refine p_X12_99_43 hΓ dX12_element_62 rfl ?_
        refine sv_iload_n hΓ dX12_element_65 rfl 0 rfl rfl ?_
        refine sv_if_eq (tgt := 83) hΓ dX12_element_66 (by decide) rfl (fun u20 => absurd u20 (by decide)) (fun u20 => ?_)
        replace u20 : ¬ ((1 : Int32) = 0) := u20
        obtain ⟨j, hj, ej⟩ := AI.k u12
        subst ej
        have hsh := u6
        refine sv_aload_n hΓ dX12_element_69 rfl 1 rfl rfl ?_
        refine g_X12_93_43 hΓ dX12_element_70 rfl ?_
        refine sv_bipush (v := 60) hΓ dX12_element_73 (by decide) rfl ?_
        refine sv_iload_n hΓ dX12_element_75 rfl 2 rfl rfl ?_
        refine sv_imulE (v := nI (60 * e)) hΓ dX12_element_76 (nx_mul rfl rfl) rfl ?_
        refine sv_iload_n hΓ dX12_element_77 rfl 3 rfl rfl ?_
        refine sv_iaddE (v := nI (60 * e + j)) hΓ dX12_element_78 (nx_add rfl rfl) rfl ?_
        refine al_71 hΓ (60 * e + j) rfl (by omega) dX12_element_79 rfl ?_
        refine sv_goto (pc' := 84) hΓ dX12_element_80 (by decide) ?_
        exact sv_lret hΓ hQ dX12_element_84 (Nat.le_of_ble_eq_true rfl) (Nat.le_of_ble_eq_true rfl) (Or.inr (Or.inr ⟨e, v, j, he, hv6, hv, rfl, rfl, hj, hsh, rfl, rfl, rfl⟩))
set_option maxRecDepth 100000 in
set_option maxHeartbeats 4000000 in
/-- copy -/
theorem ct_X12_copy {E : aG} (l : Launch) (d : Int32) (i : Int32) (u : Int32) (j : Int32) (m : Int32) {ci : Nat → Nat → Int32} {cl : Nat → Nat → Int64} {cr : Nat → Nat → Option Nat} {dy : aM} {nx : Nat} (hsz : ∀ e, e < 8 → ∃ v, v ≤ 60 ∧ ci 68 e = nI v) : CT E l yX12_copy cX12_copy 7 (some .int) 1 [.ref 43, .int d, .int i, .int u, .int j, .int m] (mm ci cl cr dy) nx 0 0 (fun r M' nx' => (¬ (AI 8 d ∧ AI 8 u) ∧ r = some (.int (-1)) ∧ M' = mm (up2 ci 43 0 0) cl cr dy ∧ nx = nx') ∨ (∃ e f, e < 8 ∧ f < 8 ∧ d = nI e ∧ u = nI f ∧ ((((up2 ci 43 0 0) 67 e = 0 ∨ (up2 ci 43 0 0) 67 f = 0) ∧ r = some (.int (-11)) ∧ M' = mm (up2 ci 43 0 0) cl cr dy ∧ nx = nx') ∨ (¬ ((up2 ci 43 0 0) 67 e = 0 ∨ (up2 ci 43 0 0) 67 f = 0) ∧ ((((up2 ci 43 0 0) 67 e < 3 ∨ ¬ (up2 ci 43 0 0) 67 e = (up2 ci 43 0 0) 67 f) ∧ r = some (.int (-12)) ∧ M' = mm (up2 ci 43 0 0) cl cr dy ∧ nx = nx') ∨ (¬ ((up2 ci 43 0 0) 67 e < 3 ∨ ¬ (up2 ci 43 0 0) 67 e = (up2 ci 43 0 0) 67 f) ∧ ((¬ (HP (up2 ci 43 0 0) e i m ∧ HP (up2 ci 43 0 0) f j m) ∧ r = some (.int (-13)) ∧ M' = mm (up2 ci 43 0 0) cl cr dy ∧ nx = nx') ∨ (HP (up2 ci 43 0 0) e i m ∧ HP (up2 ci 43 0 0) f j m ∧ ∃ a c b v y, (up2 ci 43 0 0) 68 e = nI v ∧ (up2 ci 43 0 0) 68 f = nI y ∧ a + b ≤ v ∧ c + b ≤ y ∧ i = nI a ∧ j = nI c ∧ m = nI b ∧ r = some (.int (nI b)) ∧ M' = mm (up2 ci 43 0 0) (rwC (bwC cl (60 * e + a) b) (60 * f + c) (fun i => (bwC cl (60 * e + a) b) 72 i) b) cr dy ∧ nx = nx')))))))) := by
  refine CT_intro (by decide) (Nat.le_of_ble_eq_true rfl) (fun Γ hΓ hQ => ?_)
  replace hΓ : CK E RX12 cX12_copy 7 (some .int) "copy" 1 0 0 Γ := hΓ
  show SV E Γ 7 (mm ci cl cr dy) nx 0 0 0 [(0, .ref 43), (1, .int d), (2, .int i), (3, .int u), (4, .int j), (5, .int m)] []
  refine sv_aload_n hΓ dX12_copy_0 rfl 0 rfl rfl ?_
  refine sv_iconst (v := 0) hΓ dX12_copy_1 (by decide) rfl ?_
  refine p_X12_99_43 hΓ dX12_copy_2 rfl ?_
  generalize hc0 : up2 ci 43 0 0 = c0 at hQ ⊢
  replace hsz : ∀ e, e < 8 → ∃ v, v ≤ 60 ∧ c0 68 e = nI v := by rw [← hc0]; exact hsz
  refine sv_iload_n hΓ dX12_copy_5 rfl 1 rfl rfl ?_
  refine sv_callS hΓ (fun l => ct_X12_isShelfI l d ) wv_X12_272 tb_1323 rfl rfl (by decide) (Nat.le_of_ble_eq_true rfl) (Nat.le_of_ble_eq_true rfl) (Nat.le_of_ble_eq_true rfl) dX12_copy_6 rfl (fun r M' nx' p1 => ?_)
  obtain ⟨rfl, rfl, rfl⟩ := p1
  show SV E Γ 7 (mm c0 cl cr dy) nx 0 0 9 [(0, .ref 43), (1, .int d), (2, .int i), (3, .int u), (4, .int j), (5, .int m)] [.int (bI (AI 8 d))]
  refine sv_if_eq (tgt := 19) hΓ dX12_copy_9 (by decide) rfl (fun u2 => ?_) (fun u2 => ?_)
  · replace u2 := bI_0.mp u2
    refine sv_iconst (v := (-1)) hΓ dX12_copy_19 (by decide) rfl ?_
    exact sv_iret hΓ hQ dX12_copy_20 (Nat.le_of_ble_eq_true rfl) (Nat.le_of_ble_eq_true rfl) (Or.inl ⟨by grind, rfl, rfl, rfl⟩)
  · replace u2 := bI_ne.mp u2
    refine sv_iload_n hΓ dX12_copy_12 rfl 3 rfl rfl ?_
    refine sv_callS hΓ (fun l => ct_X12_isShelfI l u ) wv_X12_272 tb_1323 rfl rfl (by decide) (Nat.le_of_ble_eq_true rfl) (Nat.le_of_ble_eq_true rfl) (Nat.le_of_ble_eq_true rfl) dX12_copy_13 rfl (fun r M' nx' p3 => ?_)
    obtain ⟨rfl, rfl, rfl⟩ := p3
    show SV E Γ 7 (mm c0 cl cr dy) nx 0 0 16 [(0, .ref 43), (1, .int d), (2, .int i), (3, .int u), (4, .int j), (5, .int m)] [.int (bI (AI 8 u))]
    refine sv_if_ne (tgt := 21) hΓ dX12_copy_16 (by decide) rfl (fun u4 => ?_) (fun u4 => ?_)
    · replace u4 := bI_ne.mp u4
      obtain ⟨e, he, ed⟩ := AI.k u2
      subst ed
      obtain ⟨f, hf, ef⟩ := AI.k u4
      subst ef
      obtain ⟨v, hv6, hv⟩ := hsz e he
      obtain ⟨y, hy6, hy⟩ := hsz f hf
      refine sv_aload_n hΓ dX12_copy_21 rfl 0 rfl rfl ?_
      refine g_X12_81_43 hΓ dX12_copy_22 rfl ?_
      refine sv_iload_n hΓ dX12_copy_25 rfl 1 rfl rfl ?_
      refine ai_67 hΓ (e) rfl (by omega) dX12_copy_26 rfl ?_
      refine sv_if_eq (tgt := 39) hΓ dX12_copy_27 (by decide) rfl (fun u5 => ?_) (fun u5 => ?_)
      · replace u5 : ((c0 67 e) : Int32) = 0 := u5
        refine sv_bipush (v := (-11)) hΓ dX12_copy_39 (by decide) rfl ?_
        exact sv_iret hΓ hQ dX12_copy_41 (Nat.le_of_ble_eq_true rfl) (Nat.le_of_ble_eq_true rfl) (Or.inr ⟨e, f, he, hf, rfl, rfl, Or.inl ⟨by grind, rfl, rfl, rfl⟩⟩)
      · replace u5 : ¬ (((c0 67 e) : Int32) = 0) := u5
        refine sv_aload_n hΓ dX12_copy_30 rfl 0 rfl rfl ?_
        refine g_X12_81_43 hΓ dX12_copy_31 rfl ?_
        refine sv_iload_n hΓ dX12_copy_34 rfl 3 rfl rfl ?_
        refine ai_67 hΓ (f) rfl (by omega) dX12_copy_35 rfl ?_
        refine sv_if_ne (tgt := 42) hΓ dX12_copy_36 (by decide) rfl (fun u6 => ?_) (fun u6 => ?_)
        · replace u6 : ¬ ((c0 67 f) : Int32) = 0 := u6
          have h11 : ¬ (c0 67 e = 0 ∨ c0 67 f = 0) := by grind
          refine sv_aload_n hΓ dX12_copy_42 rfl 0 rfl rfl ?_
          refine g_X12_81_43 hΓ dX12_copy_43 rfl ?_
          refine sv_iload_n hΓ dX12_copy_46 rfl 1 rfl rfl ?_
          refine ai_67 hΓ (e) rfl (by omega) dX12_copy_47 rfl ?_
          refine sv_iconst (v := 3) hΓ dX12_copy_48 (by decide) rfl ?_
          refine sv_icmp_lt (tgt := 67) hΓ dX12_copy_49 (by decide) rfl (fun u7 => ?_) (fun u7 => ?_)
          · replace u7 : ((c0 67 e) : Int32) < 3 := u7
            refine sv_bipush (v := (-12)) hΓ dX12_copy_67 (by decide) rfl ?_
            exact sv_iret hΓ hQ dX12_copy_69 (Nat.le_of_ble_eq_true rfl) (Nat.le_of_ble_eq_true rfl) (Or.inr ⟨e, f, he, hf, rfl, rfl, Or.inr ⟨by grind, Or.inl ⟨by grind, rfl, rfl, rfl⟩⟩⟩)
          · replace u7 : ¬ (((c0 67 e) : Int32) < 3) := u7
            refine sv_aload_n hΓ dX12_copy_52 rfl 0 rfl rfl ?_
            refine g_X12_81_43 hΓ dX12_copy_53 rfl ?_
            refine sv_iload_n hΓ dX12_copy_56 rfl 1 rfl rfl ?_
            refine ai_67 hΓ (e) rfl (by omega) dX12_copy_57 rfl ?_
            refine sv_aload_n hΓ dX12_copy_58 rfl 0 rfl rfl ?_
            refine g_X12_81_43 hΓ dX12_copy_59 rfl ?_
            refine sv_iload_n hΓ dX12_copy_62 rfl 3 rfl rfl ?_
            refine ai_67 hΓ (f) rfl (by omega) dX12_copy_63 rfl ?_
            refine sv_icmp_eq (tgt := 70) hΓ dX12_copy_64 (by decide) rfl (fun u8 => ?_) (fun u8 => ?_)
            · replace u8 : ((c0 67 e) : Int32) = (c0 67 f) := u8
              have h12 : ¬ (c0 67 e < 3 ∨ ¬ c0 67 e = c0 67 f) := by grind
              refine sv_aload_n hΓ dX12_copy_70 rfl 0 rfl rfl ?_
              refine sv_iload_n hΓ dX12_copy_71 rfl 1 rfl rfl ?_
              refine sv_iload_n hΓ dX12_copy_72 rfl 2 rfl rfl ?_
              refine sv_iload hΓ dX12_copy_73 5 rfl rfl ?_
              refine sv_callV hΓ (fun l => ct_X12_hasPlaces l e i m (by omega)) wv_X12_278 vs_X12_hasPlaces rfl m_43 rfl rfl (by decide) (Nat.le_of_ble_eq_true rfl) (Nat.le_of_ble_eq_true rfl) (Nat.le_of_ble_eq_true rfl) dX12_copy_75 rfl (fun r M' nx' p9 => ?_)
              obtain ⟨rfl, rfl, rfl⟩ := p9
              show SV E Γ 7 (mm c0 cl cr dy) nx 0 0 78 [(0, .ref 43), (1, .int (nI e)), (2, .int i), (3, .int (nI f)), (4, .int j), (5, .int m)] [.int (bI (¬ m < 0 ∧ ¬ i < 0 ∧ ¬ c0 68 e < i ∧ ¬ c0 68 e - i < m))]
              refine sv_if_eq (tgt := 93) hΓ dX12_copy_78 (by decide) rfl (fun u10 => ?_) (fun u10 => ?_)
              · replace u10 := bI_0.mp u10
                refine sv_bipush (v := (-13)) hΓ dX12_copy_93 (by decide) rfl ?_
                exact sv_iret hΓ hQ dX12_copy_95 (Nat.le_of_ble_eq_true rfl) (Nat.le_of_ble_eq_true rfl) (Or.inr ⟨e, f, he, hf, rfl, rfl, Or.inr ⟨by grind, Or.inr ⟨by grind, Or.inl ⟨by grind, rfl, rfl, rfl⟩⟩⟩⟩)
              · replace u10 := bI_ne.mp u10
                refine sv_aload_n hΓ dX12_copy_81 rfl 0 rfl rfl ?_
                refine sv_iload_n hΓ dX12_copy_82 rfl 3 rfl rfl ?_
                refine sv_iload hΓ dX12_copy_83 4 rfl rfl ?_
                refine sv_iload hΓ dX12_copy_85 5 rfl rfl ?_
                refine sv_callV hΓ (fun l => ct_X12_hasPlaces l f j m (by omega)) wv_X12_278 vs_X12_hasPlaces rfl m_43 rfl rfl (by decide) (Nat.le_of_ble_eq_true rfl) (Nat.le_of_ble_eq_true rfl) (Nat.le_of_ble_eq_true rfl) dX12_copy_87 rfl (fun r M' nx' p11 => ?_)
                obtain ⟨rfl, rfl, rfl⟩ := p11
                show SV E Γ 7 (mm c0 cl cr dy) nx 0 0 90 [(0, .ref 43), (1, .int (nI e)), (2, .int i), (3, .int (nI f)), (4, .int j), (5, .int m)] [.int (bI (¬ m < 0 ∧ ¬ j < 0 ∧ ¬ c0 68 f < j ∧ ¬ c0 68 f - j < m))]
                refine sv_if_ne (tgt := 96) hΓ dX12_copy_90 (by decide) rfl (fun u12 => ?_) (fun u12 => ?_)
                · replace u12 := bI_ne.mp u12
                  have hp1 := u10
                  have hp2 := u12
                  obtain ⟨a, b, ei, em, hab⟩ := hp_k hv hv6 u10
                  obtain ⟨c, b2, ej, em2, hcb⟩ := hp_k hy hy6 u12
                  obtain rfl : b = b2 := (nI_eq (by omega) (by omega)).mp (em.symm.trans em2)
                  subst ei
                  subst ej
                  subst em
                  refine sv_iconst (v := 0) hΓ dX12_copy_96 (by decide) rfl ?_
                  refine sv_istore (lv' := [(6, .int 0), (0, .ref 43), (1, .int (nI e)), (2, .int (nI a)), (3, .int (nI f)), (4, .int (nI c)), (5, .int (nI b))]) hΓ dX12_copy_97 (by decide) rfl rfl ?_
                  have LP99 : ∀ kq x : Nat, x + kq = b → SV E Γ 7 (mm c0 (bwC cl (60 * e + a) x) cr dy) nx 0 0 99 [(6, .int (nI x)), (0, .ref 43), (1, .int (nI e)), (2, .int (nI a)), (3, .int (nI f)), (4, .int (nI c)), (5, .int (nI b))] [] := by
                    intro kq
                    induction kq with
                    | zero =>
                      intro x ha
                      have ea : x = b := by omega
                      obtain rfl : b = x := by omega
                      refine sv_iload hΓ dX12_copy_99 0 rfl rfl ?_
                      refine sv_iload hΓ dX12_copy_101 6 rfl rfl ?_
                      refine sv_icmp_ge (tgt := 133) hΓ dX12_copy_103 (by decide) rfl (fun u13 => ?_) (fun u13 => absurd (nI_le (by omega) (by omega)) u13)
                      replace u13 : (nI b) ≤ ((nI b) : Int32) := u13
                      refine sv_iconst (v := 0) hΓ dX12_copy_133 (by decide) rfl ?_
                      refine sv_istore (lv' := [(6, .int 0), (0, .ref 43), (1, .int (nI e)), (2, .int (nI a)), (3, .int (nI f)), (4, .int (nI c)), (5, .int (nI b))]) hΓ dX12_copy_134 (by decide) rfl rfl ?_
                      have LP136 : ∀ kq x : Nat, x + kq = b → SV E Γ 7 (mm c0 (rwC (bwC cl (60 * e + a) b) (60 * f + c) (fun i => (bwC cl (60 * e + a) b) 72 i) x) cr dy) nx 0 0 136 [(6, .int (nI x)), (0, .ref 43), (1, .int (nI e)), (2, .int (nI a)), (3, .int (nI f)), (4, .int (nI c)), (5, .int (nI b))] [] := by
                        intro kq
                        induction kq with
                        | zero =>
                          intro x ha
                          have ea : x = b := by omega
                          obtain rfl : b = x := by omega
                          refine sv_iload hΓ dX12_copy_136 0 rfl rfl ?_
                          refine sv_iload hΓ dX12_copy_138 6 rfl rfl ?_
                          refine sv_icmp_ge (tgt := 171) hΓ dX12_copy_140 (by decide) rfl (fun u14 => ?_) (fun u14 => absurd (nI_le (by omega) (by omega)) u14)
                          replace u14 : (nI b) ≤ ((nI b) : Int32) := u14
                          refine sv_iload hΓ dX12_copy_171 6 rfl rfl ?_
                          exact sv_iret hΓ hQ dX12_copy_173 (Nat.le_of_ble_eq_true rfl) (Nat.le_of_ble_eq_true rfl) (Or.inr ⟨e, f, he, hf, rfl, rfl, Or.inr ⟨h11, Or.inr ⟨h12, Or.inr ⟨hp1, hp2, a, c, b, v, y, hv, hy, by omega, by omega, rfl, rfl, rfl, rfl, rfl, rfl⟩⟩⟩⟩)
                        | succ kq ih =>
                          intro x ha
                          refine sv_iload hΓ dX12_copy_136 0 rfl rfl ?_
                          refine sv_iload hΓ dX12_copy_138 6 rfl rfl ?_
                          refine sv_icmp_ge (tgt := 171) hΓ dX12_copy_140 (by decide) rfl (fun u15 => absurd u15 (nI_ge (by omega) (by omega))) (fun u15 => ?_)
                          replace u15 : ¬ ((nI b) ≤ ((nI x) : Int32)) := u15
                          refine sv_aload_n hΓ dX12_copy_143 rfl 1 rfl rfl ?_
                          refine g_X12_93_43 hΓ dX12_copy_144 rfl ?_
                          refine sv_bipush (v := 60) hΓ dX12_copy_147 (by decide) rfl ?_
                          refine sv_iload_n hΓ dX12_copy_149 rfl 4 rfl rfl ?_
                          refine sv_imulE (v := nI (60 * f)) hΓ dX12_copy_150 (nx_mul rfl rfl) rfl ?_
                          refine sv_iload hΓ dX12_copy_151 5 rfl rfl ?_
                          refine sv_iaddE (v := nI (60 * f + c)) hΓ dX12_copy_153 (nx_add rfl rfl) rfl ?_
                          refine sv_iload hΓ dX12_copy_154 0 rfl rfl ?_
                          refine sv_iaddE (v := nI (60 * f + c + x)) hΓ dX12_copy_156 (nx_add rfl rfl) rfl ?_
                          refine sv_aload_n hΓ dX12_copy_157 rfl 1 rfl rfl ?_
                          refine g_X12_96_43 hΓ dX12_copy_158 rfl ?_
                          refine sv_iload hΓ dX12_copy_161 0 rfl rfl ?_
                          refine al_72 hΓ (x) rfl (by omega) dX12_copy_163 rfl ?_
                          refine at_71 hΓ (60 * f + c + x) rfl (by omega) dX12_copy_164 rfl ?_
                          refine sv_iinc (v := nI (x + 1)) (lv' := [(6, .int (nI (x + 1))), (0, .ref 43), (1, .int (nI e)), (2, .int (nI a)), (3, .int (nI f)), (4, .int (nI c)), (5, .int (nI b))]) hΓ dX12_copy_165 0 rfl (nx_inc rfl) (by decide) rfl rfl ?_
                          refine sv_goto (pc' := 136) hΓ dX12_copy_168 (by decide) ?_
                          have q := ih (x + 1) (by omega)
                          rw [show rwC (bwC cl (60 * e + a) b) (60 * f + c) (fun i => (bwC cl (60 * e + a) b) 72 i) (x + 1) = up2 (rwC (bwC cl (60 * e + a) b) (60 * f + c) (fun i => (bwC cl (60 * e + a) b) 72 i) x) 71 (60 * f + c + x) ((rwC (bwC cl (60 * e + a) b) (60 * f + c) (fun i => (bwC cl (60 * e + a) b) 72 i) x) 72 x) from by show up2 _ _ _ _ = _; rw [rwC_k (bwC cl (60 * e + a) b) _ _ (show ¬ 72 = 71 by decide)]] at q
                          exact SV_lv [0, 1, 2, 3, 4, 5, 6] rfl q
                      exact SV_lv [0, 1, 2, 3, 4, 5, 6] rfl (LP136 b 0 (by omega))
                    | succ kq ih =>
                      intro x ha
                      refine sv_iload hΓ dX12_copy_99 0 rfl rfl ?_
                      refine sv_iload hΓ dX12_copy_101 6 rfl rfl ?_
                      refine sv_icmp_ge (tgt := 133) hΓ dX12_copy_103 (by decide) rfl (fun u16 => absurd u16 (nI_ge (by omega) (by omega))) (fun u16 => ?_)
                      replace u16 : ¬ ((nI b) ≤ ((nI x) : Int32)) := u16
                      refine sv_aload_n hΓ dX12_copy_106 rfl 1 rfl rfl ?_
                      refine g_X12_96_43 hΓ dX12_copy_107 rfl ?_
                      refine sv_iload hΓ dX12_copy_110 0 rfl rfl ?_
                      refine sv_aload_n hΓ dX12_copy_112 rfl 1 rfl rfl ?_
                      refine g_X12_93_43 hΓ dX12_copy_113 rfl ?_
                      refine sv_bipush (v := 60) hΓ dX12_copy_116 (by decide) rfl ?_
                      refine sv_iload_n hΓ dX12_copy_118 rfl 2 rfl rfl ?_
                      refine sv_imulE (v := nI (60 * e)) hΓ dX12_copy_119 (nx_mul rfl rfl) rfl ?_
                      refine sv_iload_n hΓ dX12_copy_120 rfl 3 rfl rfl ?_
                      refine sv_iaddE (v := nI (60 * e + a)) hΓ dX12_copy_121 (nx_add rfl rfl) rfl ?_
                      refine sv_iload hΓ dX12_copy_122 0 rfl rfl ?_
                      refine sv_iaddE (v := nI (60 * e + a + x)) hΓ dX12_copy_124 (nx_add rfl rfl) rfl ?_
                      refine al_71 hΓ (60 * e + a + x) rfl (by omega) dX12_copy_125 rfl ?_
                      refine at_72 hΓ (x) rfl (by omega) dX12_copy_126 rfl ?_
                      refine sv_iinc (v := nI (x + 1)) (lv' := [(6, .int (nI (x + 1))), (0, .ref 43), (1, .int (nI e)), (2, .int (nI a)), (3, .int (nI f)), (4, .int (nI c)), (5, .int (nI b))]) hΓ dX12_copy_127 0 rfl (nx_inc rfl) (by decide) rfl rfl ?_
                      refine sv_goto (pc' := 99) hΓ dX12_copy_130 (by decide) ?_
                      have q := ih (x + 1) (by omega)
                      exact SV_lv [0, 1, 2, 3, 4, 5, 6] rfl q
                  exact SV_lv [0, 1, 2, 3, 4, 5, 6] rfl (LP99 b 0 (by omega))
                · replace u12 := bI_0.mp u12
                  refine sv_bipush (v := (-13)) hΓ dX12_copy_93 (by decide) rfl ?_
                  exact sv_iret hΓ hQ dX12_copy_95 (Nat.le_of_ble_eq_true rfl) (Nat.le_of_ble_eq_true rfl) (Or.inr ⟨e, f, he, hf, rfl, rfl, Or.inr ⟨by grind, Or.inr ⟨by grind, Or.inl ⟨by grind, rfl, rfl, rfl⟩⟩⟩⟩)
            · replace u8 : ¬ (((c0 67 e) : Int32) = (c0 67 f)) := u8
              refine sv_bipush (v := (-12)) hΓ dX12_copy_67 (by decide) rfl ?_
              exact sv_iret hΓ hQ dX12_copy_69 (Nat.le_of_ble_eq_true rfl) (Nat.le_of_ble_eq_true rfl) (Or.inr ⟨e, f, he, hf, rfl, rfl, Or.inr ⟨by grind, Or.inl ⟨by grind, rfl, rfl, rfl⟩⟩⟩)
        · replace u6 : ((c0 67 f) : Int32) = 0 := u6
          refine sv_bipush (v := (-11)) hΓ dX12_copy_39 (by decide) rfl ?_
          exact sv_iret hΓ hQ dX12_copy_41 (Nat.le_of_ble_eq_true rfl) (Nat.le_of_ble_eq_true rfl) (Or.inr ⟨e, f, he, hf, rfl, rfl, Or.inl ⟨by grind, rfl, rfl, rfl⟩⟩)
    · replace u4 := bI_0.mp u4
      refine sv_iconst (v := (-1)) hΓ dX12_copy_19 (by decide) rfl ?_
      exact sv_iret hΓ hQ dX12_copy_20 (Nat.le_of_ble_eq_true rfl) (Nat.le_of_ble_eq_true rfl) (Or.inl ⟨by grind, rfl, rfl, rfl⟩)
set_option maxRecDepth 100000 in
set_option maxHeartbeats 4000000 in
/-- keep -/
theorem ct_X12_keep {E : aG} (l : Launch) (d : Int32) (m : Int32) (k : Int32) (n : Nat) {ci : Nat → Nat → Int32} {cl : Nat → Nat → Int64} {cr : Nat → Nat → Option Nat} {dy : aM} {nx : Nat} (hn : ci 43 1 = nI n) (hn6 : n ≤ 16) : CT E l yX12_keep cX12_keep 6 (some .int) 2 [.ref 43, .int d, .int m, .int k] (mm ci cl cr dy) nx 0 0 (fun r M' nx' => (¬ KC n d m k ∧ r = some (.int (-1)) ∧ M' = mm (up2 ci 43 0 0) cl cr dy ∧ nx = nx') ∨ (AI 8 d ∧ m = 3 ∧ (up2 ci 43 0 0) 43 13 = 0 ∧ r = some (.int (-3)) ∧ M' = mm (up2 ci 43 0 0) cl cr dy ∧ nx = nx') ∨ (∃ e, e < 8 ∧ d = nI e ∧ ((m = 0 ∧ r = some (.int 0) ∧ M' = mm (up2 (up2 (up2 ci 43 0 0) 67 e 0) 68 e 0) cl cr dy ∧ nx = nx') ∨ (m = 1 ∧ ∃ a, a < n ∧ k = nI a ∧ r = some (.int 0) ∧ M' = mm (up2 (up2 (up2 (up2 (up2 ci 43 0 0) 67 e 1) 68 e 0) 69 e (wtF (up2 ci 43 0 0) a)) 70 e (sfF (up2 ci 43 0 0) a)) cl cr dy ∧ nx = nx') ∨ (m = 3 ∧ ¬ (up2 ci 43 0 0) 43 13 = 0 ∧ r = some (.int 0) ∧ M' = mm (up2 (up2 (up2 ci 43 0 0) 67 e 3) 68 e (nI n)) (rwC cl (60 * e) (fun i => Int32.toInt64 ((up2 ci 43 0 0) 55 i)) n) cr dy ∧ nx = nx') ∨ (m = 4 ∧ r = some (.int 0) ∧ M' = mm (up2 (up2 (up2 ci 43 0 0) 67 e 4) 68 e 16) (rwC cl (60 * e) (fun i => cl 54 i) 16) cr dy ∧ nx = nx')))) := by
  refine CT_intro (by decide) (Nat.le_of_ble_eq_true rfl) (fun Γ hΓ hQ => ?_)
  replace hΓ : CK E RX12 cX12_keep 6 (some .int) "keep" 2 0 0 Γ := hΓ
  show SV E Γ 6 (mm ci cl cr dy) nx 0 0 0 [(0, .ref 43), (1, .int d), (2, .int m), (3, .int k)] []
  refine sv_aload_n hΓ dX12_keep_0 rfl 0 rfl rfl ?_
  refine sv_iconst (v := 0) hΓ dX12_keep_1 (by decide) rfl ?_
  refine p_X12_99_43 hΓ dX12_keep_2 rfl ?_
  generalize hc0 : up2 ci 43 0 0 = c0 at hQ ⊢
  replace hn : c0 43 1 = nI n := by rw [← hc0]; exact hn
  refine sv_iload_n hΓ dX12_keep_5 rfl 1 rfl rfl ?_
  refine sv_callS hΓ (fun l => ct_X12_isShelfI l d ) wv_X12_272 tb_1323 rfl rfl (by decide) (Nat.le_of_ble_eq_true rfl) (Nat.le_of_ble_eq_true rfl) (Nat.le_of_ble_eq_true rfl) dX12_keep_6 rfl (fun r M' nx' p1 => ?_)
  obtain ⟨rfl, rfl, rfl⟩ := p1
  show SV E Γ 6 (mm c0 cl cr dy) nx 0 0 9 [(0, .ref 43), (1, .int d), (2, .int m), (3, .int k)] [.int (bI (AI 8 d))]
  refine sv_if_eq (tgt := 43) hΓ dX12_keep_9 (by decide) rfl (fun u2 => ?_) (fun u2 => ?_)
  · replace u2 := bI_0.mp u2
    refine sv_iconst (v := 0) hΓ dX12_keep_43 (by decide) rfl ?_
    refine sv_istore (lv' := [(4, .int 0), (0, .ref 43), (1, .int d), (2, .int m), (3, .int k)]) hΓ dX12_keep_44 (by decide) rfl rfl ?_
    refine sv_iload hΓ dX12_keep_46 0 rfl rfl ?_
    refine sv_if_ne (tgt := 53) hΓ dX12_keep_48 (by decide) rfl (fun u3 => absurd u3 (by decide)) (fun u3 => ?_)
    replace u3 : (0 : Int32) = 0 := u3
    refine sv_iconst (v := (-1)) hΓ dX12_keep_51 (by decide) rfl ?_
    exact sv_iret hΓ hQ dX12_keep_52 (Nat.le_of_ble_eq_true rfl) (Nat.le_of_ble_eq_true rfl) (Or.inl ⟨by unfold KC; grind, rfl, rfl, rfl⟩)
  · replace u2 := bI_ne.mp u2
    obtain ⟨e, he, ed⟩ := AI.k u2
    subst ed
    refine sv_iload_n hΓ dX12_keep_12 rfl 2 rfl rfl ?_
    refine sv_if_eq (tgt := 39) hΓ dX12_keep_13 (by decide) rfl (fun u4 => ?_) (fun u4 => ?_)
    · replace u4 : (m : Int32) = 0 := u4
      subst u4
      refine sv_iconst (v := 1) hΓ dX12_keep_39 (by decide) rfl ?_
      refine sv_goto (pc' := 44) hΓ dX12_keep_40 (by decide) ?_
      refine sv_istore (lv' := [(4, .int 1), (0, .ref 43), (1, .int (nI e)), (2, .int 0), (3, .int k)]) hΓ dX12_keep_44 (by decide) rfl rfl ?_
      refine sv_iload hΓ dX12_keep_46 0 rfl rfl ?_
      refine sv_if_ne (tgt := 53) hΓ dX12_keep_48 (by decide) rfl (fun u5 => ?_) (fun u5 => absurd u5 (by decide))
      replace u5 : ¬ (1 : Int32) = 0 := u5
      refine sv_iload_n hΓ dX12_keep_53 rfl 3 rfl rfl ?_
      refine sv_iconst (v := 3) hΓ dX12_keep_54 (by decide) rfl ?_
      refine sv_icmp_ne (tgt := 68) hΓ dX12_keep_55 (by decide) rfl (fun u6 => ?_) (fun u6 => absurd u6 (by decide))
      replace u6 : ¬ (0 : Int32) = 3 := u6
      refine sv_aload_n hΓ dX12_keep_68 rfl 1 rfl rfl ?_
      refine g_X12_81_43 hΓ dX12_keep_69 rfl ?_
      refine sv_iload_n hΓ dX12_keep_72 rfl 2 rfl rfl ?_
      refine sv_iload_n hΓ dX12_keep_73 rfl 3 rfl rfl ?_
      refine as_67 hΓ (e) rfl (by omega) dX12_keep_74 rfl ?_
      refine sv_aload_n hΓ dX12_keep_75 rfl 1 rfl rfl ?_
      refine g_X12_84_43 hΓ dX12_keep_76 rfl ?_
      refine sv_iload_n hΓ dX12_keep_79 rfl 2 rfl rfl ?_
      refine sv_iload_n hΓ dX12_keep_80 rfl 3 rfl rfl ?_
      refine sv_iconst (v := 3) hΓ dX12_keep_81 (by decide) rfl ?_
      refine sv_icmp_ne (tgt := 92) hΓ dX12_keep_82 (by decide) rfl (fun u7 => ?_) (fun u7 => absurd u7 (by decide))
      replace u7 : ¬ (0 : Int32) = 3 := u7
      refine sv_iload_n hΓ dX12_keep_92 rfl 3 rfl rfl ?_
      refine sv_iconst (v := 4) hΓ dX12_keep_93 (by decide) rfl ?_
      refine sv_icmp_ne (tgt := 102) hΓ dX12_keep_94 (by decide) rfl (fun u8 => ?_) (fun u8 => absurd u8 (by decide))
      replace u8 : ¬ (0 : Int32) = 4 := u8
      refine sv_iconst (v := 0) hΓ dX12_keep_102 (by decide) rfl ?_
      refine as_68 hΓ (e) rfl (by omega) dX12_keep_103 rfl ?_
      refine sv_iload_n hΓ dX12_keep_104 rfl 3 rfl rfl ?_
      refine sv_iconst (v := 1) hΓ dX12_keep_105 (by decide) rfl ?_
      refine sv_icmp_ne (tgt := 182) hΓ dX12_keep_106 (by decide) rfl (fun u9 => ?_) (fun u9 => absurd u9 (by decide))
      replace u9 : ¬ (0 : Int32) = 1 := u9
      refine sv_iconst (v := 0) hΓ dX12_keep_182 (by decide) rfl ?_
      refine sv_istore (lv' := [(5, .int 0), (4, .int 1), (0, .ref 43), (1, .int (nI e)), (2, .int 0), (3, .int k)]) hΓ dX12_keep_183 (by decide) rfl rfl ?_
      refine sv_iload hΓ dX12_keep_185 0 rfl rfl ?_
      refine sv_aload_n hΓ dX12_keep_187 rfl 2 rfl rfl ?_
      refine g_X12_84_43 hΓ dX12_keep_188 rfl ?_
      refine sv_iload_n hΓ dX12_keep_191 rfl 3 rfl rfl ?_
      refine ai_68 hΓ (e) rfl (by omega) dX12_keep_192 rfl ?_
      show SV E Γ 6 (mm (up2 (up2 c0 67 e 0) 68 e 0) cl cr dy) nx 0 0 193 [(5, .int 0), (4, .int 1), (0, .ref 43), (1, .int (nI e)), (2, .int 0), (3, .int k)] [.int ((up2 (up2 c0 67 e 0) 68 e 0) 68 e), .int 0]
      rw [up2_s]
      refine sv_icmp_ge (tgt := 237) hΓ dX12_keep_193 (by decide) rfl (fun u10 => ?_) (fun u10 => absurd (by decide) u10)
      replace u10 : 0 ≤ (0 : Int32) := u10
      refine sv_iconst (v := 0) hΓ dX12_keep_237 (by decide) rfl ?_
      exact sv_iret hΓ hQ dX12_keep_238 (Nat.le_of_ble_eq_true rfl) (Nat.le_of_ble_eq_true rfl) (Or.inr (Or.inr ⟨e, he, rfl, Or.inl ⟨rfl, rfl, rfl, rfl⟩⟩))
    · replace u4 : ¬ ((m : Int32) = 0) := u4
      refine sv_iload_n hΓ dX12_keep_16 rfl 2 rfl rfl ?_
      refine sv_iconst (v := 1) hΓ dX12_keep_17 (by decide) rfl ?_
      refine sv_icmp_ne (tgt := 29) hΓ dX12_keep_18 (by decide) rfl (fun u11 => ?_) (fun u11 => ?_)
      · replace u11 : ¬ (m : Int32) = 1 := u11
        refine sv_iload_n hΓ dX12_keep_29 rfl 2 rfl rfl ?_
        refine sv_iconst (v := 3) hΓ dX12_keep_30 (by decide) rfl ?_
        refine sv_icmp_eq (tgt := 39) hΓ dX12_keep_31 (by decide) rfl (fun u12 => ?_) (fun u12 => ?_)
        · replace u12 : (m : Int32) = 3 := u12
          subst u12
          refine sv_iconst (v := 1) hΓ dX12_keep_39 (by decide) rfl ?_
          refine sv_goto (pc' := 44) hΓ dX12_keep_40 (by decide) ?_
          refine sv_istore (lv' := [(4, .int 1), (0, .ref 43), (1, .int (nI e)), (2, .int 3), (3, .int k)]) hΓ dX12_keep_44 (by decide) rfl rfl ?_
          refine sv_iload hΓ dX12_keep_46 0 rfl rfl ?_
          refine sv_if_ne (tgt := 53) hΓ dX12_keep_48 (by decide) rfl (fun u13 => ?_) (fun u13 => absurd u13 (by decide))
          replace u13 : ¬ (1 : Int32) = 0 := u13
          refine sv_iload_n hΓ dX12_keep_53 rfl 3 rfl rfl ?_
          refine sv_iconst (v := 3) hΓ dX12_keep_54 (by decide) rfl ?_
          refine sv_icmp_ne (tgt := 68) hΓ dX12_keep_55 (by decide) rfl (fun u14 => absurd u14 (by decide)) (fun u14 => ?_)
          replace u14 : (3 : Int32) = 3 := u14
          refine sv_aload_n hΓ dX12_keep_58 rfl 1 rfl rfl ?_
          refine g_X12_106_43 hΓ dX12_keep_59 rfl ?_
          refine sv_if_ne (tgt := 68) hΓ dX12_keep_62 (by decide) rfl (fun u15 => ?_) (fun u15 => ?_)
          · replace u15 : ¬ ((c0 43 13) : Int32) = 0 := u15
            have hl := u15
            refine sv_aload_n hΓ dX12_keep_68 rfl 1 rfl rfl ?_
            refine g_X12_81_43 hΓ dX12_keep_69 rfl ?_
            refine sv_iload_n hΓ dX12_keep_72 rfl 2 rfl rfl ?_
            refine sv_iload_n hΓ dX12_keep_73 rfl 3 rfl rfl ?_
            refine as_67 hΓ (e) rfl (by omega) dX12_keep_74 rfl ?_
            refine sv_aload_n hΓ dX12_keep_75 rfl 1 rfl rfl ?_
            refine g_X12_84_43 hΓ dX12_keep_76 rfl ?_
            refine sv_iload_n hΓ dX12_keep_79 rfl 2 rfl rfl ?_
            refine sv_iload_n hΓ dX12_keep_80 rfl 3 rfl rfl ?_
            refine sv_iconst (v := 3) hΓ dX12_keep_81 (by decide) rfl ?_
            refine sv_icmp_ne (tgt := 92) hΓ dX12_keep_82 (by decide) rfl (fun u16 => absurd u16 (by decide)) (fun u16 => ?_)
            replace u16 : (3 : Int32) = 3 := u16
            refine sv_aload_n hΓ dX12_keep_85 rfl 1 rfl rfl ?_
            refine g_X12_103_43 hΓ dX12_keep_86 rfl ?_
            refine sv_goto (pc' := 103) hΓ dX12_keep_89 (by decide) ?_
            rw [show (up2 c0 67 e 3) 43 1 = nI n from hn]
            refine as_68 hΓ (e) rfl (by omega) dX12_keep_103 rfl ?_
            refine sv_iload_n hΓ dX12_keep_104 rfl 3 rfl rfl ?_
            refine sv_iconst (v := 1) hΓ dX12_keep_105 (by decide) rfl ?_
            refine sv_icmp_ne (tgt := 182) hΓ dX12_keep_106 (by decide) rfl (fun u17 => ?_) (fun u17 => absurd u17 (by decide))
            replace u17 : ¬ (3 : Int32) = 1 := u17
            refine sv_iconst (v := 0) hΓ dX12_keep_182 (by decide) rfl ?_
            refine sv_istore (lv' := [(5, .int 0), (4, .int 1), (0, .ref 43), (1, .int (nI e)), (2, .int 3), (3, .int k)]) hΓ dX12_keep_183 (by decide) rfl rfl ?_
            have LP185 : ∀ kq i : Nat, i + kq = n → SV E Γ 6 (mm (up2 (up2 c0 67 e 3) 68 e (nI n)) (rwC cl (60 * e) (fun i => Int32.toInt64 (c0 55 i)) i) cr dy) nx 0 0 185 [(5, .int (nI i)), (0, .ref 43), (1, .int (nI e)), (2, .int 3), (3, .int k), (4, .int 1)] [] := by
              intro kq
              induction kq with
              | zero =>
                intro i ha
                have ea : i = n := by omega
                obtain rfl : n = i := by omega
                refine sv_iload hΓ dX12_keep_185 0 rfl rfl ?_
                refine sv_aload_n hΓ dX12_keep_187 rfl 1 rfl rfl ?_
                refine g_X12_84_43 hΓ dX12_keep_188 rfl ?_
                refine sv_iload_n hΓ dX12_keep_191 rfl 2 rfl rfl ?_
                refine ai_68 hΓ (e) rfl (by omega) dX12_keep_192 rfl ?_
                show SV E Γ 6 (mm (up2 (up2 c0 67 e 3) 68 e (nI n)) (rwC cl (60 * e) (fun i => Int32.toInt64 (c0 55 i)) n) cr dy) nx 0 0 193 [(5, .int (nI n)), (0, .ref 43), (1, .int (nI e)), (2, .int 3), (3, .int k), (4, .int 1)] [.int ((up2 (up2 c0 67 e 3) 68 e (nI n)) 68 e), .int (nI n)]
                rw [up2_s]
                refine sv_icmp_ge (tgt := 237) hΓ dX12_keep_193 (by decide) rfl (fun u18 => ?_) (fun u18 => absurd (nI_le (a := n) (by omega) (by omega)) u18)
                replace u18 : (nI n) ≤ ((nI n) : Int32) := u18
                refine sv_iconst (v := 0) hΓ dX12_keep_237 (by decide) rfl ?_
                exact sv_iret hΓ hQ dX12_keep_238 (Nat.le_of_ble_eq_true rfl) (Nat.le_of_ble_eq_true rfl) (Or.inr (Or.inr ⟨e, he, rfl, Or.inr (Or.inr (Or.inl ⟨rfl, hl, rfl, rfl, rfl⟩))⟩))
              | succ kq ih =>
                intro i ha
                refine sv_iload hΓ dX12_keep_185 0 rfl rfl ?_
                refine sv_aload_n hΓ dX12_keep_187 rfl 1 rfl rfl ?_
                refine g_X12_84_43 hΓ dX12_keep_188 rfl ?_
                refine sv_iload_n hΓ dX12_keep_191 rfl 2 rfl rfl ?_
                refine ai_68 hΓ (e) rfl (by omega) dX12_keep_192 rfl ?_
                show SV E Γ 6 (mm (up2 (up2 c0 67 e 3) 68 e (nI n)) (rwC cl (60 * e) (fun i => Int32.toInt64 (c0 55 i)) i) cr dy) nx 0 0 193 [(5, .int (nI i)), (0, .ref 43), (1, .int (nI e)), (2, .int 3), (3, .int k), (4, .int 1)] [.int ((up2 (up2 c0 67 e 3) 68 e (nI n)) 68 e), .int (nI i)]
                rw [up2_s]
                refine sv_icmp_ge (tgt := 237) hΓ dX12_keep_193 (by decide) rfl (fun u19 => absurd u19 (nI_ge (b := n) (by omega) (by omega))) (fun u19 => ?_)
                replace u19 : ¬ ((nI n) ≤ ((nI i) : Int32)) := u19
                refine sv_aload_n hΓ dX12_keep_196 rfl 1 rfl rfl ?_
                refine g_X12_93_43 hΓ dX12_keep_197 rfl ?_
                refine sv_bipush (v := 60) hΓ dX12_keep_200 (by decide) rfl ?_
                refine sv_iload_n hΓ dX12_keep_202 rfl 2 rfl rfl ?_
                refine sv_imulE (v := nI (60 * e)) hΓ dX12_keep_203 (nx_mul rfl rfl) rfl ?_
                refine sv_iload hΓ dX12_keep_204 0 rfl rfl ?_
                refine sv_iaddE (v := nI (60 * e + i)) hΓ dX12_keep_206 (nx_add rfl rfl) rfl ?_
                refine sv_iload_n hΓ dX12_keep_207 rfl 3 rfl rfl ?_
                refine sv_iconst (v := 3) hΓ dX12_keep_208 (by decide) rfl ?_
                refine sv_icmp_ne (tgt := 223) hΓ dX12_keep_209 (by decide) rfl (fun u20 => absurd u20 (by decide)) (fun u20 => ?_)
                replace u20 : (3 : Int32) = 3 := u20
                refine sv_aload_n hΓ dX12_keep_212 rfl 1 rfl rfl ?_
                refine g_X12_45_43 hΓ dX12_keep_213 rfl ?_
                refine sv_iload hΓ dX12_keep_216 0 rfl rfl ?_
                refine ai_55 hΓ (i) rfl (by omega) dX12_keep_218 rfl ?_
                refine sv_i2l hΓ dX12_keep_219 rfl rfl ?_
                refine sv_goto (pc' := 230) hΓ dX12_keep_220 (by decide) ?_
                refine at_71 hΓ (60 * e + i) rfl (by omega) dX12_keep_230 rfl ?_
                refine sv_iinc (v := nI (i + 1)) (lv' := [(5, .int (nI (i + 1))), (0, .ref 43), (1, .int (nI e)), (2, .int 3), (3, .int k), (4, .int 1)]) hΓ dX12_keep_231 0 rfl (nx_inc rfl) (by decide) rfl rfl ?_
                refine sv_goto (pc' := 185) hΓ dX12_keep_234 (by decide) ?_
                have q := ih (i + 1) (by omega)
                exact SV_lv [0, 1, 2, 3, 4, 5] rfl q
            exact SV_lv [0, 2, 3, 4, 5, 1] rfl (LP185 n 0 (by omega))
          · replace u15 : ((c0 43 13) : Int32) = 0 := u15
            refine sv_bipush (v := (-3)) hΓ dX12_keep_65 (by decide) rfl ?_
            exact sv_iret hΓ hQ dX12_keep_67 (Nat.le_of_ble_eq_true rfl) (Nat.le_of_ble_eq_true rfl) (Or.inr (Or.inl ⟨(AI_nI (by omega)).mpr he, rfl, u15, rfl, rfl, rfl⟩))
        · replace u12 : ¬ ((m : Int32) = 3) := u12
          refine sv_iload_n hΓ dX12_keep_34 rfl 2 rfl rfl ?_
          refine sv_iconst (v := 4) hΓ dX12_keep_35 (by decide) rfl ?_
          refine sv_icmp_ne (tgt := 43) hΓ dX12_keep_36 (by decide) rfl (fun u21 => ?_) (fun u21 => ?_)
          · replace u21 : ¬ (m : Int32) = 4 := u21
            refine sv_iconst (v := 0) hΓ dX12_keep_43 (by decide) rfl ?_
            refine sv_istore (lv' := [(4, .int 0), (0, .ref 43), (1, .int (nI e)), (2, .int m), (3, .int k)]) hΓ dX12_keep_44 (by decide) rfl rfl ?_
            refine sv_iload hΓ dX12_keep_46 0 rfl rfl ?_
            refine sv_if_ne (tgt := 53) hΓ dX12_keep_48 (by decide) rfl (fun u22 => absurd u22 (by decide)) (fun u22 => ?_)
            replace u22 : (0 : Int32) = 0 := u22
            refine sv_iconst (v := (-1)) hΓ dX12_keep_51 (by decide) rfl ?_
            exact sv_iret hΓ hQ dX12_keep_52 (Nat.le_of_ble_eq_true rfl) (Nat.le_of_ble_eq_true rfl) (Or.inl ⟨by unfold KC; grind, rfl, rfl, rfl⟩)
          · replace u21 : (m : Int32) = 4 := u21
            subst u21
            refine sv_iconst (v := 1) hΓ dX12_keep_39 (by decide) rfl ?_
            refine sv_goto (pc' := 44) hΓ dX12_keep_40 (by decide) ?_
            refine sv_istore (lv' := [(4, .int 1), (0, .ref 43), (1, .int (nI e)), (2, .int 4), (3, .int k)]) hΓ dX12_keep_44 (by decide) rfl rfl ?_
            refine sv_iload hΓ dX12_keep_46 0 rfl rfl ?_
            refine sv_if_ne (tgt := 53) hΓ dX12_keep_48 (by decide) rfl (fun u23 => ?_) (fun u23 => absurd u23 (by decide))
            replace u23 : ¬ (1 : Int32) = 0 := u23
            refine sv_iload_n hΓ dX12_keep_53 rfl 3 rfl rfl ?_
            refine sv_iconst (v := 3) hΓ dX12_keep_54 (by decide) rfl ?_
            refine sv_icmp_ne (tgt := 68) hΓ dX12_keep_55 (by decide) rfl (fun u24 => ?_) (fun u24 => absurd u24 (by decide))
            replace u24 : ¬ (4 : Int32) = 3 := u24
            refine sv_aload_n hΓ dX12_keep_68 rfl 1 rfl rfl ?_
            refine g_X12_81_43 hΓ dX12_keep_69 rfl ?_
            refine sv_iload_n hΓ dX12_keep_72 rfl 2 rfl rfl ?_
            refine sv_iload_n hΓ dX12_keep_73 rfl 3 rfl rfl ?_
            refine as_67 hΓ (e) rfl (by omega) dX12_keep_74 rfl ?_
            refine sv_aload_n hΓ dX12_keep_75 rfl 1 rfl rfl ?_
            refine g_X12_84_43 hΓ dX12_keep_76 rfl ?_
            refine sv_iload_n hΓ dX12_keep_79 rfl 2 rfl rfl ?_
            refine sv_iload_n hΓ dX12_keep_80 rfl 3 rfl rfl ?_
            refine sv_iconst (v := 3) hΓ dX12_keep_81 (by decide) rfl ?_
            refine sv_icmp_ne (tgt := 92) hΓ dX12_keep_82 (by decide) rfl (fun u25 => ?_) (fun u25 => absurd u25 (by decide))
            replace u25 : ¬ (4 : Int32) = 3 := u25
            refine sv_iload_n hΓ dX12_keep_92 rfl 3 rfl rfl ?_
            refine sv_iconst (v := 4) hΓ dX12_keep_93 (by decide) rfl ?_
            refine sv_icmp_ne (tgt := 102) hΓ dX12_keep_94 (by decide) rfl (fun u26 => absurd u26 (by decide)) (fun u26 => ?_)
            replace u26 : (4 : Int32) = 4 := u26
            refine sv_bipush (v := 16) hΓ dX12_keep_97 (by decide) rfl ?_
            refine sv_goto (pc' := 103) hΓ dX12_keep_99 (by decide) ?_
            refine as_68 hΓ (e) rfl (by omega) dX12_keep_103 rfl ?_
            refine sv_iload_n hΓ dX12_keep_104 rfl 3 rfl rfl ?_
            refine sv_iconst (v := 1) hΓ dX12_keep_105 (by decide) rfl ?_
            refine sv_icmp_ne (tgt := 182) hΓ dX12_keep_106 (by decide) rfl (fun u27 => ?_) (fun u27 => absurd u27 (by decide))
            replace u27 : ¬ (4 : Int32) = 1 := u27
            refine sv_iconst (v := 0) hΓ dX12_keep_182 (by decide) rfl ?_
            refine sv_istore (lv' := [(5, .int 0), (4, .int 1), (0, .ref 43), (1, .int (nI e)), (2, .int 4), (3, .int k)]) hΓ dX12_keep_183 (by decide) rfl rfl ?_
            have LP185 : ∀ kq i : Nat, i + kq = 16 → SV E Γ 6 (mm (up2 (up2 c0 67 e 4) 68 e 16) (rwC cl (60 * e) (fun i => cl 54 i) i) cr dy) nx 0 0 185 [(5, .int (nI i)), (0, .ref 43), (1, .int (nI e)), (2, .int 4), (3, .int k), (4, .int 1)] [] := by
              intro kq
              induction kq with
              | zero =>
                intro i ha
                have ea : i = 16 := by omega
                refine sv_iload hΓ dX12_keep_185 0 rfl rfl ?_
                refine sv_aload_n hΓ dX12_keep_187 rfl 1 rfl rfl ?_
                refine g_X12_84_43 hΓ dX12_keep_188 rfl ?_
                refine sv_iload_n hΓ dX12_keep_191 rfl 2 rfl rfl ?_
                refine ai_68 hΓ (e) rfl (by omega) dX12_keep_192 rfl ?_
                show SV E Γ 6 (mm (up2 (up2 c0 67 e 4) 68 e 16) (rwC cl (60 * e) (fun i => cl 54 i) i) cr dy) nx 0 0 193 [(5, .int (nI i)), (0, .ref 43), (1, .int (nI e)), (2, .int 4), (3, .int k), (4, .int 1)] [.int ((up2 (up2 c0 67 e 4) 68 e 16) 68 e), .int (nI i)]
                rw [up2_s]
                refine sv_icmp_ge (tgt := 237) hΓ dX12_keep_193 (by decide) rfl (fun u28 => ?_) (fun u28 => absurd (nI_le (a := 16) (by omega) (by omega)) u28)
                replace u28 : 16 ≤ ((nI i) : Int32) := u28
                refine sv_iconst (v := 0) hΓ dX12_keep_237 (by decide) rfl ?_
                exact sv_iret hΓ hQ dX12_keep_238 (Nat.le_of_ble_eq_true rfl) (Nat.le_of_ble_eq_true rfl) (Or.inr (Or.inr ⟨e, he, rfl, Or.inr (Or.inr (Or.inr ⟨rfl, rfl, by rw [show i = 16 by omega], rfl⟩))⟩))
              | succ kq ih =>
                intro i ha
                refine sv_iload hΓ dX12_keep_185 0 rfl rfl ?_
                refine sv_aload_n hΓ dX12_keep_187 rfl 1 rfl rfl ?_
                refine g_X12_84_43 hΓ dX12_keep_188 rfl ?_
                refine sv_iload_n hΓ dX12_keep_191 rfl 2 rfl rfl ?_
                refine ai_68 hΓ (e) rfl (by omega) dX12_keep_192 rfl ?_
                show SV E Γ 6 (mm (up2 (up2 c0 67 e 4) 68 e 16) (rwC cl (60 * e) (fun i => cl 54 i) i) cr dy) nx 0 0 193 [(5, .int (nI i)), (0, .ref 43), (1, .int (nI e)), (2, .int 4), (3, .int k), (4, .int 1)] [.int ((up2 (up2 c0 67 e 4) 68 e 16) 68 e), .int (nI i)]
                rw [up2_s]
                refine sv_icmp_ge (tgt := 237) hΓ dX12_keep_193 (by decide) rfl (fun u29 => absurd u29 (nI_ge (b := 16) (by omega) (by omega))) (fun u29 => ?_)
                replace u29 : ¬ (16 ≤ ((nI i) : Int32)) := u29
                refine sv_aload_n hΓ dX12_keep_196 rfl 1 rfl rfl ?_
                refine g_X12_93_43 hΓ dX12_keep_197 rfl ?_
                refine sv_bipush (v := 60) hΓ dX12_keep_200 (by decide) rfl ?_
                refine sv_iload_n hΓ dX12_keep_202 rfl 2 rfl rfl ?_
                refine sv_imulE (v := nI (60 * e)) hΓ dX12_keep_203 (nx_mul rfl rfl) rfl ?_
                refine sv_iload hΓ dX12_keep_204 0 rfl rfl ?_
                refine sv_iaddE (v := nI (60 * e + i)) hΓ dX12_keep_206 (nx_add rfl rfl) rfl ?_
                refine sv_iload_n hΓ dX12_keep_207 rfl 3 rfl rfl ?_
                refine sv_iconst (v := 3) hΓ dX12_keep_208 (by decide) rfl ?_
                refine sv_icmp_ne (tgt := 223) hΓ dX12_keep_209 (by decide) rfl (fun u30 => ?_) (fun u30 => absurd u30 (by decide))
                replace u30 : ¬ (4 : Int32) = 3 := u30
                refine sv_aload_n hΓ dX12_keep_223 rfl 1 rfl rfl ?_
                refine g_X12_42_43 hΓ dX12_keep_224 rfl ?_
                refine sv_iload hΓ dX12_keep_227 0 rfl rfl ?_
                refine al_54 hΓ (i) rfl (by omega) dX12_keep_229 rfl ?_
                refine at_71 hΓ (60 * e + i) rfl (by omega) dX12_keep_230 rfl ?_
                refine sv_iinc (v := nI (i + 1)) (lv' := [(5, .int (nI (i + 1))), (0, .ref 43), (1, .int (nI e)), (2, .int 4), (3, .int k), (4, .int 1)]) hΓ dX12_keep_231 0 rfl (nx_inc rfl) (by decide) rfl rfl ?_
                refine sv_goto (pc' := 185) hΓ dX12_keep_234 (by decide) ?_
                have q := ih (i + 1) (by omega)
                rw [show rwC cl (60 * e) (fun i => cl 54 i) (i + 1) = up2 (rwC cl (60 * e) (fun i => cl 54 i) i) 71 (60 * e + i) ((rwC cl (60 * e) (fun i => cl 54 i) i) 54 i) from by show up2 _ _ _ _ = _; rw [rwC_k cl _ _ (show ¬ 54 = 71 by decide)]] at q
                exact SV_lv [0, 1, 2, 3, 4, 5] rfl q
            exact SV_lv [0, 2, 3, 4, 5, 1] rfl (LP185 16 0 (by omega))
      · replace u11 : (m : Int32) = 1 := u11
        refine sv_aload_n hΓ dX12_keep_21 rfl 0 rfl rfl ?_
        refine sv_iload_n hΓ dX12_keep_22 rfl 3 rfl rfl ?_
        refine sv_callV hΓ (fun l => ct_X12_isActN l k n hn hn6) wv_X12_132 vs_X12_isAct rfl m_43 rfl rfl (by decide) (Nat.le_of_ble_eq_true rfl) (Nat.le_of_ble_eq_true rfl) (Nat.le_of_ble_eq_true rfl) dX12_keep_23 rfl (fun r M' nx' p31 => ?_)
        obtain ⟨rfl, rfl, rfl⟩ := p31
        show SV E Γ 6 (mm c0 cl cr dy) nx 0 0 26 [(0, .ref 43), (1, .int (nI e)), (2, .int m), (3, .int k)] [.int (bI (AI n k))]
        refine sv_if_ne (tgt := 39) hΓ dX12_keep_26 (by decide) rfl (fun u32 => ?_) (fun u32 => ?_)
        · replace u32 := bI_ne.mp u32
          obtain ⟨a, ha, ek⟩ := AI.k u32
          subst ek
          subst u11
          refine sv_iconst (v := 1) hΓ dX12_keep_39 (by decide) rfl ?_
          refine sv_goto (pc' := 44) hΓ dX12_keep_40 (by decide) ?_
          refine sv_istore (lv' := [(4, .int 1), (0, .ref 43), (1, .int (nI e)), (2, .int 1), (3, .int (nI a))]) hΓ dX12_keep_44 (by decide) rfl rfl ?_
          refine sv_iload hΓ dX12_keep_46 0 rfl rfl ?_
          refine sv_if_ne (tgt := 53) hΓ dX12_keep_48 (by decide) rfl (fun u33 => ?_) (fun u33 => absurd u33 (by decide))
          replace u33 : ¬ (1 : Int32) = 0 := u33
          refine sv_iload_n hΓ dX12_keep_53 rfl 3 rfl rfl ?_
          refine sv_iconst (v := 3) hΓ dX12_keep_54 (by decide) rfl ?_
          refine sv_icmp_ne (tgt := 68) hΓ dX12_keep_55 (by decide) rfl (fun u34 => ?_) (fun u34 => absurd u34 (by decide))
          replace u34 : ¬ (1 : Int32) = 3 := u34
          refine sv_aload_n hΓ dX12_keep_68 rfl 1 rfl rfl ?_
          refine g_X12_81_43 hΓ dX12_keep_69 rfl ?_
          refine sv_iload_n hΓ dX12_keep_72 rfl 2 rfl rfl ?_
          refine sv_iload_n hΓ dX12_keep_73 rfl 3 rfl rfl ?_
          refine as_67 hΓ (e) rfl (by omega) dX12_keep_74 rfl ?_
          refine sv_aload_n hΓ dX12_keep_75 rfl 1 rfl rfl ?_
          refine g_X12_84_43 hΓ dX12_keep_76 rfl ?_
          refine sv_iload_n hΓ dX12_keep_79 rfl 2 rfl rfl ?_
          refine sv_iload_n hΓ dX12_keep_80 rfl 3 rfl rfl ?_
          refine sv_iconst (v := 3) hΓ dX12_keep_81 (by decide) rfl ?_
          refine sv_icmp_ne (tgt := 92) hΓ dX12_keep_82 (by decide) rfl (fun u35 => ?_) (fun u35 => absurd u35 (by decide))
          replace u35 : ¬ (1 : Int32) = 3 := u35
          refine sv_iload_n hΓ dX12_keep_92 rfl 3 rfl rfl ?_
          refine sv_iconst (v := 4) hΓ dX12_keep_93 (by decide) rfl ?_
          refine sv_icmp_ne (tgt := 102) hΓ dX12_keep_94 (by decide) rfl (fun u36 => ?_) (fun u36 => absurd u36 (by decide))
          replace u36 : ¬ (1 : Int32) = 4 := u36
          refine sv_iconst (v := 0) hΓ dX12_keep_102 (by decide) rfl ?_
          refine as_68 hΓ (e) rfl (by omega) dX12_keep_103 rfl ?_
          refine sv_iload_n hΓ dX12_keep_104 rfl 3 rfl rfl ?_
          refine sv_iconst (v := 1) hΓ dX12_keep_105 (by decide) rfl ?_
          refine sv_icmp_ne (tgt := 182) hΓ dX12_keep_106 (by decide) rfl (fun u37 => absurd u37 (by decide)) (fun u37 => ?_)
          replace u37 : (1 : Int32) = 1 := u37
          refine sv_aload_n hΓ dX12_keep_109 rfl 1 rfl rfl ?_
          refine g_X12_87_43 hΓ dX12_keep_110 rfl ?_
          refine sv_iload_n hΓ dX12_keep_113 rfl 2 rfl rfl ?_
          refine sv_aload_n hΓ dX12_keep_114 rfl 1 rfl rfl ?_
          refine sv_iload_n hΓ dX12_keep_115 rfl 4 rfl rfl ?_
          refine sv_callV hΓ (fun l => ct_X12_weightOf l a (by omega)) wv_X12_275 vs_X12_weightOf rfl m_43 rfl rfl (by decide) (Nat.le_of_ble_eq_true rfl) (Nat.le_of_ble_eq_true rfl) (Nat.le_of_ble_eq_true rfl) dX12_keep_116 rfl (fun r M' nx' p38 => ?_)
          obtain ⟨rfl, rfl, rfl⟩ := p38
          show SV E Γ 6 (mm (up2 (up2 c0 67 e 1) 68 e 0) cl cr dy) nx 0 0 119 [(4, .int 1), (0, .ref 43), (1, .int (nI e)), (2, .int 1), (3, .int (nI a))] [.int (wtF (up2 (up2 c0 67 e 1) 68 e 0) a), .int (nI e), .ref 69]
          refine as_69 hΓ (e) rfl (by omega) dX12_keep_119 rfl ?_
          refine sv_aload_n hΓ dX12_keep_120 rfl 1 rfl rfl ?_
          refine g_X12_90_43 hΓ dX12_keep_121 rfl ?_
          refine sv_iload_n hΓ dX12_keep_124 rfl 2 rfl rfl ?_
          refine sv_aload_n hΓ dX12_keep_125 rfl 1 rfl rfl ?_
          refine g_X12_7_43 hΓ dX12_keep_126 rfl ?_
          refine sv_iload_n hΓ dX12_keep_129 rfl 4 rfl rfl ?_
          refine ai_44 hΓ (a) rfl (by omega) dX12_keep_130 rfl ?_
          refine sv_iconst (v := 5) hΓ dX12_keep_131 (by decide) rfl ?_
          refine sv_icmp_ne (tgt := 139) hΓ dX12_keep_132 (by decide) rfl (fun u39 => ?_) (fun u39 => ?_)
          · replace u39 : ¬ ((c0 44 a) : Int32) = 5 := u39
            refine sv_aload_n hΓ dX12_keep_139 rfl 1 rfl rfl ?_
            refine g_X12_7_43 hΓ dX12_keep_140 rfl ?_
            refine sv_iload_n hΓ dX12_keep_143 rfl 4 rfl rfl ?_
            refine ai_44 hΓ (a) rfl (by omega) dX12_keep_144 rfl ?_
            refine sv_bipush (v := 8) hΓ dX12_keep_145 (by decide) rfl ?_
            refine sv_icmp_eq (tgt := 161) hΓ dX12_keep_147 (by decide) rfl (fun u40 => ?_) (fun u40 => ?_)
            · replace u40 : ((c0 44 a) : Int32) = 8 := u40
              refine sv_iconst (v := 2) hΓ dX12_keep_161 (by decide) rfl ?_
              refine sv_goto (pc' := 181) hΓ dX12_keep_162 (by decide) ?_
              refine as_70 hΓ (e) rfl (by omega) dX12_keep_181 rfl ?_
              refine sv_iconst (v := 0) hΓ dX12_keep_182 (by decide) rfl ?_
              refine sv_istore (lv' := [(5, .int 0), (4, .int 1), (0, .ref 43), (1, .int (nI e)), (2, .int 1), (3, .int (nI a))]) hΓ dX12_keep_183 (by decide) rfl rfl ?_
              refine sv_iload hΓ dX12_keep_185 0 rfl rfl ?_
              refine sv_aload_n hΓ dX12_keep_187 rfl 2 rfl rfl ?_
              refine g_X12_84_43 hΓ dX12_keep_188 rfl ?_
              refine sv_iload_n hΓ dX12_keep_191 rfl 3 rfl rfl ?_
              refine ai_68 hΓ (e) rfl (by omega) dX12_keep_192 rfl ?_
              show SV E Γ 6 (mm (up2 (up2 (up2 (up2 c0 67 e 1) 68 e 0) 69 e (wtF (up2 (up2 c0 67 e 1) 68 e 0) a)) 70 e 2) cl cr dy) nx 0 0 193 [(5, .int 0), (4, .int 1), (0, .ref 43), (1, .int (nI e)), (2, .int 1), (3, .int (nI a))] [.int ((up2 (up2 c0 67 e 1) 68 e 0) 68 e), .int 0]
              rw [up2_s]
              refine sv_icmp_ge (tgt := 237) hΓ dX12_keep_193 (by decide) rfl (fun u41 => ?_) (fun u41 => absurd (by decide) u41)
              replace u41 : 0 ≤ (0 : Int32) := u41
              refine sv_iconst (v := 0) hΓ dX12_keep_237 (by decide) rfl ?_
              exact sv_iret hΓ hQ dX12_keep_238 (Nat.le_of_ble_eq_true rfl) (Nat.le_of_ble_eq_true rfl) (Or.inr (Or.inr ⟨e, he, rfl, Or.inr (Or.inl ⟨rfl, a, ha, rfl, rfl, by rw [show sfF c0 a = 2 from by rw [sfF, if_neg u39, if_pos u40]]; rfl, rfl⟩)⟩))
            · replace u40 : ¬ (((c0 44 a) : Int32) = 8) := u40
              refine sv_aload_n hΓ dX12_keep_150 rfl 1 rfl rfl ?_
              refine g_X12_7_43 hΓ dX12_keep_151 rfl ?_
              refine sv_iload_n hΓ dX12_keep_154 rfl 4 rfl rfl ?_
              refine ai_44 hΓ (a) rfl (by omega) dX12_keep_155 rfl ?_
              refine sv_bipush (v := 9) hΓ dX12_keep_156 (by decide) rfl ?_
              refine sv_icmp_ne (tgt := 165) hΓ dX12_keep_158 (by decide) rfl (fun u42 => ?_) (fun u42 => ?_)
              · replace u42 : ¬ ((c0 44 a) : Int32) = 9 := u42
                refine sv_aload_n hΓ dX12_keep_165 rfl 1 rfl rfl ?_
                refine g_X12_7_43 hΓ dX12_keep_166 rfl ?_
                refine sv_iload_n hΓ dX12_keep_169 rfl 4 rfl rfl ?_
                refine ai_44 hΓ (a) rfl (by omega) dX12_keep_170 rfl ?_
                refine sv_iconst (v := 1) hΓ dX12_keep_171 (by decide) rfl ?_
                refine sv_icmp_ne (tgt := 179) hΓ dX12_keep_172 (by decide) rfl (fun u43 => ?_) (fun u43 => ?_)
                · replace u43 : ¬ ((c0 44 a) : Int32) = 1 := u43
                  refine sv_bipush (v := (-15)) hΓ dX12_keep_179 (by decide) rfl ?_
                  refine as_70 hΓ (e) rfl (by omega) dX12_keep_181 rfl ?_
                  refine sv_iconst (v := 0) hΓ dX12_keep_182 (by decide) rfl ?_
                  refine sv_istore (lv' := [(5, .int 0), (4, .int 1), (0, .ref 43), (1, .int (nI e)), (2, .int 1), (3, .int (nI a))]) hΓ dX12_keep_183 (by decide) rfl rfl ?_
                  refine sv_iload hΓ dX12_keep_185 0 rfl rfl ?_
                  refine sv_aload_n hΓ dX12_keep_187 rfl 2 rfl rfl ?_
                  refine g_X12_84_43 hΓ dX12_keep_188 rfl ?_
                  refine sv_iload_n hΓ dX12_keep_191 rfl 3 rfl rfl ?_
                  refine ai_68 hΓ (e) rfl (by omega) dX12_keep_192 rfl ?_
                  show SV E Γ 6 (mm (up2 (up2 (up2 (up2 c0 67 e 1) 68 e 0) 69 e (wtF (up2 (up2 c0 67 e 1) 68 e 0) a)) 70 e ((-15))) cl cr dy) nx 0 0 193 [(5, .int 0), (4, .int 1), (0, .ref 43), (1, .int (nI e)), (2, .int 1), (3, .int (nI a))] [.int ((up2 (up2 c0 67 e 1) 68 e 0) 68 e), .int 0]
                  rw [up2_s]
                  refine sv_icmp_ge (tgt := 237) hΓ dX12_keep_193 (by decide) rfl (fun u44 => ?_) (fun u44 => absurd (by decide) u44)
                  replace u44 : 0 ≤ (0 : Int32) := u44
                  refine sv_iconst (v := 0) hΓ dX12_keep_237 (by decide) rfl ?_
                  exact sv_iret hΓ hQ dX12_keep_238 (Nat.le_of_ble_eq_true rfl) (Nat.le_of_ble_eq_true rfl) (Or.inr (Or.inr ⟨e, he, rfl, Or.inr (Or.inl ⟨rfl, a, ha, rfl, rfl, by rw [show sfF c0 a = (-15) from by rw [sfF, if_neg u39, if_neg u40, if_neg u42, if_neg u43]]; rfl, rfl⟩)⟩))
                · replace u43 : ((c0 44 a) : Int32) = 1 := u43
                  refine sv_iconst (v := 3) hΓ dX12_keep_175 (by decide) rfl ?_
                  refine sv_goto (pc' := 181) hΓ dX12_keep_176 (by decide) ?_
                  refine as_70 hΓ (e) rfl (by omega) dX12_keep_181 rfl ?_
                  refine sv_iconst (v := 0) hΓ dX12_keep_182 (by decide) rfl ?_
                  refine sv_istore (lv' := [(5, .int 0), (4, .int 1), (0, .ref 43), (1, .int (nI e)), (2, .int 1), (3, .int (nI a))]) hΓ dX12_keep_183 (by decide) rfl rfl ?_
                  refine sv_iload hΓ dX12_keep_185 0 rfl rfl ?_
                  refine sv_aload_n hΓ dX12_keep_187 rfl 2 rfl rfl ?_
                  refine g_X12_84_43 hΓ dX12_keep_188 rfl ?_
                  refine sv_iload_n hΓ dX12_keep_191 rfl 3 rfl rfl ?_
                  refine ai_68 hΓ (e) rfl (by omega) dX12_keep_192 rfl ?_
                  show SV E Γ 6 (mm (up2 (up2 (up2 (up2 c0 67 e 1) 68 e 0) 69 e (wtF (up2 (up2 c0 67 e 1) 68 e 0) a)) 70 e 3) cl cr dy) nx 0 0 193 [(5, .int 0), (4, .int 1), (0, .ref 43), (1, .int (nI e)), (2, .int 1), (3, .int (nI a))] [.int ((up2 (up2 c0 67 e 1) 68 e 0) 68 e), .int 0]
                  rw [up2_s]
                  refine sv_icmp_ge (tgt := 237) hΓ dX12_keep_193 (by decide) rfl (fun u45 => ?_) (fun u45 => absurd (by decide) u45)
                  replace u45 : 0 ≤ (0 : Int32) := u45
                  refine sv_iconst (v := 0) hΓ dX12_keep_237 (by decide) rfl ?_
                  exact sv_iret hΓ hQ dX12_keep_238 (Nat.le_of_ble_eq_true rfl) (Nat.le_of_ble_eq_true rfl) (Or.inr (Or.inr ⟨e, he, rfl, Or.inr (Or.inl ⟨rfl, a, ha, rfl, rfl, by rw [show sfF c0 a = 3 from by rw [sfF, if_neg u39, if_neg u40, if_neg u42, if_pos u43]]; rfl, rfl⟩)⟩))
              · replace u42 : ((c0 44 a) : Int32) = 9 := u42
                refine sv_iconst (v := 2) hΓ dX12_keep_161 (by decide) rfl ?_
                refine sv_goto (pc' := 181) hΓ dX12_keep_162 (by decide) ?_
                refine as_70 hΓ (e) rfl (by omega) dX12_keep_181 rfl ?_
                refine sv_iconst (v := 0) hΓ dX12_keep_182 (by decide) rfl ?_
                refine sv_istore (lv' := [(5, .int 0), (4, .int 1), (0, .ref 43), (1, .int (nI e)), (2, .int 1), (3, .int (nI a))]) hΓ dX12_keep_183 (by decide) rfl rfl ?_
                refine sv_iload hΓ dX12_keep_185 0 rfl rfl ?_
                refine sv_aload_n hΓ dX12_keep_187 rfl 2 rfl rfl ?_
                refine g_X12_84_43 hΓ dX12_keep_188 rfl ?_
                refine sv_iload_n hΓ dX12_keep_191 rfl 3 rfl rfl ?_
                refine ai_68 hΓ (e) rfl (by omega) dX12_keep_192 rfl ?_
                show SV E Γ 6 (mm (up2 (up2 (up2 (up2 c0 67 e 1) 68 e 0) 69 e (wtF (up2 (up2 c0 67 e 1) 68 e 0) a)) 70 e 2) cl cr dy) nx 0 0 193 [(5, .int 0), (4, .int 1), (0, .ref 43), (1, .int (nI e)), (2, .int 1), (3, .int (nI a))] [.int ((up2 (up2 c0 67 e 1) 68 e 0) 68 e), .int 0]
                rw [up2_s]
                refine sv_icmp_ge (tgt := 237) hΓ dX12_keep_193 (by decide) rfl (fun u46 => ?_) (fun u46 => absurd (by decide) u46)
                replace u46 : 0 ≤ (0 : Int32) := u46
                refine sv_iconst (v := 0) hΓ dX12_keep_237 (by decide) rfl ?_
                exact sv_iret hΓ hQ dX12_keep_238 (Nat.le_of_ble_eq_true rfl) (Nat.le_of_ble_eq_true rfl) (Or.inr (Or.inr ⟨e, he, rfl, Or.inr (Or.inl ⟨rfl, a, ha, rfl, rfl, by rw [show sfF c0 a = 2 from by rw [sfF, if_neg u39, if_neg u40, if_pos u42]]; rfl, rfl⟩)⟩))
          · replace u39 : ((c0 44 a) : Int32) = 5 := u39
            refine sv_iconst (v := 1) hΓ dX12_keep_135 (by decide) rfl ?_
            refine sv_goto (pc' := 181) hΓ dX12_keep_136 (by decide) ?_
            refine as_70 hΓ (e) rfl (by omega) dX12_keep_181 rfl ?_
            refine sv_iconst (v := 0) hΓ dX12_keep_182 (by decide) rfl ?_
            refine sv_istore (lv' := [(5, .int 0), (4, .int 1), (0, .ref 43), (1, .int (nI e)), (2, .int 1), (3, .int (nI a))]) hΓ dX12_keep_183 (by decide) rfl rfl ?_
            refine sv_iload hΓ dX12_keep_185 0 rfl rfl ?_
            refine sv_aload_n hΓ dX12_keep_187 rfl 2 rfl rfl ?_
            refine g_X12_84_43 hΓ dX12_keep_188 rfl ?_
            refine sv_iload_n hΓ dX12_keep_191 rfl 3 rfl rfl ?_
            refine ai_68 hΓ (e) rfl (by omega) dX12_keep_192 rfl ?_
            show SV E Γ 6 (mm (up2 (up2 (up2 (up2 c0 67 e 1) 68 e 0) 69 e (wtF (up2 (up2 c0 67 e 1) 68 e 0) a)) 70 e 1) cl cr dy) nx 0 0 193 [(5, .int 0), (4, .int 1), (0, .ref 43), (1, .int (nI e)), (2, .int 1), (3, .int (nI a))] [.int ((up2 (up2 c0 67 e 1) 68 e 0) 68 e), .int 0]
            rw [up2_s]
            refine sv_icmp_ge (tgt := 237) hΓ dX12_keep_193 (by decide) rfl (fun u47 => ?_) (fun u47 => absurd (by decide) u47)
            replace u47 : 0 ≤ (0 : Int32) := u47
            refine sv_iconst (v := 0) hΓ dX12_keep_237 (by decide) rfl ?_
            exact sv_iret hΓ hQ dX12_keep_238 (Nat.le_of_ble_eq_true rfl) (Nat.le_of_ble_eq_true rfl) (Or.inr (Or.inr ⟨e, he, rfl, Or.inr (Or.inl ⟨rfl, a, ha, rfl, rfl, by rw [show sfF c0 a = 1 from by rw [sfF, if_pos u39]]; rfl, rfl⟩)⟩))
        · replace u32 := bI_0.mp u32
          subst u11
          refine sv_iload_n hΓ dX12_keep_29 rfl 2 rfl rfl ?_
          refine sv_iconst (v := 3) hΓ dX12_keep_30 (by decide) rfl ?_
          refine sv_icmp_eq (tgt := 39) hΓ dX12_keep_31 (by decide) rfl (fun u48 => absurd u48 (by decide)) (fun u48 => ?_)
          replace u48 : ¬ ((1 : Int32) = 3) := u48
          refine sv_iload_n hΓ dX12_keep_34 rfl 2 rfl rfl ?_
          refine sv_iconst (v := 4) hΓ dX12_keep_35 (by decide) rfl ?_
          refine sv_icmp_ne (tgt := 43) hΓ dX12_keep_36 (by decide) rfl (fun u49 => ?_) (fun u49 => absurd u49 (by decide))
          replace u49 : ¬ (1 : Int32) = 4 := u49
          refine sv_iconst (v := 0) hΓ dX12_keep_43 (by decide) rfl ?_
          refine sv_istore (lv' := [(4, .int 0), (0, .ref 43), (1, .int (nI e)), (2, .int 1), (3, .int k)]) hΓ dX12_keep_44 (by decide) rfl rfl ?_
          refine sv_iload hΓ dX12_keep_46 0 rfl rfl ?_
          refine sv_if_ne (tgt := 53) hΓ dX12_keep_48 (by decide) rfl (fun u50 => absurd u50 (by decide)) (fun u50 => ?_)
          replace u50 : (0 : Int32) = 0 := u50
          refine sv_iconst (v := (-1)) hΓ dX12_keep_51 (by decide) rfl ?_
          exact sv_iret hΓ hQ dX12_keep_52 (Nat.le_of_ble_eq_true rfl) (Nat.le_of_ble_eq_true rfl) (Or.inl ⟨by unfold KC; grind, rfl, rfl, rfl⟩)
