set_option maxRecDepth 100000 in
set_option maxHeartbeats 4000000 in
/-- numberAt -/
theorem ct_X12_numberAt {E : aG} (l : Launch) (a : Nat) (w : Nat) (x : Nat) {ci : Nat → Nat → Int32} {cl : Nat → Nat → Int64} {cr : Nat → Nat → Option Nat} {dy : aM} {nx : Nat} (ha : a < 16) (hw3 : w < 3) (hx : ci 46 (3 * a + w) = nI x) (hx6 : x < 16) : CT E l yX12_numberAt cX12_numberAt 3 (some .long) 0 [.ref 43, .int (nI a), .int (nI w)] (mm ci cl cr dy) nx 0 0 (fun r M' nx' => r = some (.long (vA ci cl a w)) ∧ M' = mm ci cl cr dy ∧ nx = nx') := by
  refine CT_intro (by decide) (Nat.le_of_ble_eq_true rfl) (fun Γ hΓ hQ => ?_)
  replace hΓ : CK E RX12 cX12_numberAt 3 (some .long) "numberAt" 0 0 0 Γ := hΓ
  show SV E Γ 3 (mm ci cl cr dy) nx 0 0 0 [(0, .ref 43), (1, .int (nI a)), (2, .int (nI w))] []
  refine sv_aload_n hΓ dX12_numberAt_0 rfl 0 rfl rfl ?_
  refine g_X12_75_43 hΓ dX12_numberAt_1 rfl ?_
  refine sv_aload_n hΓ dX12_numberAt_4 rfl 0 rfl rfl ?_
  refine g_X12_16_43 hΓ dX12_numberAt_5 rfl ?_
  refine sv_iconst (v := 3) hΓ dX12_numberAt_8 (by decide) rfl ?_
  refine sv_iload_n hΓ dX12_numberAt_9 rfl 1 rfl rfl ?_
  refine sv_imulE (v := nI (3 * a)) hΓ dX12_numberAt_10 (nx_mul rfl rfl) rfl ?_
  refine sv_iload_n hΓ dX12_numberAt_11 rfl 2 rfl rfl ?_
  refine sv_iaddE (v := nI (3 * a + w)) hΓ dX12_numberAt_12 (nx_add rfl rfl) rfl ?_
  refine ai_46 hΓ (3 * a + w) rfl (by omega) dX12_numberAt_13 rfl ?_
  refine al_65 hΓ (x) hx (by omega) dX12_numberAt_14 rfl ?_
  exact sv_lret hΓ hQ dX12_numberAt_15 (Nat.le_of_ble_eq_true rfl) (Nat.le_of_ble_eq_true rfl) ⟨by rw [vA, hx, nI_clamp (by omega)], rfl, rfl⟩
set_option maxRecDepth 100000 in
set_option maxHeartbeats 4000000 in
/-- why -/
theorem ct_X12_why {E : aG} (l : Launch) (a : Nat) {ci : Nat → Nat → Int32} {cl : Nat → Nat → Int64} {cr : Nat → Nat → Option Nat} {dy : aM} {nx : Nat} (ha : a < 16) (hw : WF ci a) : CT E l yX12_why cX12_why 2 (some .int) 1 [.ref 43, .int (nI a)] (mm ci cl cr dy) nx 0 0 (fun r M' nx' => r = some (.int (whF ci cl a)) ∧ M' = mm ci cl cr dy ∧ nx = nx') := by
  refine CT_intro (by decide) (Nat.le_of_ble_eq_true rfl) (fun Γ hΓ hQ => ?_)
  replace hΓ : CK E RX12 cX12_why 2 (some .int) "why" 1 0 0 Γ := hΓ
  show SV E Γ 2 (mm ci cl cr dy) nx 0 0 0 [(0, .ref 43), (1, .int (nI a))] []
  refine sv_aload_n hΓ dX12_why_0 rfl 0 rfl rfl ?_
  refine g_X12_7_43 hΓ dX12_why_1 rfl ?_
  refine sv_iload_n hΓ dX12_why_4 rfl 1 rfl rfl ?_
  refine ai_44 hΓ (a) rfl (by omega) dX12_why_5 rfl ?_
  refine sv_table (x := ci 44 a) (lo := 1) (hi := 9) 8 rfl (fun u1 => ?_) (fun k hk u1 => ?_)
  · refine sv_tableOut (pc' := 126) hΓ dX12_why_6 u1 (by decide) ?_
    refine sv_iconst (v := 0) hΓ dX12_why_126 (by decide) rfl ?_
    exact sv_iret hΓ hQ dX12_why_127 (Nat.le_of_ble_eq_true rfl) (Nat.le_of_ble_eq_true rfl) ⟨by simp [whF, out_ne u1 1 (by decide), out_ne u1 2 (by decide), out_ne u1 3 (by decide), out_ne u1 4 (by decide), out_ne u1 5 (by decide), out_ne u1 6 (by decide), out_ne u1 7 (by decide), out_ne u1 8 (by decide), out_ne u1 9 (by decide)], rfl, rfl⟩
  · obtain rfl | rfl | rfl | rfl | rfl | rfl | rfl | rfl | rfl : k = 0 ∨ k = 1 ∨ k = 2 ∨ k = 3 ∨ k = 4 ∨ k = 5 ∨ k = 6 ∨ k = 7 ∨ k = 8 := by omega
    · refine sv_tableIn (off := 50) (pc' := 56) hΓ dX12_why_6 (by omega) (by omega) (by rw [u1]; rfl) (by decide) ?_
      replace u1 : ci 44 a = (1 : Int32) := Int32.toInt_inj.mp (u1.trans (by decide))
      obtain ⟨q, hq4, hq⟩ := hw.q (by rw [u1]; decide)
      refine sv_aload_n hΓ dX12_why_56 rfl 0 rfl rfl ?_
      refine g_X12_78_43 hΓ dX12_why_57 rfl ?_
      refine sv_aload_n hΓ dX12_why_60 rfl 0 rfl rfl ?_
      refine g_X12_19_43 hΓ dX12_why_61 rfl ?_
      refine sv_iload_n hΓ dX12_why_64 rfl 1 rfl rfl ?_
      refine ai_47 hΓ (a) rfl (by omega) dX12_why_65 rfl ?_
      refine ai_66 hΓ (q) hq (by omega) dX12_why_66 rfl ?_
      refine sv_aload_n hΓ dX12_why_67 rfl 0 rfl rfl ?_
      refine g_X12_36_43 hΓ dX12_why_68 rfl ?_
      refine sv_aload_n hΓ dX12_why_71 rfl 0 rfl rfl ?_
      refine g_X12_19_43 hΓ dX12_why_72 rfl ?_
      refine sv_iload_n hΓ dX12_why_75 rfl 1 rfl rfl ?_
      refine ai_47 hΓ (a) rfl (by omega) dX12_why_76 rfl ?_
      refine ai_52 hΓ (q) hq (by omega) dX12_why_77 rfl ?_
      refine sv_icmp_ne (tgt := 85) hΓ dX12_why_78 (by decide) rfl (fun u2 => ?_) (fun u2 => ?_)
      · refine sv_iconst (v := 0) hΓ dX12_why_85 (by decide) rfl ?_
        exact sv_iret hΓ hQ dX12_why_86 (Nat.le_of_ble_eq_true rfl) (Nat.le_of_ble_eq_true rfl) ⟨by rw [whF, if_pos u1, hq, nI_clamp (by omega), if_neg u2], rfl, rfl⟩
      · refine sv_iconst (v := 3) hΓ dX12_why_81 (by decide) rfl ?_
        refine sv_goto (pc' := 86) hΓ dX12_why_82 (by decide) ?_
        exact sv_iret hΓ hQ dX12_why_86 (Nat.le_of_ble_eq_true rfl) (Nat.le_of_ble_eq_true rfl) ⟨by rw [whF, if_pos u1, hq, nI_clamp (by omega), if_pos u2], rfl, rfl⟩
    · refine sv_tableIn (off := 120) (pc' := 126) hΓ dX12_why_6 (by omega) (by omega) (by rw [u1]; rfl) (by decide) ?_
      replace u1 : ci 44 a = (2 : Int32) := Int32.toInt_inj.mp (u1.trans (by decide))
      refine sv_iconst (v := 0) hΓ dX12_why_126 (by decide) rfl ?_
      exact sv_iret hΓ hQ dX12_why_127 (Nat.le_of_ble_eq_true rfl) (Nat.le_of_ble_eq_true rfl) ⟨by simp [whF, u1], rfl, rfl⟩
    · refine sv_tableIn (off := 120) (pc' := 126) hΓ dX12_why_6 (by omega) (by omega) (by rw [u1]; rfl) (by decide) ?_
      replace u1 : ci 44 a = (3 : Int32) := Int32.toInt_inj.mp (u1.trans (by decide))
      refine sv_iconst (v := 0) hΓ dX12_why_126 (by decide) rfl ?_
      exact sv_iret hΓ hQ dX12_why_127 (Nat.le_of_ble_eq_true rfl) (Nat.le_of_ble_eq_true rfl) ⟨by simp [whF, u1], rfl, rfl⟩
    · refine sv_tableIn (off := 120) (pc' := 126) hΓ dX12_why_6 (by omega) (by omega) (by rw [u1]; rfl) (by decide) ?_
      replace u1 : ci 44 a = (4 : Int32) := Int32.toInt_inj.mp (u1.trans (by decide))
      refine sv_iconst (v := 0) hΓ dX12_why_126 (by decide) rfl ?_
      exact sv_iret hΓ hQ dX12_why_127 (Nat.le_of_ble_eq_true rfl) (Nat.le_of_ble_eq_true rfl) ⟨by simp [whF, u1], rfl, rfl⟩
    · refine sv_tableIn (off := 81) (pc' := 87) hΓ dX12_why_6 (by omega) (by omega) (by rw [u1]; rfl) (by decide) ?_
      replace u1 : ci 44 a = (5 : Int32) := Int32.toInt_inj.mp (u1.trans (by decide))
      obtain ⟨y, hy6, hy⟩ := hw.y (by rw [u1]; decide)
      refine sv_aload_n hΓ dX12_why_87 rfl 0 rfl rfl ?_
      refine sv_iload_n hΓ dX12_why_88 rfl 1 rfl rfl ?_
      refine sv_iconst (v := 1) hΓ dX12_why_89 (by decide) rfl ?_
      refine sv_callV hΓ (fun l => ct_X12_numberAt l a 1 y (by omega) (by omega) hy (by omega)) wv_X12_243 vs_X12_numberAt rfl m_43 rfl rfl (by decide) (Nat.le_of_ble_eq_true rfl) (Nat.le_of_ble_eq_true rfl) (Nat.le_of_ble_eq_true rfl) dX12_why_90 rfl (fun r M' nx' p3 => ?_)
      obtain ⟨rfl, rfl, rfl⟩ := p3
      show SV E Γ 2 (mm ci cl cr dy) nx 0 0 93 [(0, .ref 43), (1, .int (nI a))] [.long (vA ci cl a 1)]
      refine sv_lconst (v := 0) hΓ dX12_why_93 (by decide) rfl ?_
      refine sv_lcmp hΓ dX12_why_94 rfl ?_
      refine sv_if_ne (tgt := 102) hΓ dX12_why_95 (by decide) rfl (fun u4 => ?_) (fun u4 => ?_)
      · replace u4 := lgc_ne.mp u4
        refine sv_iconst (v := 0) hΓ dX12_why_102 (by decide) rfl ?_
        exact sv_iret hΓ hQ dX12_why_103 (Nat.le_of_ble_eq_true rfl) (Nat.le_of_ble_eq_true rfl) ⟨by rw [whF, if_neg (by rw [u1]; decide), if_pos u1, if_neg u4], rfl, rfl⟩
      · replace u4 := lgc_eq.mp u4
        refine sv_iconst (v := 1) hΓ dX12_why_98 (by decide) rfl ?_
        refine sv_goto (pc' := 103) hΓ dX12_why_99 (by decide) ?_
        exact sv_iret hΓ hQ dX12_why_103 (Nat.le_of_ble_eq_true rfl) (Nat.le_of_ble_eq_true rfl) ⟨by rw [whF, if_neg (by rw [u1]; decide), if_pos u1, if_pos u4], rfl, rfl⟩
    · refine sv_tableIn (off := 120) (pc' := 126) hΓ dX12_why_6 (by omega) (by omega) (by rw [u1]; rfl) (by decide) ?_
      replace u1 : ci 44 a = (6 : Int32) := Int32.toInt_inj.mp (u1.trans (by decide))
      refine sv_iconst (v := 0) hΓ dX12_why_126 (by decide) rfl ?_
      exact sv_iret hΓ hQ dX12_why_127 (Nat.le_of_ble_eq_true rfl) (Nat.le_of_ble_eq_true rfl) ⟨by simp [whF, u1], rfl, rfl⟩
    · refine sv_tableIn (off := 120) (pc' := 126) hΓ dX12_why_6 (by omega) (by omega) (by rw [u1]; rfl) (by decide) ?_
      replace u1 : ci 44 a = (7 : Int32) := Int32.toInt_inj.mp (u1.trans (by decide))
      refine sv_iconst (v := 0) hΓ dX12_why_126 (by decide) rfl ?_
      exact sv_iret hΓ hQ dX12_why_127 (Nat.le_of_ble_eq_true rfl) (Nat.le_of_ble_eq_true rfl) ⟨by simp [whF, u1], rfl, rfl⟩
    · refine sv_tableIn (off := 98) (pc' := 104) hΓ dX12_why_6 (by omega) (by omega) (by rw [u1]; rfl) (by decide) ?_
      replace u1 : ci 44 a = (8 : Int32) := Int32.toInt_inj.mp (u1.trans (by decide))
      obtain ⟨x, hx6, hx⟩ := hw.x (by rw [u1]; decide) (by rw [u1]; decide)
      refine sv_aload_n hΓ dX12_why_104 rfl 0 rfl rfl ?_
      refine sv_iload_n hΓ dX12_why_105 rfl 1 rfl rfl ?_
      refine sv_iconst (v := 0) hΓ dX12_why_106 (by decide) rfl ?_
      refine sv_callV hΓ (fun l => ct_X12_numberAt l a 0 x (by omega) (by omega) hx (by omega)) wv_X12_243 vs_X12_numberAt rfl m_43 rfl rfl (by decide) (Nat.le_of_ble_eq_true rfl) (Nat.le_of_ble_eq_true rfl) (Nat.le_of_ble_eq_true rfl) dX12_why_107 rfl (fun r M' nx' p5 => ?_)
      obtain ⟨rfl, rfl, rfl⟩ := p5
      show SV E Γ 2 (mm ci cl cr dy) nx 0 0 110 [(0, .ref 43), (1, .int (nI a))] [.long (vA ci cl a 0)]
      refine sv_lconst (v := 0) hΓ dX12_why_110 (by decide) rfl ?_
      refine sv_ldc2 hΓ dX12_why_111 tb_1138 rfl ?_
      refine sv_callS hΓ (fun l => ct_X12_isIn l (vA ci cl a 0) 0 15 ) wv_X12_118 tb_1080 rfl rfl (by decide) (Nat.le_of_ble_eq_true rfl) (Nat.le_of_ble_eq_true rfl) (Nat.le_of_ble_eq_true rfl) dX12_why_114 rfl (fun r M' nx' p6 => ?_)
      obtain ⟨rfl, rfl, rfl⟩ := p6
      show SV E Γ 2 (mm ci cl cr dy) nx 0 0 117 [(0, .ref 43), (1, .int (nI a))] [.int (bI (¬ (vA ci cl a 0) < 0 ∧ ¬ 15 < (vA ci cl a 0)))]
      refine sv_if_eq (tgt := 124) hΓ dX12_why_117 (by decide) rfl (fun u7 => ?_) (fun u7 => ?_)
      · replace u7 := bI_0.mp u7
        refine sv_iconst (v := 2) hΓ dX12_why_124 (by decide) rfl ?_
        exact sv_iret hΓ hQ dX12_why_125 (Nat.le_of_ble_eq_true rfl) (Nat.le_of_ble_eq_true rfl) ⟨by rw [whF, if_neg (by rw [u1]; decide), if_neg (by rw [u1]; decide), if_pos (by rw [u1]; decide), if_neg u7], rfl, rfl⟩
      · replace u7 := bI_ne.mp u7
        refine sv_iconst (v := 0) hΓ dX12_why_120 (by decide) rfl ?_
        refine sv_goto (pc' := 125) hΓ dX12_why_121 (by decide) ?_
        exact sv_iret hΓ hQ dX12_why_125 (Nat.le_of_ble_eq_true rfl) (Nat.le_of_ble_eq_true rfl) ⟨by rw [whF, if_neg (by rw [u1]; decide), if_neg (by rw [u1]; decide), if_pos (by rw [u1]; decide), if_pos u7], rfl, rfl⟩
    · refine sv_tableIn (off := 98) (pc' := 104) hΓ dX12_why_6 (by omega) (by omega) (by rw [u1]; rfl) (by decide) ?_
      replace u1 : ci 44 a = (9 : Int32) := Int32.toInt_inj.mp (u1.trans (by decide))
      obtain ⟨x, hx6, hx⟩ := hw.x (by rw [u1]; decide) (by rw [u1]; decide)
      refine sv_aload_n hΓ dX12_why_104 rfl 0 rfl rfl ?_
      refine sv_iload_n hΓ dX12_why_105 rfl 1 rfl rfl ?_
      refine sv_iconst (v := 0) hΓ dX12_why_106 (by decide) rfl ?_
      refine sv_callV hΓ (fun l => ct_X12_numberAt l a 0 x (by omega) (by omega) hx (by omega)) wv_X12_243 vs_X12_numberAt rfl m_43 rfl rfl (by decide) (Nat.le_of_ble_eq_true rfl) (Nat.le_of_ble_eq_true rfl) (Nat.le_of_ble_eq_true rfl) dX12_why_107 rfl (fun r M' nx' p8 => ?_)
      obtain ⟨rfl, rfl, rfl⟩ := p8
      show SV E Γ 2 (mm ci cl cr dy) nx 0 0 110 [(0, .ref 43), (1, .int (nI a))] [.long (vA ci cl a 0)]
      refine sv_lconst (v := 0) hΓ dX12_why_110 (by decide) rfl ?_
      refine sv_ldc2 hΓ dX12_why_111 tb_1138 rfl ?_
      refine sv_callS hΓ (fun l => ct_X12_isIn l (vA ci cl a 0) 0 15 ) wv_X12_118 tb_1080 rfl rfl (by decide) (Nat.le_of_ble_eq_true rfl) (Nat.le_of_ble_eq_true rfl) (Nat.le_of_ble_eq_true rfl) dX12_why_114 rfl (fun r M' nx' p9 => ?_)
      obtain ⟨rfl, rfl, rfl⟩ := p9
      show SV E Γ 2 (mm ci cl cr dy) nx 0 0 117 [(0, .ref 43), (1, .int (nI a))] [.int (bI (¬ (vA ci cl a 0) < 0 ∧ ¬ 15 < (vA ci cl a 0)))]
      refine sv_if_eq (tgt := 124) hΓ dX12_why_117 (by decide) rfl (fun u10 => ?_) (fun u10 => ?_)
      · replace u10 := bI_0.mp u10
        refine sv_iconst (v := 2) hΓ dX12_why_124 (by decide) rfl ?_
        exact sv_iret hΓ hQ dX12_why_125 (Nat.le_of_ble_eq_true rfl) (Nat.le_of_ble_eq_true rfl) ⟨by rw [whF, if_neg (by rw [u1]; decide), if_neg (by rw [u1]; decide), if_pos (by rw [u1]; decide), if_neg u10], rfl, rfl⟩
      · replace u10 := bI_ne.mp u10
        refine sv_iconst (v := 0) hΓ dX12_why_120 (by decide) rfl ?_
        refine sv_goto (pc' := 125) hΓ dX12_why_121 (by decide) ?_
        exact sv_iret hΓ hQ dX12_why_125 (Nat.le_of_ble_eq_true rfl) (Nat.le_of_ble_eq_true rfl) ⟨by rw [whF, if_neg (by rw [u1]; decide), if_neg (by rw [u1]; decide), if_pos (by rw [u1]; decide), if_pos u10], rfl, rfl⟩
set_option maxRecDepth 100000 in
set_option maxHeartbeats 4000000 in
/-- given -/
theorem ct_X12_given {E : aG} (l : Launch) (a : Nat) (tk : Nat) (j : Nat) {ci : Nat → Nat → Int32} {cl : Nat → Nat → Int64} {cr : Nat → Nat → Option Nat} {dy : aM} {nx : Nat} (ha : a < 16) (hw : WF ci a) (h1 : ci 44 a = 1 → ci 66 (ci 47 a).toNatClampNeg = nI tk ∧ tk < 20) (h5 : ci 44 a = 5 → ¬ vA ci cl a 1 = 0) (h8 : ci 44 a = 8 → vA ci cl a 0 = lN j ∧ j < 16) : CT E l yX12_given cX12_given 2 (some .long) 1 [.ref 43, .int (nI a)] (mm ci cl cr dy) nx 0 0 (fun r M' nx' => r = some (.long (gvF ci cl a)) ∧ M' = mm ci cl cr dy ∧ nx = nx') := by
  refine CT_intro (by decide) (Nat.le_of_ble_eq_true rfl) (fun Γ hΓ hQ => ?_)
  replace hΓ : CK E RX12 cX12_given 2 (some .long) "given" 1 0 0 Γ := hΓ
  show SV E Γ 2 (mm ci cl cr dy) nx 0 0 0 [(0, .ref 43), (1, .int (nI a))] []
  refine sv_aload_n hΓ dX12_given_0 rfl 0 rfl rfl ?_
  refine g_X12_7_43 hΓ dX12_given_1 rfl ?_
  refine sv_iload_n hΓ dX12_given_4 rfl 1 rfl rfl ?_
  refine ai_44 hΓ (a) rfl (by omega) dX12_given_5 rfl ?_
  refine sv_table (x := ci 44 a) (lo := 0) (hi := 9) 9 rfl (fun u1 => ?_) (fun k hk u1 => ?_)
  · refine sv_tableOut (pc' := 219) hΓ dX12_given_6 u1 (by decide) ?_
    obtain ⟨x, hx6, hx⟩ := hw.x (out_ne u1 0 (by decide)) (out_ne u1 1 (by decide))
    refine sv_aload_n hΓ dX12_given_219 rfl 0 rfl rfl ?_
    refine sv_iload_n hΓ dX12_given_220 rfl 1 rfl rfl ?_
    refine sv_iconst (v := 0) hΓ dX12_given_221 (by decide) rfl ?_
    refine sv_callV hΓ (fun l => ct_X12_numberAt l a 0 x (by omega) (by omega) hx (by omega)) wv_X12_243 vs_X12_numberAt rfl m_43 rfl rfl (by decide) (Nat.le_of_ble_eq_true rfl) (Nat.le_of_ble_eq_true rfl) (Nat.le_of_ble_eq_true rfl) dX12_given_222 rfl (fun r M' nx' p2 => ?_)
    obtain ⟨rfl, rfl, rfl⟩ := p2
    show SV E Γ 2 (mm ci cl cr dy) nx 0 0 225 [(0, .ref 43), (1, .int (nI a))] [.long (vA ci cl a 0)]
    exact sv_lret hΓ hQ dX12_given_225 (Nat.le_of_ble_eq_true rfl) (Nat.le_of_ble_eq_true rfl) ⟨by simp [gvF, out_ne u1 0 (by decide), out_ne u1 1 (by decide), out_ne u1 2 (by decide), out_ne u1 3 (by decide), out_ne u1 4 (by decide), out_ne u1 5 (by decide), out_ne u1 6 (by decide), out_ne u1 7 (by decide), out_ne u1 8 (by decide), out_ne u1 9 (by decide)], rfl, rfl⟩
  · obtain rfl | rfl | rfl | rfl | rfl | rfl | rfl | rfl | rfl | rfl : k = 0 ∨ k = 1 ∨ k = 2 ∨ k = 3 ∨ k = 4 ∨ k = 5 ∨ k = 6 ∨ k = 7 ∨ k = 8 ∨ k = 9 := by omega
    · refine sv_tableIn (off := 54) (pc' := 60) hΓ dX12_given_6 (by omega) (by omega) (by rw [u1]; rfl) (by decide) ?_
      replace u1 : ci 44 a = (0 : Int32) := Int32.toInt_inj.mp (u1.trans (by decide))
      refine sv_aload_n hΓ dX12_given_60 rfl 0 rfl rfl ?_
      refine g_X12_22_43 hΓ dX12_given_61 rfl ?_
      refine sv_iload_n hΓ dX12_given_64 rfl 1 rfl rfl ?_
      refine al_48 hΓ (a) rfl (by omega) dX12_given_65 rfl ?_
      exact sv_lret hΓ hQ dX12_given_66 (Nat.le_of_ble_eq_true rfl) (Nat.le_of_ble_eq_true rfl) ⟨by simp [gvF, u1], rfl, rfl⟩
    · refine sv_tableIn (off := 61) (pc' := 67) hΓ dX12_given_6 (by omega) (by omega) (by rw [u1]; rfl) (by decide) ?_
      replace u1 : ci 44 a = (1 : Int32) := Int32.toInt_inj.mp (u1.trans (by decide))
      obtain ⟨q, hq4, hq⟩ := hw.q (by rw [u1]; decide)
      obtain ⟨htk, htk2⟩ := h1 u1
      rw [hq, nI_clamp (by omega)] at htk
      refine sv_aload_n hΓ dX12_given_67 rfl 0 rfl rfl ?_
      refine g_X12_39_43 hΓ dX12_given_68 rfl ?_
      refine sv_bipush (v := 20) hΓ dX12_given_71 (by decide) rfl ?_
      refine sv_aload_n hΓ dX12_given_73 rfl 0 rfl rfl ?_
      refine g_X12_19_43 hΓ dX12_given_74 rfl ?_
      refine sv_iload_n hΓ dX12_given_77 rfl 1 rfl rfl ?_
      refine ai_47 hΓ (a) rfl (by omega) dX12_given_78 rfl ?_
      refine sv_imulE (v := nI (20 * q)) hΓ dX12_given_79 (nx_mul rfl hq) rfl ?_
      refine sv_aload_n hΓ dX12_given_80 rfl 0 rfl rfl ?_
      refine g_X12_78_43 hΓ dX12_given_81 rfl ?_
      refine sv_aload_n hΓ dX12_given_84 rfl 0 rfl rfl ?_
      refine g_X12_19_43 hΓ dX12_given_85 rfl ?_
      refine sv_iload_n hΓ dX12_given_88 rfl 1 rfl rfl ?_
      refine ai_47 hΓ (a) rfl (by omega) dX12_given_89 rfl ?_
      refine ai_66 hΓ (q) hq (by omega) dX12_given_90 rfl ?_
      refine sv_iaddE (v := nI (20 * q + tk)) hΓ dX12_given_91 (nx_add rfl htk) rfl ?_
      refine al_53 hΓ (20 * q + tk) rfl (by omega) dX12_given_92 rfl ?_
      exact sv_lret hΓ hQ dX12_given_93 (Nat.le_of_ble_eq_true rfl) (Nat.le_of_ble_eq_true rfl) ⟨by simp [gvF, u1, hq, htk, nI_clamp (show q < 2 ^ 31 by omega), nI_clamp (show tk < 2 ^ 31 by omega)], rfl, rfl⟩
    · refine sv_tableIn (off := 88) (pc' := 94) hΓ dX12_given_6 (by omega) (by omega) (by rw [u1]; rfl) (by decide) ?_
      replace u1 : ci 44 a = (2 : Int32) := Int32.toInt_inj.mp (u1.trans (by decide))
      obtain ⟨x, hx6, hx⟩ := hw.x (by rw [u1]; decide) (by rw [u1]; decide)
      obtain ⟨y, hy6, hy⟩ := hw.y (by rw [u1]; decide)
      refine sv_aload_n hΓ dX12_given_94 rfl 0 rfl rfl ?_
      refine sv_iload_n hΓ dX12_given_95 rfl 1 rfl rfl ?_
      refine sv_iconst (v := 0) hΓ dX12_given_96 (by decide) rfl ?_
      refine sv_callV hΓ (fun l => ct_X12_numberAt l a 0 x (by omega) (by omega) hx (by omega)) wv_X12_243 vs_X12_numberAt rfl m_43 rfl rfl (by decide) (Nat.le_of_ble_eq_true rfl) (Nat.le_of_ble_eq_true rfl) (Nat.le_of_ble_eq_true rfl) dX12_given_97 rfl (fun r M' nx' p3 => ?_)
      obtain ⟨rfl, rfl, rfl⟩ := p3
      show SV E Γ 2 (mm ci cl cr dy) nx 0 0 100 [(0, .ref 43), (1, .int (nI a))] [.long (vA ci cl a 0)]
      refine sv_aload_n hΓ dX12_given_100 rfl 0 rfl rfl ?_
      refine sv_iload_n hΓ dX12_given_101 rfl 1 rfl rfl ?_
      refine sv_iconst (v := 1) hΓ dX12_given_102 (by decide) rfl ?_
      refine sv_callV hΓ (fun l => ct_X12_numberAt l a 1 y (by omega) (by omega) hy (by omega)) wv_X12_243 vs_X12_numberAt rfl m_43 rfl rfl (by decide) (Nat.le_of_ble_eq_true rfl) (Nat.le_of_ble_eq_true rfl) (Nat.le_of_ble_eq_true rfl) dX12_given_103 rfl (fun r M' nx' p4 => ?_)
      obtain ⟨rfl, rfl, rfl⟩ := p4
      show SV E Γ 2 (mm ci cl cr dy) nx 0 0 106 [(0, .ref 43), (1, .int (nI a))] [.long (vA ci cl a 1), .long (vA ci cl a 0)]
      refine sv_ladd hΓ dX12_given_106 rfl ?_
      exact sv_lret hΓ hQ dX12_given_107 (Nat.le_of_ble_eq_true rfl) (Nat.le_of_ble_eq_true rfl) ⟨by simp [gvF, u1], rfl, rfl⟩
    · refine sv_tableIn (off := 102) (pc' := 108) hΓ dX12_given_6 (by omega) (by omega) (by rw [u1]; rfl) (by decide) ?_
      replace u1 : ci 44 a = (3 : Int32) := Int32.toInt_inj.mp (u1.trans (by decide))
      obtain ⟨x, hx6, hx⟩ := hw.x (by rw [u1]; decide) (by rw [u1]; decide)
      obtain ⟨y, hy6, hy⟩ := hw.y (by rw [u1]; decide)
      refine sv_aload_n hΓ dX12_given_108 rfl 0 rfl rfl ?_
      refine sv_iload_n hΓ dX12_given_109 rfl 1 rfl rfl ?_
      refine sv_iconst (v := 0) hΓ dX12_given_110 (by decide) rfl ?_
      refine sv_callV hΓ (fun l => ct_X12_numberAt l a 0 x (by omega) (by omega) hx (by omega)) wv_X12_243 vs_X12_numberAt rfl m_43 rfl rfl (by decide) (Nat.le_of_ble_eq_true rfl) (Nat.le_of_ble_eq_true rfl) (Nat.le_of_ble_eq_true rfl) dX12_given_111 rfl (fun r M' nx' p5 => ?_)
      obtain ⟨rfl, rfl, rfl⟩ := p5
      show SV E Γ 2 (mm ci cl cr dy) nx 0 0 114 [(0, .ref 43), (1, .int (nI a))] [.long (vA ci cl a 0)]
      refine sv_aload_n hΓ dX12_given_114 rfl 0 rfl rfl ?_
      refine sv_iload_n hΓ dX12_given_115 rfl 1 rfl rfl ?_
      refine sv_iconst (v := 1) hΓ dX12_given_116 (by decide) rfl ?_
      refine sv_callV hΓ (fun l => ct_X12_numberAt l a 1 y (by omega) (by omega) hy (by omega)) wv_X12_243 vs_X12_numberAt rfl m_43 rfl rfl (by decide) (Nat.le_of_ble_eq_true rfl) (Nat.le_of_ble_eq_true rfl) (Nat.le_of_ble_eq_true rfl) dX12_given_117 rfl (fun r M' nx' p6 => ?_)
      obtain ⟨rfl, rfl, rfl⟩ := p6
      show SV E Γ 2 (mm ci cl cr dy) nx 0 0 120 [(0, .ref 43), (1, .int (nI a))] [.long (vA ci cl a 1), .long (vA ci cl a 0)]
      refine sv_lsub hΓ dX12_given_120 rfl ?_
      exact sv_lret hΓ hQ dX12_given_121 (Nat.le_of_ble_eq_true rfl) (Nat.le_of_ble_eq_true rfl) ⟨by simp [gvF, u1], rfl, rfl⟩
    · refine sv_tableIn (off := 116) (pc' := 122) hΓ dX12_given_6 (by omega) (by omega) (by rw [u1]; rfl) (by decide) ?_
      replace u1 : ci 44 a = (4 : Int32) := Int32.toInt_inj.mp (u1.trans (by decide))
      obtain ⟨x, hx6, hx⟩ := hw.x (by rw [u1]; decide) (by rw [u1]; decide)
      obtain ⟨y, hy6, hy⟩ := hw.y (by rw [u1]; decide)
      refine sv_aload_n hΓ dX12_given_122 rfl 0 rfl rfl ?_
      refine sv_iload_n hΓ dX12_given_123 rfl 1 rfl rfl ?_
      refine sv_iconst (v := 0) hΓ dX12_given_124 (by decide) rfl ?_
      refine sv_callV hΓ (fun l => ct_X12_numberAt l a 0 x (by omega) (by omega) hx (by omega)) wv_X12_243 vs_X12_numberAt rfl m_43 rfl rfl (by decide) (Nat.le_of_ble_eq_true rfl) (Nat.le_of_ble_eq_true rfl) (Nat.le_of_ble_eq_true rfl) dX12_given_125 rfl (fun r M' nx' p7 => ?_)
      obtain ⟨rfl, rfl, rfl⟩ := p7
      show SV E Γ 2 (mm ci cl cr dy) nx 0 0 128 [(0, .ref 43), (1, .int (nI a))] [.long (vA ci cl a 0)]
      refine sv_aload_n hΓ dX12_given_128 rfl 0 rfl rfl ?_
      refine sv_iload_n hΓ dX12_given_129 rfl 1 rfl rfl ?_
      refine sv_iconst (v := 1) hΓ dX12_given_130 (by decide) rfl ?_
      refine sv_callV hΓ (fun l => ct_X12_numberAt l a 1 y (by omega) (by omega) hy (by omega)) wv_X12_243 vs_X12_numberAt rfl m_43 rfl rfl (by decide) (Nat.le_of_ble_eq_true rfl) (Nat.le_of_ble_eq_true rfl) (Nat.le_of_ble_eq_true rfl) dX12_given_131 rfl (fun r M' nx' p8 => ?_)
      obtain ⟨rfl, rfl, rfl⟩ := p8
      show SV E Γ 2 (mm ci cl cr dy) nx 0 0 134 [(0, .ref 43), (1, .int (nI a))] [.long (vA ci cl a 1), .long (vA ci cl a 0)]
      refine sv_lmul hΓ dX12_given_134 rfl ?_
      exact sv_lret hΓ hQ dX12_given_135 (Nat.le_of_ble_eq_true rfl) (Nat.le_of_ble_eq_true rfl) ⟨by simp [gvF, u1], rfl, rfl⟩
    · refine sv_tableIn (off := 130) (pc' := 136) hΓ dX12_given_6 (by omega) (by omega) (by rw [u1]; rfl) (by decide) ?_
      replace u1 : ci 44 a = (5 : Int32) := Int32.toInt_inj.mp (u1.trans (by decide))
      obtain ⟨x, hx6, hx⟩ := hw.x (by rw [u1]; decide) (by rw [u1]; decide)
      obtain ⟨y, hy6, hy⟩ := hw.y (by rw [u1]; decide)
      have h5 := h5 u1
      refine sv_aload_n hΓ dX12_given_136 rfl 0 rfl rfl ?_
      refine sv_iload_n hΓ dX12_given_137 rfl 1 rfl rfl ?_
      refine sv_iconst (v := 0) hΓ dX12_given_138 (by decide) rfl ?_
      refine sv_callV hΓ (fun l => ct_X12_numberAt l a 0 x (by omega) (by omega) hx (by omega)) wv_X12_243 vs_X12_numberAt rfl m_43 rfl rfl (by decide) (Nat.le_of_ble_eq_true rfl) (Nat.le_of_ble_eq_true rfl) (Nat.le_of_ble_eq_true rfl) dX12_given_139 rfl (fun r M' nx' p9 => ?_)
      obtain ⟨rfl, rfl, rfl⟩ := p9
      show SV E Γ 2 (mm ci cl cr dy) nx 0 0 142 [(0, .ref 43), (1, .int (nI a))] [.long (vA ci cl a 0)]
      refine sv_aload_n hΓ dX12_given_142 rfl 0 rfl rfl ?_
      refine sv_iload_n hΓ dX12_given_143 rfl 1 rfl rfl ?_
      refine sv_iconst (v := 1) hΓ dX12_given_144 (by decide) rfl ?_
      refine sv_callV hΓ (fun l => ct_X12_numberAt l a 1 y (by omega) (by omega) hy (by omega)) wv_X12_243 vs_X12_numberAt rfl m_43 rfl rfl (by decide) (Nat.le_of_ble_eq_true rfl) (Nat.le_of_ble_eq_true rfl) (Nat.le_of_ble_eq_true rfl) dX12_given_145 rfl (fun r M' nx' p10 => ?_)
      obtain ⟨rfl, rfl, rfl⟩ := p10
      show SV E Γ 2 (mm ci cl cr dy) nx 0 0 148 [(0, .ref 43), (1, .int (nI a))] [.long (vA ci cl a 1), .long (vA ci cl a 0)]
      refine sv_ldiv hΓ dX12_given_148 h5 rfl ?_
      exact sv_lret hΓ hQ dX12_given_149 (Nat.le_of_ble_eq_true rfl) (Nat.le_of_ble_eq_true rfl) ⟨by simp [gvF, u1], rfl, rfl⟩
    · refine sv_tableIn (off := 144) (pc' := 150) hΓ dX12_given_6 (by omega) (by omega) (by rw [u1]; rfl) (by decide) ?_
      replace u1 : ci 44 a = (6 : Int32) := Int32.toInt_inj.mp (u1.trans (by decide))
      obtain ⟨x, hx6, hx⟩ := hw.x (by rw [u1]; decide) (by rw [u1]; decide)
      obtain ⟨y, hy6, hy⟩ := hw.y (by rw [u1]; decide)
      refine sv_aload_n hΓ dX12_given_150 rfl 0 rfl rfl ?_
      refine sv_iload_n hΓ dX12_given_151 rfl 1 rfl rfl ?_
      refine sv_iconst (v := 0) hΓ dX12_given_152 (by decide) rfl ?_
      refine sv_callV hΓ (fun l => ct_X12_numberAt l a 0 x (by omega) (by omega) hx (by omega)) wv_X12_243 vs_X12_numberAt rfl m_43 rfl rfl (by decide) (Nat.le_of_ble_eq_true rfl) (Nat.le_of_ble_eq_true rfl) (Nat.le_of_ble_eq_true rfl) dX12_given_153 rfl (fun r M' nx' p11 => ?_)
      obtain ⟨rfl, rfl, rfl⟩ := p11
      show SV E Γ 2 (mm ci cl cr dy) nx 0 0 156 [(0, .ref 43), (1, .int (nI a))] [.long (vA ci cl a 0)]
      refine sv_aload_n hΓ dX12_given_156 rfl 0 rfl rfl ?_
      refine sv_iload_n hΓ dX12_given_157 rfl 1 rfl rfl ?_
      refine sv_iconst (v := 1) hΓ dX12_given_158 (by decide) rfl ?_
      refine sv_callV hΓ (fun l => ct_X12_numberAt l a 1 y (by omega) (by omega) hy (by omega)) wv_X12_243 vs_X12_numberAt rfl m_43 rfl rfl (by decide) (Nat.le_of_ble_eq_true rfl) (Nat.le_of_ble_eq_true rfl) (Nat.le_of_ble_eq_true rfl) dX12_given_159 rfl (fun r M' nx' p12 => ?_)
      obtain ⟨rfl, rfl, rfl⟩ := p12
      show SV E Γ 2 (mm ci cl cr dy) nx 0 0 162 [(0, .ref 43), (1, .int (nI a))] [.long (vA ci cl a 1), .long (vA ci cl a 0)]
      refine sv_lcmp hΓ dX12_given_162 rfl ?_
      refine sv_if_ge (tgt := 170) hΓ dX12_given_163 (by decide) rfl (fun u13 => ?_) (fun u13 => ?_)
      · replace u13 := lgc_ge.mp u13
        refine sv_lconst (v := 0) hΓ dX12_given_170 (by decide) rfl ?_
        exact sv_lret hΓ hQ dX12_given_171 (Nat.le_of_ble_eq_true rfl) (Nat.le_of_ble_eq_true rfl) ⟨by simp [gvF, u1, u13], rfl, rfl⟩
      · replace u13 := mt lgc_ge.mpr u13
        refine sv_lconst (v := 1) hΓ dX12_given_166 (by decide) rfl ?_
        refine sv_goto (pc' := 171) hΓ dX12_given_167 (by decide) ?_
        exact sv_lret hΓ hQ dX12_given_171 (Nat.le_of_ble_eq_true rfl) (Nat.le_of_ble_eq_true rfl) ⟨by simp [gvF, u1, u13], rfl, rfl⟩
    · refine sv_tableIn (off := 166) (pc' := 172) hΓ dX12_given_6 (by omega) (by omega) (by rw [u1]; rfl) (by decide) ?_
      replace u1 : ci 44 a = (7 : Int32) := Int32.toInt_inj.mp (u1.trans (by decide))
      obtain ⟨x, hx6, hx⟩ := hw.x (by rw [u1]; decide) (by rw [u1]; decide)
      obtain ⟨y, hy6, hy⟩ := hw.y (by rw [u1]; decide)
      obtain ⟨z, hz6, hz⟩ := hw.z u1
      refine sv_aload_n hΓ dX12_given_172 rfl 0 rfl rfl ?_
      refine sv_iload_n hΓ dX12_given_173 rfl 1 rfl rfl ?_
      refine sv_iconst (v := 0) hΓ dX12_given_174 (by decide) rfl ?_
      refine sv_callV hΓ (fun l => ct_X12_numberAt l a 0 x (by omega) (by omega) hx (by omega)) wv_X12_243 vs_X12_numberAt rfl m_43 rfl rfl (by decide) (Nat.le_of_ble_eq_true rfl) (Nat.le_of_ble_eq_true rfl) (Nat.le_of_ble_eq_true rfl) dX12_given_175 rfl (fun r M' nx' p14 => ?_)
      obtain ⟨rfl, rfl, rfl⟩ := p14
      show SV E Γ 2 (mm ci cl cr dy) nx 0 0 178 [(0, .ref 43), (1, .int (nI a))] [.long (vA ci cl a 0)]
      refine sv_lconst (v := 0) hΓ dX12_given_178 (by decide) rfl ?_
      refine sv_lcmp hΓ dX12_given_179 rfl ?_
      refine sv_if_eq (tgt := 192) hΓ dX12_given_180 (by decide) rfl (fun u15 => ?_) (fun u15 => ?_)
      · replace u15 := lgc_eq.mp u15
        refine sv_aload_n hΓ dX12_given_192 rfl 0 rfl rfl ?_
        refine sv_iload_n hΓ dX12_given_193 rfl 1 rfl rfl ?_
        refine sv_iconst (v := 2) hΓ dX12_given_194 (by decide) rfl ?_
        refine sv_callV hΓ (fun l => ct_X12_numberAt l a 2 z (by omega) (by omega) hz (by omega)) wv_X12_243 vs_X12_numberAt rfl m_43 rfl rfl (by decide) (Nat.le_of_ble_eq_true rfl) (Nat.le_of_ble_eq_true rfl) (Nat.le_of_ble_eq_true rfl) dX12_given_195 rfl (fun r M' nx' p16 => ?_)
        obtain ⟨rfl, rfl, rfl⟩ := p16
        show SV E Γ 2 (mm ci cl cr dy) nx 0 0 198 [(0, .ref 43), (1, .int (nI a))] [.long (vA ci cl a 2)]
        exact sv_lret hΓ hQ dX12_given_198 (Nat.le_of_ble_eq_true rfl) (Nat.le_of_ble_eq_true rfl) ⟨by simp [gvF, u1, u15], rfl, rfl⟩
      · replace u15 := mt lgc_eq.mpr u15
        refine sv_aload_n hΓ dX12_given_183 rfl 0 rfl rfl ?_
        refine sv_iload_n hΓ dX12_given_184 rfl 1 rfl rfl ?_
        refine sv_iconst (v := 1) hΓ dX12_given_185 (by decide) rfl ?_
        refine sv_callV hΓ (fun l => ct_X12_numberAt l a 1 y (by omega) (by omega) hy (by omega)) wv_X12_243 vs_X12_numberAt rfl m_43 rfl rfl (by decide) (Nat.le_of_ble_eq_true rfl) (Nat.le_of_ble_eq_true rfl) (Nat.le_of_ble_eq_true rfl) dX12_given_186 rfl (fun r M' nx' p17 => ?_)
        obtain ⟨rfl, rfl, rfl⟩ := p17
        show SV E Γ 2 (mm ci cl cr dy) nx 0 0 189 [(0, .ref 43), (1, .int (nI a))] [.long (vA ci cl a 1)]
        refine sv_goto (pc' := 198) hΓ dX12_given_189 (by decide) ?_
        exact sv_lret hΓ hQ dX12_given_198 (Nat.le_of_ble_eq_true rfl) (Nat.le_of_ble_eq_true rfl) ⟨by simp [gvF, u1, u15], rfl, rfl⟩
    · refine sv_tableIn (off := 193) (pc' := 199) hΓ dX12_given_6 (by omega) (by omega) (by rw [u1]; rfl) (by decide) ?_
      replace u1 : ci 44 a = (8 : Int32) := Int32.toInt_inj.mp (u1.trans (by decide))
      obtain ⟨x, hx6, hx⟩ := hw.x (by rw [u1]; decide) (by rw [u1]; decide)
      obtain ⟨hj, hj6⟩ := h8 u1
      refine sv_aload_n hΓ dX12_given_199 rfl 0 rfl rfl ?_
      refine g_X12_60_43 hΓ dX12_given_200 rfl ?_
      refine sv_aload_n hΓ dX12_given_203 rfl 0 rfl rfl ?_
      refine sv_iload_n hΓ dX12_given_204 rfl 1 rfl rfl ?_
      refine sv_iconst (v := 0) hΓ dX12_given_205 (by decide) rfl ?_
      refine sv_callV hΓ (fun l => ct_X12_numberAt l a 0 x (by omega) (by omega) hx (by omega)) wv_X12_243 vs_X12_numberAt rfl m_43 rfl rfl (by decide) (Nat.le_of_ble_eq_true rfl) (Nat.le_of_ble_eq_true rfl) (Nat.le_of_ble_eq_true rfl) dX12_given_206 rfl (fun r M' nx' p18 => ?_)
      obtain ⟨rfl, rfl, rfl⟩ := p18
      show SV E Γ 2 (mm ci cl cr dy) nx 0 0 209 [(0, .ref 43), (1, .int (nI a))] [.long (vA ci cl a 0), .ref 60]
      refine sv_l2i hΓ dX12_given_209 rfl rfl ?_
      refine al_60 hΓ (j) ((by rw [hj]; exact lN_i j)) hj6 dX12_given_210 rfl ?_
      exact sv_lret hΓ hQ dX12_given_211 (Nat.le_of_ble_eq_true rfl) (Nat.le_of_ble_eq_true rfl) ⟨by simp [gvF, u1, hj, lN_i, nI_clamp (show j < 2 ^ 31 by omega)], rfl, rfl⟩
    · refine sv_tableIn (off := 206) (pc' := 212) hΓ dX12_given_6 (by omega) (by omega) (by rw [u1]; rfl) (by decide) ?_
      replace u1 : ci 44 a = (9 : Int32) := Int32.toInt_inj.mp (u1.trans (by decide))
      obtain ⟨y, hy6, hy⟩ := hw.y (by rw [u1]; decide)
      refine sv_aload_n hΓ dX12_given_212 rfl 0 rfl rfl ?_
      refine sv_iload_n hΓ dX12_given_213 rfl 1 rfl rfl ?_
      refine sv_iconst (v := 1) hΓ dX12_given_214 (by decide) rfl ?_
      refine sv_callV hΓ (fun l => ct_X12_numberAt l a 1 y (by omega) (by omega) hy (by omega)) wv_X12_243 vs_X12_numberAt rfl m_43 rfl rfl (by decide) (Nat.le_of_ble_eq_true rfl) (Nat.le_of_ble_eq_true rfl) (Nat.le_of_ble_eq_true rfl) dX12_given_215 rfl (fun r M' nx' p19 => ?_)
      obtain ⟨rfl, rfl, rfl⟩ := p19
      show SV E Γ 2 (mm ci cl cr dy) nx 0 0 218 [(0, .ref 43), (1, .int (nI a))] [.long (vA ci cl a 1)]
      exact sv_lret hΓ hQ dX12_given_218 (Nat.le_of_ble_eq_true rfl) (Nat.le_of_ble_eq_true rfl) ⟨by simp [gvF, u1], rfl, rfl⟩
set_option maxRecDepth 100000 in
set_option maxHeartbeats 4000000 in
/-- operandsOf -/
theorem ct_X12_operandsOf {E : aG} (l : Launch) (a : Nat) {ci : Nat → Nat → Int32} {cl : Nat → Nat → Int64} {cr : Nat → Nat → Option Nat} {dy : aM} {nx : Nat} (ha : a < 16) : CT E l yX12_operandsOf cX12_operandsOf 4 (some .int) 0 [.ref 43, .int (nI a)] (mm ci cl cr dy) nx 0 0 (fun r M' nx' => r = some (.int (nI (opN ci a 3))) ∧ M' = mm ci cl cr dy ∧ nx = nx') := by
  refine CT_intro (by decide) (Nat.le_of_ble_eq_true rfl) (fun Γ hΓ hQ => ?_)
  replace hΓ : CK E RX12 cX12_operandsOf 4 (some .int) "operandsOf" 0 0 0 Γ := hΓ
  show SV E Γ 4 (mm ci cl cr dy) nx 0 0 0 [(0, .ref 43), (1, .int (nI a))] []
  refine sv_iconst (v := 0) hΓ dX12_operandsOf_0 (by decide) rfl ?_
  refine sv_istore_n (lv' := [(2, .int 0), (0, .ref 43), (1, .int (nI a))]) hΓ dX12_operandsOf_1 rfl (by decide) rfl rfl ?_
  refine sv_iconst (v := 3) hΓ dX12_operandsOf_2 (by decide) rfl ?_
  refine sv_iload_n hΓ dX12_operandsOf_3 rfl 2 rfl rfl ?_
  refine sv_imulE (v := nI (3 * a)) hΓ dX12_operandsOf_4 (nx_mul rfl rfl) rfl ?_
  refine sv_istore_n (lv' := [(3, .int (nI (3 * a))), (2, .int 0), (0, .ref 43), (1, .int (nI a))]) hΓ dX12_operandsOf_5 rfl (by decide) rfl rfl ?_
  have LP6 : ∀ kq j : Nat, j + kq = 3 → SV E Γ 4 (mm ci cl cr dy) nx 0 0 6 [(3, .int (nI (3 * a + j))), (2, .int (nI (opN ci a j))), (0, .ref 43), (1, .int (nI a))] [] := by
    intro kq
    induction kq with
    | zero =>
      intro j ha
      have ea : j = 3 := by omega
      refine sv_iload_n hΓ dX12_operandsOf_6 rfl 0 rfl rfl ?_
      refine sv_iconst (v := 3) hΓ dX12_operandsOf_7 (by decide) rfl ?_
      refine sv_iload_n hΓ dX12_operandsOf_8 rfl 3 rfl rfl ?_
      refine sv_imulE (v := nI (3 * a)) hΓ dX12_operandsOf_9 (nx_mul rfl rfl) rfl ?_
      refine sv_iconst (v := 3) hΓ dX12_operandsOf_10 (by decide) rfl ?_
      refine sv_iaddE (v := nI (3 * a + 3)) hΓ dX12_operandsOf_11 (nx_add rfl rfl) rfl ?_
      refine sv_icmp_ge (tgt := 38) hΓ dX12_operandsOf_12 (by decide) rfl (fun u1 => ?_) (fun u1 => absurd (nI_le (by omega) (by omega)) u1)
      refine sv_iload_n hΓ dX12_operandsOf_38 rfl 1 rfl rfl ?_
      exact sv_iret hΓ hQ dX12_operandsOf_39 (Nat.le_of_ble_eq_true rfl) (Nat.le_of_ble_eq_true rfl) ⟨by rw [ea], rfl, rfl⟩
    | succ kq ih =>
      intro j ha
      refine sv_iload_n hΓ dX12_operandsOf_6 rfl 0 rfl rfl ?_
      refine sv_iconst (v := 3) hΓ dX12_operandsOf_7 (by decide) rfl ?_
      refine sv_iload_n hΓ dX12_operandsOf_8 rfl 3 rfl rfl ?_
      refine sv_imulE (v := nI (3 * a)) hΓ dX12_operandsOf_9 (nx_mul rfl rfl) rfl ?_
      refine sv_iconst (v := 3) hΓ dX12_operandsOf_10 (by decide) rfl ?_
      refine sv_iaddE (v := nI (3 * a + 3)) hΓ dX12_operandsOf_11 (nx_add rfl rfl) rfl ?_
      refine sv_icmp_ge (tgt := 38) hΓ dX12_operandsOf_12 (by decide) rfl (fun u2 => absurd u2 (nI_ge (by omega) (by omega))) (fun u2 => ?_)
      refine sv_iload_n hΓ dX12_operandsOf_15 rfl 1 rfl rfl ?_
      refine sv_aload_n hΓ dX12_operandsOf_16 rfl 2 rfl rfl ?_
      refine g_X12_16_43 hΓ dX12_operandsOf_17 rfl ?_
      refine sv_iload_n hΓ dX12_operandsOf_20 rfl 0 rfl rfl ?_
      refine ai_46 hΓ (3 * a + j) rfl (by omega) dX12_operandsOf_21 rfl ?_
      refine sv_if_lt (tgt := 29) hΓ dX12_operandsOf_22 (by decide) rfl (fun u3 => ?_) (fun u3 => ?_)
      · refine sv_iconst (v := 0) hΓ dX12_operandsOf_29 (by decide) rfl ?_
        refine sv_iaddE (v := nI ((opN ci a j) + 0)) hΓ dX12_operandsOf_30 (nx_add rfl rfl) rfl ?_
        refine sv_istore_n (lv' := [(2, .int (nI ((opN ci a j) + 0))), (3, .int (nI (3 * a + j))), (0, .ref 43), (1, .int (nI a))]) hΓ dX12_operandsOf_31 rfl (by decide) rfl rfl ?_
        refine sv_iinc (v := nI (3 * a + j + 1)) (lv' := [(3, .int (nI (3 * a + j + 1))), (2, .int (nI ((opN ci a j) + 0))), (0, .ref 43), (1, .int (nI a))]) hΓ dX12_operandsOf_32 1 rfl (nx_inc rfl) (by decide) rfl rfl ?_
        refine sv_goto (pc' := 6) hΓ dX12_operandsOf_35 (by decide) ?_
        have q := ih (j + 1) (by omega)
        rw [show opN ci a (j + 1) = (opN ci a j) + 0 from by simp only [opN]; rw [if_pos u3]; try rfl] at q
        exact SV_lv [0, 1, 2, 3] rfl q
      · refine sv_iconst (v := 1) hΓ dX12_operandsOf_25 (by decide) rfl ?_
        refine sv_goto (pc' := 30) hΓ dX12_operandsOf_26 (by decide) ?_
        refine sv_iaddE (v := nI ((opN ci a j) + 1)) hΓ dX12_operandsOf_30 (nx_add rfl rfl) rfl ?_
        refine sv_istore_n (lv' := [(2, .int (nI ((opN ci a j) + 1))), (3, .int (nI (3 * a + j))), (0, .ref 43), (1, .int (nI a))]) hΓ dX12_operandsOf_31 rfl (by decide) rfl rfl ?_
        refine sv_iinc (v := nI (3 * a + j + 1)) (lv' := [(3, .int (nI (3 * a + j + 1))), (2, .int (nI ((opN ci a j) + 1))), (0, .ref 43), (1, .int (nI a))]) hΓ dX12_operandsOf_32 1 rfl (nx_inc rfl) (by decide) rfl rfl ?_
        refine sv_goto (pc' := 6) hΓ dX12_operandsOf_35 (by decide) ?_
        have q := ih (j + 1) (by omega)
        rw [show opN ci a (j + 1) = (opN ci a j) + 1 from by simp only [opN]; rw [if_neg u3]; try rfl] at q
        exact SV_lv [0, 1, 2, 3] rfl q
  exact SV_lv [0, 1, 2, 3] rfl (LP6 3 0 (by omega))
set_option maxRecDepth 100000 in
set_option maxHeartbeats 4000000 in
/-- weightOf -/
theorem ct_X12_weightOf {E : aG} (l : Launch) (a : Nat) {ci : Nat → Nat → Int32} {cl : Nat → Nat → Int64} {cr : Nat → Nat → Option Nat} {dy : aM} {nx : Nat} (ha : a < 16) : CT E l yX12_weightOf cX12_weightOf 3 (some .int) 1 [.ref 43, .int (nI a)] (mm ci cl cr dy) nx 0 0 (fun r M' nx' => r = some (.int (wtF ci a)) ∧ M' = mm ci cl cr dy ∧ nx = nx') := by
  refine CT_intro (by decide) (Nat.le_of_ble_eq_true rfl) (fun Γ hΓ hQ => ?_)
  replace hΓ : CK E RX12 cX12_weightOf 3 (some .int) "weightOf" 1 0 0 Γ := hΓ
  show SV E Γ 3 (mm ci cl cr dy) nx 0 0 0 [(0, .ref 43), (1, .int (nI a))] []
  refine sv_aload_n hΓ dX12_weightOf_0 rfl 0 rfl rfl ?_
  refine g_X12_13_43 hΓ dX12_weightOf_1 rfl ?_
  refine sv_iload_n hΓ dX12_weightOf_4 rfl 1 rfl rfl ?_
  refine ai_45 hΓ (a) rfl (by omega) dX12_weightOf_5 rfl ?_
  refine sv_bipush (v := 10) hΓ dX12_weightOf_6 (by decide) rfl ?_
  refine sv_aload_n hΓ dX12_weightOf_8 rfl 0 rfl rfl ?_
  refine sv_iload_n hΓ dX12_weightOf_9 rfl 1 rfl rfl ?_
  refine sv_callV hΓ (fun l => ct_X12_operandsOf l a (by omega)) wv_X12_269 vs_X12_operandsOf rfl m_43 rfl rfl (by decide) (Nat.le_of_ble_eq_true rfl) (Nat.le_of_ble_eq_true rfl) (Nat.le_of_ble_eq_true rfl) dX12_weightOf_10 rfl (fun r M' nx' p1 => ?_)
  obtain ⟨rfl, rfl, rfl⟩ := p1
  show SV E Γ 3 (mm ci cl cr dy) nx 0 0 13 [(0, .ref 43), (1, .int (nI a))] [.int (nI (opN ci a 3)), .int 10, .int (ci 45 a)]
  refine sv_imulE (v := nI (10 * (opN ci a 3))) hΓ dX12_weightOf_13 (nx_mul rfl rfl) rfl ?_
  refine sv_iadd hΓ dX12_weightOf_14 rfl ?_
  refine sv_istore_n (lv' := [(2, .int ((ci 45 a) + (nI (10 * (opN ci a 3))))), (0, .ref 43), (1, .int (nI a))]) hΓ dX12_weightOf_15 rfl (by decide) rfl rfl ?_
  refine sv_aload_n hΓ dX12_weightOf_16 rfl 1 rfl rfl ?_
  refine g_X12_7_43 hΓ dX12_weightOf_17 rfl ?_
  refine sv_iload_n hΓ dX12_weightOf_20 rfl 2 rfl rfl ?_
  refine ai_44 hΓ (a) rfl (by omega) dX12_weightOf_21 rfl ?_
  refine sv_table (x := ci 44 a) (lo := 1) (hi := 10) 9 rfl (fun u2 => ?_) (fun k hk u2 => ?_)
  · refine sv_tableOut (pc' := 99) hΓ dX12_weightOf_22 u2 (by decide) ?_
    refine sv_iload_n hΓ dX12_weightOf_99 rfl 0 rfl rfl ?_
    exact sv_iret hΓ hQ dX12_weightOf_100 (Nat.le_of_ble_eq_true rfl) (Nat.le_of_ble_eq_true rfl) ⟨by simp [wtF, out_ne u2 1 (by decide), out_ne u2 2 (by decide), out_ne u2 3 (by decide), out_ne u2 4 (by decide), out_ne u2 5 (by decide), out_ne u2 6 (by decide), out_ne u2 7 (by decide), out_ne u2 8 (by decide), out_ne u2 9 (by decide), out_ne u2 10 (by decide)], rfl, rfl⟩
  · obtain rfl | rfl | rfl | rfl | rfl | rfl | rfl | rfl | rfl | rfl : k = 0 ∨ k = 1 ∨ k = 2 ∨ k = 3 ∨ k = 4 ∨ k = 5 ∨ k = 6 ∨ k = 7 ∨ k = 8 ∨ k = 9 := by omega
    · refine sv_tableIn (off := 71) (pc' := 93) hΓ dX12_weightOf_22 (by omega) (by omega) (by rw [u2]; rfl) (by decide) ?_
      replace u2 : ci 44 a = (1 : Int32) := Int32.toInt_inj.mp (u2.trans (by decide))
      refine sv_iload_n hΓ dX12_weightOf_93 rfl 0 rfl rfl ?_
      refine sv_sipush (v := 1007) hΓ dX12_weightOf_94 (by decide) rfl ?_
      refine sv_iadd hΓ dX12_weightOf_97 rfl ?_
      exact sv_iret hΓ hQ dX12_weightOf_98 (Nat.le_of_ble_eq_true rfl) (Nat.le_of_ble_eq_true rfl) ⟨by simp [wtF, u2], rfl, rfl⟩
    · refine sv_tableIn (off := 77) (pc' := 99) hΓ dX12_weightOf_22 (by omega) (by omega) (by rw [u2]; rfl) (by decide) ?_
      replace u2 : ci 44 a = (2 : Int32) := Int32.toInt_inj.mp (u2.trans (by decide))
      refine sv_iload_n hΓ dX12_weightOf_99 rfl 0 rfl rfl ?_
      exact sv_iret hΓ hQ dX12_weightOf_100 (Nat.le_of_ble_eq_true rfl) (Nat.le_of_ble_eq_true rfl) ⟨by simp [wtF, u2], rfl, rfl⟩
    · refine sv_tableIn (off := 77) (pc' := 99) hΓ dX12_weightOf_22 (by omega) (by omega) (by rw [u2]; rfl) (by decide) ?_
      replace u2 : ci 44 a = (3 : Int32) := Int32.toInt_inj.mp (u2.trans (by decide))
      refine sv_iload_n hΓ dX12_weightOf_99 rfl 0 rfl rfl ?_
      exact sv_iret hΓ hQ dX12_weightOf_100 (Nat.le_of_ble_eq_true rfl) (Nat.le_of_ble_eq_true rfl) ⟨by simp [wtF, u2], rfl, rfl⟩
    · refine sv_tableIn (off := 54) (pc' := 76) hΓ dX12_weightOf_22 (by omega) (by omega) (by rw [u2]; rfl) (by decide) ?_
      replace u2 : ci 44 a = (4 : Int32) := Int32.toInt_inj.mp (u2.trans (by decide))
      refine sv_iload_n hΓ dX12_weightOf_76 rfl 0 rfl rfl ?_
      refine sv_bipush (v := 100) hΓ dX12_weightOf_77 (by decide) rfl ?_
      refine sv_iadd hΓ dX12_weightOf_79 rfl ?_
      exact sv_iret hΓ hQ dX12_weightOf_80 (Nat.le_of_ble_eq_true rfl) (Nat.le_of_ble_eq_true rfl) ⟨by simp [wtF, u2], rfl, rfl⟩
    · refine sv_tableIn (off := 59) (pc' := 81) hΓ dX12_weightOf_22 (by omega) (by omega) (by rw [u2]; rfl) (by decide) ?_
      replace u2 : ci 44 a = (5 : Int32) := Int32.toInt_inj.mp (u2.trans (by decide))
      refine sv_iconst (v := 2) hΓ dX12_weightOf_81 (by decide) rfl ?_
      refine sv_iload_n hΓ dX12_weightOf_82 rfl 0 rfl rfl ?_
      refine sv_bipush (v := 100) hΓ dX12_weightOf_83 (by decide) rfl ?_
      refine sv_iadd hΓ dX12_weightOf_85 rfl ?_
      refine sv_imul hΓ dX12_weightOf_86 rfl ?_
      exact sv_iret hΓ hQ dX12_weightOf_87 (Nat.le_of_ble_eq_true rfl) (Nat.le_of_ble_eq_true rfl) ⟨by simp [wtF, u2], rfl, rfl⟩
    · refine sv_tableIn (off := 77) (pc' := 99) hΓ dX12_weightOf_22 (by omega) (by omega) (by rw [u2]; rfl) (by decide) ?_
      replace u2 : ci 44 a = (6 : Int32) := Int32.toInt_inj.mp (u2.trans (by decide))
      refine sv_iload_n hΓ dX12_weightOf_99 rfl 0 rfl rfl ?_
      exact sv_iret hΓ hQ dX12_weightOf_100 (Nat.le_of_ble_eq_true rfl) (Nat.le_of_ble_eq_true rfl) ⟨by simp [wtF, u2], rfl, rfl⟩
    · refine sv_tableIn (off := 77) (pc' := 99) hΓ dX12_weightOf_22 (by omega) (by omega) (by rw [u2]; rfl) (by decide) ?_
      replace u2 : ci 44 a = (7 : Int32) := Int32.toInt_inj.mp (u2.trans (by decide))
      refine sv_iload_n hΓ dX12_weightOf_99 rfl 0 rfl rfl ?_
      exact sv_iret hΓ hQ dX12_weightOf_100 (Nat.le_of_ble_eq_true rfl) (Nat.le_of_ble_eq_true rfl) ⟨by simp [wtF, u2], rfl, rfl⟩
    · refine sv_tableIn (off := 66) (pc' := 88) hΓ dX12_weightOf_22 (by omega) (by omega) (by rw [u2]; rfl) (by decide) ?_
      replace u2 : ci 44 a = (8 : Int32) := Int32.toInt_inj.mp (u2.trans (by decide))
      refine sv_iload_n hΓ dX12_weightOf_88 rfl 0 rfl rfl ?_
      refine sv_bipush (v := 7) hΓ dX12_weightOf_89 (by decide) rfl ?_
      refine sv_iadd hΓ dX12_weightOf_91 rfl ?_
      exact sv_iret hΓ hQ dX12_weightOf_92 (Nat.le_of_ble_eq_true rfl) (Nat.le_of_ble_eq_true rfl) ⟨by simp [wtF, u2], rfl, rfl⟩
    · refine sv_tableIn (off := 66) (pc' := 88) hΓ dX12_weightOf_22 (by omega) (by omega) (by rw [u2]; rfl) (by decide) ?_
      replace u2 : ci 44 a = (9 : Int32) := Int32.toInt_inj.mp (u2.trans (by decide))
      refine sv_iload_n hΓ dX12_weightOf_88 rfl 0 rfl rfl ?_
      refine sv_bipush (v := 7) hΓ dX12_weightOf_89 (by decide) rfl ?_
      refine sv_iadd hΓ dX12_weightOf_91 rfl ?_
      exact sv_iret hΓ hQ dX12_weightOf_92 (Nat.le_of_ble_eq_true rfl) (Nat.le_of_ble_eq_true rfl) ⟨by simp [wtF, u2], rfl, rfl⟩
    · refine sv_tableIn (off := 71) (pc' := 93) hΓ dX12_weightOf_22 (by omega) (by omega) (by rw [u2]; rfl) (by decide) ?_
      replace u2 : ci 44 a = (10 : Int32) := Int32.toInt_inj.mp (u2.trans (by decide))
      refine sv_iload_n hΓ dX12_weightOf_93 rfl 0 rfl rfl ?_
      refine sv_sipush (v := 1007) hΓ dX12_weightOf_94 (by decide) rfl ?_
      refine sv_iadd hΓ dX12_weightOf_97 rfl ?_
      exact sv_iret hΓ hQ dX12_weightOf_98 (Nat.le_of_ble_eq_true rfl) (Nat.le_of_ble_eq_true rfl) ⟨by simp [wtF, u2], rfl, rfl⟩
set_option maxRecDepth 100000 in
set_option maxHeartbeats 4000000 in
/-- hasPlaces -/
theorem ct_X12_hasPlaces {E : aG} (l : Launch) (d : Nat) (i : Int32) (n : Int32) {ci : Nat → Nat → Int32} {cl : Nat → Nat → Int64} {cr : Nat → Nat → Option Nat} {dy : aM} {nx : Nat} (hd8 : d < 8) : CT E l yX12_hasPlaces cX12_hasPlaces 4 (some .boolean) 0 [.ref 43, .int (nI d), .int i, .int n] (mm ci cl cr dy) nx 0 0 (fun r M' nx' => r = some (.int (bI (¬ n < 0 ∧ ¬ i < 0 ∧ ¬ ci 68 d < i ∧ ¬ ci 68 d - i < n))) ∧ M' = mm ci cl cr dy ∧ nx = nx') := by
  refine CT_intro (by decide) (Nat.le_of_ble_eq_true rfl) (fun Γ hΓ hQ => ?_)
  replace hΓ : CK E RX12 cX12_hasPlaces 4 (some .boolean) "hasPlaces" 0 0 0 Γ := hΓ
  show SV E Γ 4 (mm ci cl cr dy) nx 0 0 0 [(0, .ref 43), (1, .int (nI d)), (2, .int i), (3, .int n)] []
  refine sv_iload_n hΓ dX12_hasPlaces_0 rfl 3 rfl rfl ?_
  refine sv_if_lt (tgt := 34) hΓ dX12_hasPlaces_1 (by decide) rfl (fun u1 => ?_) (fun u1 => ?_)
  · refine sv_iconst (v := 0) hΓ dX12_hasPlaces_34 (by decide) rfl ?_
    exact sv_zret hΓ hQ dX12_hasPlaces_35 (Nat.le_of_ble_eq_true rfl) (Nat.le_of_ble_eq_true rfl) rfl ⟨by first | rw [bI_t (by grind)] | rw [bI_f (by grind)], rfl, rfl⟩
  · refine sv_iload_n hΓ dX12_hasPlaces_4 rfl 2 rfl rfl ?_
    refine sv_if_lt (tgt := 34) hΓ dX12_hasPlaces_5 (by decide) rfl (fun u2 => ?_) (fun u2 => ?_)
    · refine sv_iconst (v := 0) hΓ dX12_hasPlaces_34 (by decide) rfl ?_
      exact sv_zret hΓ hQ dX12_hasPlaces_35 (Nat.le_of_ble_eq_true rfl) (Nat.le_of_ble_eq_true rfl) rfl ⟨by first | rw [bI_t (by grind)] | rw [bI_f (by grind)], rfl, rfl⟩
    · refine sv_iload_n hΓ dX12_hasPlaces_8 rfl 2 rfl rfl ?_
      refine sv_aload_n hΓ dX12_hasPlaces_9 rfl 0 rfl rfl ?_
      refine g_X12_84_43 hΓ dX12_hasPlaces_10 rfl ?_
      refine sv_iload_n hΓ dX12_hasPlaces_13 rfl 1 rfl rfl ?_
      refine ai_68 hΓ (d) rfl (by omega) dX12_hasPlaces_14 rfl ?_
      refine sv_icmp_gt (tgt := 34) hΓ dX12_hasPlaces_15 (by decide) rfl (fun u3 => ?_) (fun u3 => ?_)
      · refine sv_iconst (v := 0) hΓ dX12_hasPlaces_34 (by decide) rfl ?_
        exact sv_zret hΓ hQ dX12_hasPlaces_35 (Nat.le_of_ble_eq_true rfl) (Nat.le_of_ble_eq_true rfl) rfl ⟨by first | rw [bI_t (by grind)] | rw [bI_f (by grind)], rfl, rfl⟩
      · refine sv_iload_n hΓ dX12_hasPlaces_18 rfl 3 rfl rfl ?_
        refine sv_aload_n hΓ dX12_hasPlaces_19 rfl 0 rfl rfl ?_
        refine g_X12_84_43 hΓ dX12_hasPlaces_20 rfl ?_
        refine sv_iload_n hΓ dX12_hasPlaces_23 rfl 1 rfl rfl ?_
        refine ai_68 hΓ (d) rfl (by omega) dX12_hasPlaces_24 rfl ?_
        refine sv_iload_n hΓ dX12_hasPlaces_25 rfl 2 rfl rfl ?_
        refine sv_isub hΓ dX12_hasPlaces_26 rfl ?_
        refine sv_icmp_gt (tgt := 34) hΓ dX12_hasPlaces_27 (by decide) rfl (fun u4 => ?_) (fun u4 => ?_)
        · refine sv_iconst (v := 0) hΓ dX12_hasPlaces_34 (by decide) rfl ?_
          exact sv_zret hΓ hQ dX12_hasPlaces_35 (Nat.le_of_ble_eq_true rfl) (Nat.le_of_ble_eq_true rfl) rfl ⟨by first | rw [bI_t (by grind)] | rw [bI_f (by grind)], rfl, rfl⟩
        · refine sv_iconst (v := 1) hΓ dX12_hasPlaces_30 (by decide) rfl ?_
          refine sv_goto (pc' := 35) hΓ dX12_hasPlaces_31 (by decide) ?_
          exact sv_zret hΓ hQ dX12_hasPlaces_35 (Nat.le_of_ble_eq_true rfl) (Nat.le_of_ble_eq_true rfl) rfl ⟨by first | rw [bI_t (by grind)] | rw [bI_f (by grind)], rfl, rfl⟩
set_option maxRecDepth 100000 in
set_option maxHeartbeats 4000000 in
/-- source -/
theorem ct_X12_source {E : aG} (l : Launch) (a : Nat) (w : Nat) {ci : Nat → Nat → Int32} {cl : Nat → Nat → Int64} {cr : Nat → Nat → Option Nat} {dy : aM} {nx : Nat} (ha : a < 16) (hw3 : w < 3) (hx : 0 ≤ ci 46 (3 * a + w) → ∃ x, x < 16 ∧ ci 46 (3 * a + w) = nI x) : CT E l yX12_source cX12_source 4 (some .int) 0 [.ref 43, .int (nI a), .int (nI w)] (mm ci cl cr dy) nx 0 0 (fun r M' nx' => r = some (.int (soF ci a w)) ∧ M' = mm ci cl cr dy ∧ nx = nx') := by
  refine CT_intro (by decide) (Nat.le_of_ble_eq_true rfl) (fun Γ hΓ hQ => ?_)
  replace hΓ : CK E RX12 cX12_source 4 (some .int) "source" 0 0 0 Γ := hΓ
  show SV E Γ 4 (mm ci cl cr dy) nx 0 0 0 [(0, .ref 43), (1, .int (nI a)), (2, .int (nI w))] []
  refine sv_aload_n hΓ dX12_source_0 rfl 0 rfl rfl ?_
  refine g_X12_16_43 hΓ dX12_source_1 rfl ?_
  refine sv_iconst (v := 3) hΓ dX12_source_4 (by decide) rfl ?_
  refine sv_iload_n hΓ dX12_source_5 rfl 1 rfl rfl ?_
  refine sv_imulE (v := nI (3 * a)) hΓ dX12_source_6 (nx_mul rfl rfl) rfl ?_
  refine sv_iload_n hΓ dX12_source_7 rfl 2 rfl rfl ?_
  refine sv_iaddE (v := nI (3 * a + w)) hΓ dX12_source_8 (nx_add rfl rfl) rfl ?_
  refine ai_46 hΓ (3 * a + w) rfl (by omega) dX12_source_9 rfl ?_
  refine sv_istore_n (lv' := [(3, .int (ci 46 (3 * a + w))), (0, .ref 43), (1, .int (nI a)), (2, .int (nI w))]) hΓ dX12_source_10 rfl (by decide) rfl rfl ?_
  refine sv_iload_n hΓ dX12_source_11 rfl 0 rfl rfl ?_
  refine sv_if_ge (tgt := 19) hΓ dX12_source_12 (by decide) rfl (fun u1 => ?_) (fun u1 => ?_)
  · obtain ⟨x, hx6, hx⟩ := hx u1
    refine sv_aload_n hΓ dX12_source_19 rfl 1 rfl rfl ?_
    refine g_X12_7_43 hΓ dX12_source_20 rfl ?_
    refine sv_iload_n hΓ dX12_source_23 rfl 0 rfl rfl ?_
    refine ai_44 hΓ (x) hx hx6 dX12_source_24 rfl ?_
    refine sv_if_ne (tgt := 35) hΓ dX12_source_25 (by decide) rfl (fun u2 => ?_) (fun u2 => ?_)
    · refine sv_aload_n hΓ dX12_source_35 rfl 1 rfl rfl ?_
      refine g_X12_51_43 hΓ dX12_source_36 rfl ?_
      refine sv_iload_n hΓ dX12_source_39 rfl 0 rfl rfl ?_
      refine ai_57 hΓ (x) hx hx6 dX12_source_40 rfl ?_
      exact sv_iret hΓ hQ dX12_source_41 (Nat.le_of_ble_eq_true rfl) (Nat.le_of_ble_eq_true rfl) ⟨by simp only [soF]; rw [if_pos u1, hx, nI_clamp (by omega), if_neg u2], rfl, rfl⟩
    · refine sv_bipush (v := 100) hΓ dX12_source_28 (by decide) rfl ?_
      refine sv_iload_n hΓ dX12_source_30 rfl 0 rfl rfl ?_
      refine sv_iadd hΓ dX12_source_31 rfl ?_
      refine sv_goto (pc' := 41) hΓ dX12_source_32 (by decide) ?_
      exact sv_iret hΓ hQ dX12_source_41 (Nat.le_of_ble_eq_true rfl) (Nat.le_of_ble_eq_true rfl) ⟨by simp only [soF]; rw [if_pos u1, hx, nI_clamp (by omega), if_pos u2], rfl, rfl⟩
  · refine sv_iconst (v := (-1)) hΓ dX12_source_15 (by decide) rfl ?_
    refine sv_goto (pc' := 41) hΓ dX12_source_16 (by decide) ?_
    exact sv_iret hΓ hQ dX12_source_41 (Nat.le_of_ble_eq_true rfl) (Nat.le_of_ble_eq_true rfl) ⟨by simp only [soF]; rw [if_neg u1], rfl, rfl⟩
set_option maxRecDepth 100000 in
set_option maxHeartbeats 4000000 in
/-- filled -/
theorem ct_X12_filled {E : aG} (l : Launch) (k : Nat) (n : Nat) {ci : Nat → Nat → Int32} {cl : Nat → Nat → Int64} {cr : Nat → Nat → Option Nat} {dy : aM} {nx : Nat} (hk : k < 4) (hp0 : ¬ ci 49 k = 0) (hn : ci 43 1 = nI n) (hn6 : n ≤ 16) : CT E l yX12_filled cX12_filled 4 (some .int) 2 [.ref 43, .int (nI k)] (mm ci cl cr dy) nx 0 0 (fun r M' nx' => r = some (.int ((fdF ci (nI k) n + ci 49 k - 1) / ci 49 k)) ∧ M' = mm ci cl cr dy ∧ nx = nx') := by
  refine CT_intro (by decide) (Nat.le_of_ble_eq_true rfl) (fun Γ hΓ hQ => ?_)
  replace hΓ : CK E RX12 cX12_filled 4 (some .int) "filled" 2 0 0 Γ := hΓ
  show SV E Γ 4 (mm ci cl cr dy) nx 0 0 0 [(0, .ref 43), (1, .int (nI k))] []
  refine sv_iconst (v := 0) hΓ dX12_filled_0 (by decide) rfl ?_
  refine sv_istore_n (lv' := [(2, .int 0), (0, .ref 43), (1, .int (nI k))]) hΓ dX12_filled_1 rfl (by decide) rfl rfl ?_
  refine sv_iconst (v := 0) hΓ dX12_filled_2 (by decide) rfl ?_
  refine sv_istore_n (lv' := [(3, .int 0), (2, .int 0), (0, .ref 43), (1, .int (nI k))]) hΓ dX12_filled_3 rfl (by decide) rfl rfl ?_
  have LP4 : ∀ kq a : Nat, a + kq = n → SV E Γ 4 (mm ci cl cr dy) nx 0 0 4 [(3, .int (nI a)), (2, .int (fdF ci (nI k) a)), (0, .ref 43), (1, .int (nI k))] [] := by
    intro kq
    induction kq with
    | zero =>
      intro a ha
      have ea : a = n := by omega
      refine sv_iload_n hΓ dX12_filled_4 rfl 0 rfl rfl ?_
      refine sv_aload_n hΓ dX12_filled_5 rfl 2 rfl rfl ?_
      refine g_X12_103_43 hΓ dX12_filled_6 rfl ?_
      refine sv_icmp_ge (tgt := 39) hΓ dX12_filled_9 (by decide) rfl (fun u1 => ?_) (fun u1 => absurd (by rw [hn]; exact nI_le (by omega) (by omega)) u1)
      refine sv_iload_n hΓ dX12_filled_39 rfl 1 rfl rfl ?_
      refine sv_aload_n hΓ dX12_filled_40 rfl 2 rfl rfl ?_
      refine g_X12_26_43 hΓ dX12_filled_41 rfl ?_
      refine sv_iload_n hΓ dX12_filled_44 rfl 3 rfl rfl ?_
      refine ai_49 hΓ (k) rfl (by omega) dX12_filled_45 rfl ?_
      refine sv_iadd hΓ dX12_filled_46 rfl ?_
      refine sv_iconst (v := 1) hΓ dX12_filled_47 (by decide) rfl ?_
      refine sv_isub hΓ dX12_filled_48 rfl ?_
      refine sv_aload_n hΓ dX12_filled_49 rfl 2 rfl rfl ?_
      refine g_X12_26_43 hΓ dX12_filled_50 rfl ?_
      refine sv_iload_n hΓ dX12_filled_53 rfl 3 rfl rfl ?_
      refine ai_49 hΓ (k) rfl (by omega) dX12_filled_54 rfl ?_
      refine sv_idiv hΓ dX12_filled_55 hp0 rfl ?_
      exact sv_iret hΓ hQ dX12_filled_56 (Nat.le_of_ble_eq_true rfl) (Nat.le_of_ble_eq_true rfl) ⟨by rw [ea], rfl, rfl⟩
    | succ kq ih =>
      intro a ha
      refine sv_iload_n hΓ dX12_filled_4 rfl 0 rfl rfl ?_
      refine sv_aload_n hΓ dX12_filled_5 rfl 2 rfl rfl ?_
      refine g_X12_103_43 hΓ dX12_filled_6 rfl ?_
      refine sv_icmp_ge (tgt := 39) hΓ dX12_filled_9 (by decide) rfl (fun u2 => absurd u2 (by rw [hn]; exact nI_ge (by omega) (by omega))) (fun u2 => ?_)
      refine sv_iload_n hΓ dX12_filled_12 rfl 1 rfl rfl ?_
      refine sv_aload_n hΓ dX12_filled_13 rfl 2 rfl rfl ?_
      refine sv_iload_n hΓ dX12_filled_14 rfl 0 rfl rfl ?_
      refine sv_callV hΓ (fun l => ct_X12_kindOf l a (by omega)) wv_X12_146 vs_X12_kindOf rfl m_43 rfl rfl (by decide) (Nat.le_of_ble_eq_true rfl) (Nat.le_of_ble_eq_true rfl) (Nat.le_of_ble_eq_true rfl) dX12_filled_15 rfl (fun r M' nx' p3 => ?_)
      obtain ⟨rfl, rfl, rfl⟩ := p3
      show SV E Γ 4 (mm ci cl cr dy) nx 0 0 18 [(3, .int (nI a)), (2, .int (fdF ci (nI k) a)), (0, .ref 43), (1, .int (nI k))] [.int (kd (ci 44 a)), .int (fdF ci (nI k) a)]
      refine sv_iload_n hΓ dX12_filled_18 rfl 3 rfl rfl ?_
      refine sv_icmp_ne (tgt := 30) hΓ dX12_filled_19 (by decide) rfl (fun u4 => ?_) (fun u4 => ?_)
      · refine sv_iconst (v := 0) hΓ dX12_filled_30 (by decide) rfl ?_
        refine sv_iadd hΓ dX12_filled_31 rfl ?_
        refine sv_istore_n (lv' := [(2, .int ((fdF ci (nI k) a) + 0)), (3, .int (nI a)), (0, .ref 43), (1, .int (nI k))]) hΓ dX12_filled_32 rfl (by decide) rfl rfl ?_
        refine sv_iinc (v := nI (a + 1)) (lv' := [(3, .int (nI (a + 1))), (2, .int ((fdF ci (nI k) a) + 0)), (0, .ref 43), (1, .int (nI k))]) hΓ dX12_filled_33 1 rfl (nx_inc rfl) (by decide) rfl rfl ?_
        refine sv_goto (pc' := 4) hΓ dX12_filled_36 (by decide) ?_
        have q := ih (a + 1) (by omega)
        rw [show fdF ci (nI k) (a + 1) = (fdF ci (nI k) a) + 0 from by simp only [fdF]; rw [if_neg u4]] at q
        exact SV_lv [0, 1, 2, 3] rfl q
      · refine sv_aload_n hΓ dX12_filled_22 rfl 2 rfl rfl ?_
        refine sv_iload_n hΓ dX12_filled_23 rfl 0 rfl rfl ?_
        refine sv_callV hΓ (fun l => ct_X12_fills l a (by omega)) wv_X12_191 vs_X12_fills rfl m_43 rfl rfl (by decide) (Nat.le_of_ble_eq_true rfl) (Nat.le_of_ble_eq_true rfl) (Nat.le_of_ble_eq_true rfl) dX12_filled_24 rfl (fun r M' nx' p5 => ?_)
        obtain ⟨rfl, rfl, rfl⟩ := p5
        show SV E Γ 4 (mm ci cl cr dy) nx 0 0 27 [(3, .int (nI a)), (2, .int (fdF ci (nI k) a)), (0, .ref 43), (1, .int (nI k))] [.int (fl ci a), .int (fdF ci (nI k) a)]
        refine sv_goto (pc' := 31) hΓ dX12_filled_27 (by decide) ?_
        refine sv_iadd hΓ dX12_filled_31 rfl ?_
        refine sv_istore_n (lv' := [(2, .int ((fdF ci (nI k) a) + (fl ci a))), (3, .int (nI a)), (0, .ref 43), (1, .int (nI k))]) hΓ dX12_filled_32 rfl (by decide) rfl rfl ?_
        refine sv_iinc (v := nI (a + 1)) (lv' := [(3, .int (nI (a + 1))), (2, .int ((fdF ci (nI k) a) + (fl ci a))), (0, .ref 43), (1, .int (nI k))]) hΓ dX12_filled_33 1 rfl (nx_inc rfl) (by decide) rfl rfl ?_
        refine sv_goto (pc' := 4) hΓ dX12_filled_36 (by decide) ?_
        have q := ih (a + 1) (by omega)
        rw [show fdF ci (nI k) (a + 1) = (fdF ci (nI k) a) + (fl ci a) from by simp only [fdF]; rw [if_pos u4]] at q
        exact SV_lv [0, 1, 2, 3] rfl q
  exact SV_lv [0, 1, 2, 3] rfl (LP4 n 0 (by omega))
set_option maxRecDepth 100000 in
set_option maxHeartbeats 4000000 in
/-- justBehind -/
theorem ct_X12_justBehind {E : aG} (l : Launch) (b : Nat) {ci : Nat → Nat → Int32} {cl : Nat → Nat → Int64} {cr : Nat → Nat → Option Nat} {dy : aM} {nx : Nat} (hb : b < 16) (ho : ∀ i, i ≤ b → (ci 44 i = 8 ∨ ci 44 i = 9) → ∃ x, x < 16 ∧ ci 46 (3 * i) = nI x) : CT E l yX12_justBehind cX12_justBehind 4 (some .int) 3 [.ref 43, .int (nI b)] (mm ci cl cr dy) nx 0 0 (fun r M' nx' => r = some (.int (jbF ci cl b b 0)) ∧ M' = mm ci cl cr dy ∧ nx = nx') := by
  refine CT_intro (by decide) (Nat.le_of_ble_eq_true rfl) (fun Γ hΓ hQ => ?_)
  replace hΓ : CK E RX12 cX12_justBehind 4 (some .int) "justBehind" 3 0 0 Γ := hΓ
  show SV E Γ 4 (mm ci cl cr dy) nx 0 0 0 [(0, .ref 43), (1, .int (nI b))] []
  refine sv_iconst (v := 0) hΓ dX12_justBehind_0 (by decide) rfl ?_
  refine sv_istore_n (lv' := [(2, .int 0), (0, .ref 43), (1, .int (nI b))]) hΓ dX12_justBehind_1 rfl (by decide) rfl rfl ?_
  have LP2 : ∀ kq a : Nat, a + kq = b → jbF ci cl b kq a = jbF ci cl b b 0 → SV E Γ 4 (mm ci cl cr dy) nx 0 0 2 [(2, .int (nI a)), (0, .ref 43), (1, .int (nI b))] [] := by
    intro kq
    induction kq with
    | zero =>
      intro a ha
      have ea : a = b := by omega
      intro hf
      refine sv_iload_n hΓ dX12_justBehind_2 rfl 0 rfl rfl ?_
      refine sv_iload_n hΓ dX12_justBehind_3 rfl 2 rfl rfl ?_
      refine sv_icmp_ge (tgt := 43) hΓ dX12_justBehind_4 (by decide) rfl (fun u1 => ?_) (fun u1 => absurd (nI_le (by omega) (by omega)) u1)
      refine sv_bipush (v := (-2)) hΓ dX12_justBehind_43 (by decide) rfl ?_
      exact sv_iret hΓ hQ dX12_justBehind_45 (Nat.le_of_ble_eq_true rfl) (Nat.le_of_ble_eq_true rfl) ⟨by rw [← hf]; rfl, rfl, rfl⟩
    | succ kq ih =>
      intro a ha
      intro hf
      refine sv_iload_n hΓ dX12_justBehind_2 rfl 0 rfl rfl ?_
      refine sv_iload_n hΓ dX12_justBehind_3 rfl 2 rfl rfl ?_
      refine sv_icmp_ge (tgt := 43) hΓ dX12_justBehind_4 (by decide) rfl (fun u2 => absurd u2 (nI_ge (by omega) (by omega))) (fun u2 => ?_)
      refine sv_aload_n hΓ dX12_justBehind_7 rfl 1 rfl rfl ?_
      refine sv_iload_n hΓ dX12_justBehind_8 rfl 0 rfl rfl ?_
      refine sv_iload_n hΓ dX12_justBehind_9 rfl 2 rfl rfl ?_
      refine sv_callV hΓ (fun l => ct_X12_need l a b (by omega) (by omega) (ho _ (by omega)) (ho _ (by omega))) wv_X12_187 vs_X12_need rfl m_43 rfl rfl (by decide) (Nat.le_of_ble_eq_true rfl) (Nat.le_of_ble_eq_true rfl) (Nat.le_of_ble_eq_true rfl) dX12_justBehind_10 rfl (fun r M' nx' p3 => ?_)
      obtain ⟨rfl, rfl, rfl⟩ := p3
      show SV E Γ 4 (mm ci cl cr dy) nx 0 0 13 [(2, .int (nI a)), (0, .ref 43), (1, .int (nI b))] [.int (nd ci cl a b)]
      refine sv_istore_n (lv' := [(3, .int (nd ci cl a b)), (2, .int (nI a)), (0, .ref 43), (1, .int (nI b))]) hΓ dX12_justBehind_13 rfl (by decide) rfl rfl ?_
      refine sv_iload_n hΓ dX12_justBehind_14 rfl 0 rfl rfl ?_
      refine sv_if_le (tgt := 37) hΓ dX12_justBehind_15 (by decide) rfl (fun u4 => ?_) (fun u4 => ?_)
      · refine sv_iinc (v := nI (a + 1)) (lv' := [(2, .int (nI (a + 1))), (3, .int (nd ci cl a b)), (0, .ref 43), (1, .int (nI b))]) hΓ dX12_justBehind_37 1 rfl (nx_inc rfl) (by decide) rfl rfl ?_
        refine sv_goto (pc' := 2) hΓ dX12_justBehind_40 (by decide) ?_
        exact SV_lv [0, 2, 3] rfl (ih (a + 1) (by omega) (by rw [← hf]; simp only [jbF]; rw [if_pos u4]))
      · refine sv_aload_n hΓ dX12_justBehind_18 rfl 2 rfl rfl ?_
        refine g_X12_45_43 hΓ dX12_justBehind_19 rfl ?_
        refine sv_iload_n hΓ dX12_justBehind_22 rfl 3 rfl rfl ?_
        refine ai_55 hΓ (b) rfl (by omega) dX12_justBehind_23 rfl ?_
        refine sv_aload_n hΓ dX12_justBehind_24 rfl 2 rfl rfl ?_
        refine g_X12_45_43 hΓ dX12_justBehind_25 rfl ?_
        refine sv_iload_n hΓ dX12_justBehind_28 rfl 1 rfl rfl ?_
        refine ai_55 hΓ (a) rfl (by omega) dX12_justBehind_29 rfl ?_
        refine sv_isub hΓ dX12_justBehind_30 rfl ?_
        refine sv_iload_n hΓ dX12_justBehind_31 rfl 0 rfl rfl ?_
        refine sv_icmp_ne (tgt := 37) hΓ dX12_justBehind_32 (by decide) rfl (fun u5 => ?_) (fun u5 => ?_)
        · refine sv_iinc (v := nI (a + 1)) (lv' := [(2, .int (nI (a + 1))), (3, .int (nd ci cl a b)), (0, .ref 43), (1, .int (nI b))]) hΓ dX12_justBehind_37 1 rfl (nx_inc rfl) (by decide) rfl rfl ?_
          refine sv_goto (pc' := 2) hΓ dX12_justBehind_40 (by decide) ?_
          exact SV_lv [0, 2, 3] rfl (ih (a + 1) (by omega) (by rw [← hf]; simp only [jbF]; rw [if_neg u4, if_neg u5]))
        · refine sv_iload_n hΓ dX12_justBehind_35 rfl 1 rfl rfl ?_
          exact sv_iret hΓ hQ dX12_justBehind_36 (Nat.le_of_ble_eq_true rfl) (Nat.le_of_ble_eq_true rfl) ⟨by rw [← hf]; simp only [jbF]; rw [if_neg u4, if_pos u5], rfl, rfl⟩
  exact SV_lv [0, 1, 2] rfl (LP2 b 0 (by omega) rfl)
set_option maxRecDepth 100000 in
set_option maxHeartbeats 4000000 in
/-- freeRegister -/
theorem ct_X12_freeRegister {E : aG} (l : Launch) (a : Nat) (n : Nat) {ci : Nat → Nat → Int32} {cl : Nat → Nat → Int64} {cr : Nat → Nat → Option Nat} {dy : aM} {nx : Nat} (ha : a < n) (hn : ci 43 1 = nI n) (hn6 : n ≤ 16) (h16 : mrI ci n a 16 n = 0) : CT E l yX12_freeRegister cX12_freeRegister 5 (some .int) 4 [.ref 43, .int (nI a)] (mm ci cl cr dy) nx 0 0 (fun r M' nx' => r = some (.int (nI (rgF ci n a 17 0))) ∧ M' = mm ci cl cr dy ∧ nx = nx') := by
  refine CT_intro (by decide) (Nat.le_of_ble_eq_true rfl) (fun Γ hΓ hQ => ?_)
  replace hΓ : CK E RX12 cX12_freeRegister 5 (some .int) "freeRegister" 4 0 0 Γ := hΓ
  show SV E Γ 5 (mm ci cl cr dy) nx 0 0 0 [(0, .ref 43), (1, .int (nI a))] []
  refine sv_iconst (v := 0) hΓ dX12_freeRegister_0 (by decide) rfl ?_
  refine sv_istore_n (lv' := [(2, .int 0), (0, .ref 43), (1, .int (nI a))]) hΓ dX12_freeRegister_1 rfl (by decide) rfl rfl ?_
  refine sv_iconst (v := 1) hΓ dX12_freeRegister_2 (by decide) rfl ?_
  refine sv_istore_n (lv' := [(3, .int 1), (2, .int 0), (0, .ref 43), (1, .int (nI a))]) hΓ dX12_freeRegister_3 rfl (by decide) rfl rfl ?_
  have LP4 : ∀ kq r : Nat, r + kq = 16 → rgF ci n a (kq + 1) r = rgF ci n a 17 0 → SV E Γ 5 (mm ci cl cr dy) nx 0 0 4 [(3, .int 1), (2, .int (nI r)), (0, .ref 43), (1, .int (nI a))] [] := by
    intro kq
    induction kq with
    | zero =>
      intro r ha
      have ea : r = 16 := by omega
      intro hf
      refine sv_iload_n hΓ dX12_freeRegister_4 rfl 0 rfl rfl ?_
      refine sv_if_eq (tgt := 72) hΓ dX12_freeRegister_5 (by decide) rfl (fun u1 => absurd u1 (by decide)) (fun u1 => ?_)
      refine sv_iconst (v := 0) hΓ dX12_freeRegister_8 (by decide) rfl ?_
      refine sv_istore_n (lv' := [(3, .int 0), (2, .int (nI r)), (0, .ref 43), (1, .int (nI a))]) hΓ dX12_freeRegister_9 rfl (by decide) rfl rfl ?_
      refine sv_iconst (v := 0) hΓ dX12_freeRegister_10 (by decide) rfl ?_
      refine sv_istore (lv' := [(4, .int 0), (3, .int 0), (2, .int (nI r)), (0, .ref 43), (1, .int (nI a))]) hΓ dX12_freeRegister_11 (by decide) rfl rfl ?_
      have LP13 : ∀ kq c : Nat, c + kq = n → SV E Γ 5 (mm ci cl cr dy) nx 0 0 13 [(4, .int (nI c)), (3, .int (mrI ci n a r c)), (2, .int (nI r)), (0, .ref 43), (1, .int (nI a))] [] := by
        intro kq
        induction kq with
        | zero =>
          intro c ha
          have ea : c = n := by omega
          obtain rfl : n = c := by omega
          refine sv_iload hΓ dX12_freeRegister_13 0 rfl rfl ?_
          refine sv_aload_n hΓ dX12_freeRegister_15 rfl 3 rfl rfl ?_
          refine g_X12_103_43 hΓ dX12_freeRegister_16 rfl ?_
          refine sv_icmp_ge (tgt := 57) hΓ dX12_freeRegister_19 (by decide) rfl (fun u2 => ?_) (fun u2 => absurd (by rw [hn]; exact nI_le (by omega) (by omega)) u2)
          refine sv_iload_n hΓ dX12_freeRegister_57 rfl 2 rfl rfl ?_
          refine sv_iload_n hΓ dX12_freeRegister_58 rfl 1 rfl rfl ?_
          refine sv_if_eq (tgt := 66) hΓ dX12_freeRegister_59 (by decide) rfl (fun u3 => ?_) (fun u3 => ?_)
          · refine sv_iconst (v := 0) hΓ dX12_freeRegister_66 (by decide) rfl ?_
            refine sv_iaddE (v := nI (r + 0)) hΓ dX12_freeRegister_67 (nx_add rfl rfl) rfl ?_
            refine sv_istore_n (lv' := [(2, .int (nI (r + 0))), (4, .int (nI n)), (3, .int (mrI ci n a r n)), (0, .ref 43), (1, .int (nI a))]) hΓ dX12_freeRegister_68 rfl (by decide) rfl rfl ?_
            refine sv_goto (pc' := 4) hΓ dX12_freeRegister_69 (by decide) ?_
            refine sv_iload_n hΓ dX12_freeRegister_4 rfl 2 rfl rfl ?_
            refine sv_if_eq (tgt := 72) hΓ dX12_freeRegister_5 (by decide) rfl (fun u4 => ?_) (fun u4 => absurd (by assumption) u4)
            refine sv_iload_n hΓ dX12_freeRegister_72 rfl 0 rfl rfl ?_
            exact sv_iret hΓ hQ dX12_freeRegister_73 (Nat.le_of_ble_eq_true rfl) (Nat.le_of_ble_eq_true rfl) ⟨by rw [← hf]; exact congrArg (fun z => some (Value.int (nI z))) (if_pos u3).symm, rfl, rfl⟩
          · refine sv_iconst (v := 1) hΓ dX12_freeRegister_62 (by decide) rfl ?_
            refine sv_goto (pc' := 67) hΓ dX12_freeRegister_63 (by decide) ?_
            refine sv_iaddE (v := nI (r + 1)) hΓ dX12_freeRegister_67 (nx_add rfl rfl) rfl ?_
            refine sv_istore_n (lv' := [(2, .int (nI (r + 1))), (4, .int (nI n)), (3, .int (mrI ci n a r n)), (0, .ref 43), (1, .int (nI a))]) hΓ dX12_freeRegister_68 rfl (by decide) rfl rfl ?_
            refine sv_goto (pc' := 4) hΓ dX12_freeRegister_69 (by decide) ?_
            exact absurd (by rw [show r = 16 by omega]; exact h16) u3
        | succ kq ih =>
          intro c ha
          refine sv_iload hΓ dX12_freeRegister_13 0 rfl rfl ?_
          refine sv_aload_n hΓ dX12_freeRegister_15 rfl 3 rfl rfl ?_
          refine g_X12_103_43 hΓ dX12_freeRegister_16 rfl ?_
          refine sv_icmp_ge (tgt := 57) hΓ dX12_freeRegister_19 (by decide) rfl (fun u5 => absurd u5 (by rw [hn]; exact nI_ge (by omega) (by omega))) (fun u5 => ?_)
          refine sv_iload hΓ dX12_freeRegister_22 0 rfl rfl ?_
          refine sv_iload_n hΓ dX12_freeRegister_24 rfl 4 rfl rfl ?_
          refine sv_icmp_eq (tgt := 51) hΓ dX12_freeRegister_25 (by decide) rfl (fun u6 => ?_) (fun u6 => ?_)
          · refine sv_iinc (v := nI (c + 1)) (lv' := [(4, .int (nI (c + 1))), (3, .int (mrI ci n a r c)), (2, .int (nI r)), (0, .ref 43), (1, .int (nI a))]) hΓ dX12_freeRegister_51 0 rfl (nx_inc rfl) (by decide) rfl rfl ?_
            refine sv_goto (pc' := 13) hΓ dX12_freeRegister_54 (by decide) ?_
            have q := ih (c + 1) (by omega)
            rw [show mrI ci n a r (c + 1) = mrI ci n a r c from by simp only [mrI]; rw [if_pos u6]] at q
            exact SV_lv [0, 1, 2, 3, 4] rfl q
          · refine sv_aload_n hΓ dX12_freeRegister_28 rfl 3 rfl rfl ?_
            refine g_X12_51_43 hΓ dX12_freeRegister_29 rfl ?_
            refine sv_iload hΓ dX12_freeRegister_32 0 rfl rfl ?_
            refine ai_57 hΓ (c) rfl (by omega) dX12_freeRegister_34 rfl ?_
            refine sv_iload_n hΓ dX12_freeRegister_35 rfl 2 rfl rfl ?_
            refine sv_icmp_ne (tgt := 51) hΓ dX12_freeRegister_36 (by decide) rfl (fun u7 => ?_) (fun u7 => ?_)
            · refine sv_iinc (v := nI (c + 1)) (lv' := [(4, .int (nI (c + 1))), (3, .int (mrI ci n a r c)), (2, .int (nI r)), (0, .ref 43), (1, .int (nI a))]) hΓ dX12_freeRegister_51 0 rfl (nx_inc rfl) (by decide) rfl rfl ?_
              refine sv_goto (pc' := 13) hΓ dX12_freeRegister_54 (by decide) ?_
              have q := ih (c + 1) (by omega)
              rw [show mrI ci n a r (c + 1) = mrI ci n a r c from by simp only [mrI]; rw [if_neg u6, if_neg u7]] at q
              exact SV_lv [0, 1, 2, 3, 4] rfl q
            · refine sv_aload_n hΓ dX12_freeRegister_39 rfl 3 rfl rfl ?_
              refine sv_iload_n hΓ dX12_freeRegister_40 rfl 4 rfl rfl ?_
              refine sv_iload hΓ dX12_freeRegister_41 0 rfl rfl ?_
              refine sv_callV hΓ (fun l => ct_X12_liveTogether l a c n (by omega) (by omega) (by omega) (by omega)) wv_X12_204 vs_X12_liveTogether rfl m_43 rfl rfl (by decide) (Nat.le_of_ble_eq_true rfl) (Nat.le_of_ble_eq_true rfl) (Nat.le_of_ble_eq_true rfl) dX12_freeRegister_43 rfl (fun r M' nx' p8 => ?_)
              obtain ⟨rfl, rfl, rfl⟩ := p8
              show SV E Γ 5 (mm ci cl cr dy) nx 0 0 46 [(4, .int (nI c)), (3, .int (mrI ci n a r c)), (2, .int (nI r)), (0, .ref 43), (1, .int (nI a))] [.int (bI (tog ci n a c))]
              refine sv_if_eq (tgt := 51) hΓ dX12_freeRegister_46 (by decide) rfl (fun u9 => ?_) (fun u9 => ?_)
              · replace u9 := bI_0.mp u9
                refine sv_iinc (v := nI (c + 1)) (lv' := [(4, .int (nI (c + 1))), (3, .int (mrI ci n a r c)), (2, .int (nI r)), (0, .ref 43), (1, .int (nI a))]) hΓ dX12_freeRegister_51 0 rfl (nx_inc rfl) (by decide) rfl rfl ?_
                refine sv_goto (pc' := 13) hΓ dX12_freeRegister_54 (by decide) ?_
                have q := ih (c + 1) (by omega)
                rw [show mrI ci n a r (c + 1) = mrI ci n a r c from by simp only [mrI]; rw [if_neg u6, if_pos u7, if_neg u9]] at q
                exact SV_lv [0, 1, 2, 3, 4] rfl q
              · replace u9 := bI_ne.mp u9
                refine sv_iconst (v := 1) hΓ dX12_freeRegister_49 (by decide) rfl ?_
                refine sv_istore_n (lv' := [(3, .int 1), (4, .int (nI c)), (2, .int (nI r)), (0, .ref 43), (1, .int (nI a))]) hΓ dX12_freeRegister_50 rfl (by decide) rfl rfl ?_
                refine sv_iinc (v := nI (c + 1)) (lv' := [(4, .int (nI (c + 1))), (3, .int 1), (2, .int (nI r)), (0, .ref 43), (1, .int (nI a))]) hΓ dX12_freeRegister_51 1 rfl (nx_inc rfl) (by decide) rfl rfl ?_
                refine sv_goto (pc' := 13) hΓ dX12_freeRegister_54 (by decide) ?_
                have q := ih (c + 1) (by omega)
                rw [show mrI ci n a r (c + 1) = 1 from by simp only [mrI]; rw [if_neg u6, if_pos u7, if_pos u9]] at q
                exact SV_lv [0, 1, 2, 3, 4] rfl q
      exact SV_lv [0, 1, 2, 3, 4] rfl (LP13 n 0 (by omega))
    | succ kq ih =>
      intro r ha
      intro hf
      refine sv_iload_n hΓ dX12_freeRegister_4 rfl 0 rfl rfl ?_
      refine sv_if_eq (tgt := 72) hΓ dX12_freeRegister_5 (by decide) rfl (fun u10 => absurd u10 (by decide)) (fun u10 => ?_)
      refine sv_iconst (v := 0) hΓ dX12_freeRegister_8 (by decide) rfl ?_
      refine sv_istore_n (lv' := [(3, .int 0), (2, .int (nI r)), (0, .ref 43), (1, .int (nI a))]) hΓ dX12_freeRegister_9 rfl (by decide) rfl rfl ?_
      refine sv_iconst (v := 0) hΓ dX12_freeRegister_10 (by decide) rfl ?_
      refine sv_istore (lv' := [(4, .int 0), (3, .int 0), (2, .int (nI r)), (0, .ref 43), (1, .int (nI a))]) hΓ dX12_freeRegister_11 (by decide) rfl rfl ?_
      have LP13 : ∀ kq c : Nat, c + kq = n → SV E Γ 5 (mm ci cl cr dy) nx 0 0 13 [(4, .int (nI c)), (3, .int (mrI ci n a r c)), (2, .int (nI r)), (0, .ref 43), (1, .int (nI a))] [] := by
        intro kq
        induction kq with
        | zero =>
          intro c ha
          have ea : c = n := by omega
          obtain rfl : n = c := by omega
          refine sv_iload hΓ dX12_freeRegister_13 0 rfl rfl ?_
          refine sv_aload_n hΓ dX12_freeRegister_15 rfl 3 rfl rfl ?_
          refine g_X12_103_43 hΓ dX12_freeRegister_16 rfl ?_
          refine sv_icmp_ge (tgt := 57) hΓ dX12_freeRegister_19 (by decide) rfl (fun u11 => ?_) (fun u11 => absurd (by rw [hn]; exact nI_le (by omega) (by omega)) u11)
          refine sv_iload_n hΓ dX12_freeRegister_57 rfl 2 rfl rfl ?_
          refine sv_iload_n hΓ dX12_freeRegister_58 rfl 1 rfl rfl ?_
          refine sv_if_eq (tgt := 66) hΓ dX12_freeRegister_59 (by decide) rfl (fun u12 => ?_) (fun u12 => ?_)
          · refine sv_iconst (v := 0) hΓ dX12_freeRegister_66 (by decide) rfl ?_
            refine sv_iaddE (v := nI (r + 0)) hΓ dX12_freeRegister_67 (nx_add rfl rfl) rfl ?_
            refine sv_istore_n (lv' := [(2, .int (nI (r + 0))), (4, .int (nI n)), (3, .int (mrI ci n a r n)), (0, .ref 43), (1, .int (nI a))]) hΓ dX12_freeRegister_68 rfl (by decide) rfl rfl ?_
            refine sv_goto (pc' := 4) hΓ dX12_freeRegister_69 (by decide) ?_
            refine sv_iload_n hΓ dX12_freeRegister_4 rfl 2 rfl rfl ?_
            refine sv_if_eq (tgt := 72) hΓ dX12_freeRegister_5 (by decide) rfl (fun u13 => ?_) (fun u13 => absurd (by assumption) u13)
            refine sv_iload_n hΓ dX12_freeRegister_72 rfl 0 rfl rfl ?_
            exact sv_iret hΓ hQ dX12_freeRegister_73 (Nat.le_of_ble_eq_true rfl) (Nat.le_of_ble_eq_true rfl) ⟨by rw [← hf]; exact congrArg (fun z => some (Value.int (nI z))) (if_pos u12).symm, rfl, rfl⟩
          · refine sv_iconst (v := 1) hΓ dX12_freeRegister_62 (by decide) rfl ?_
            refine sv_goto (pc' := 67) hΓ dX12_freeRegister_63 (by decide) ?_
            refine sv_iaddE (v := nI (r + 1)) hΓ dX12_freeRegister_67 (nx_add rfl rfl) rfl ?_
            refine sv_istore_n (lv' := [(2, .int (nI (r + 1))), (4, .int (nI n)), (3, .int (mrI ci n a r n)), (0, .ref 43), (1, .int (nI a))]) hΓ dX12_freeRegister_68 rfl (by decide) rfl rfl ?_
            refine sv_goto (pc' := 4) hΓ dX12_freeRegister_69 (by decide) ?_
            have q := ih (r + 1) (by omega) (by rw [← hf]; exact (if_neg u12).symm)
            rw [← (mr_1 u12)] at q
            exact SV_lv [2, 0, 3, 4] rfl q
        | succ kq ih =>
          intro c ha
          refine sv_iload hΓ dX12_freeRegister_13 0 rfl rfl ?_
          refine sv_aload_n hΓ dX12_freeRegister_15 rfl 3 rfl rfl ?_
          refine g_X12_103_43 hΓ dX12_freeRegister_16 rfl ?_
          refine sv_icmp_ge (tgt := 57) hΓ dX12_freeRegister_19 (by decide) rfl (fun u14 => absurd u14 (by rw [hn]; exact nI_ge (by omega) (by omega))) (fun u14 => ?_)
          refine sv_iload hΓ dX12_freeRegister_22 0 rfl rfl ?_
          refine sv_iload_n hΓ dX12_freeRegister_24 rfl 4 rfl rfl ?_
          refine sv_icmp_eq (tgt := 51) hΓ dX12_freeRegister_25 (by decide) rfl (fun u15 => ?_) (fun u15 => ?_)
          · refine sv_iinc (v := nI (c + 1)) (lv' := [(4, .int (nI (c + 1))), (3, .int (mrI ci n a r c)), (2, .int (nI r)), (0, .ref 43), (1, .int (nI a))]) hΓ dX12_freeRegister_51 0 rfl (nx_inc rfl) (by decide) rfl rfl ?_
            refine sv_goto (pc' := 13) hΓ dX12_freeRegister_54 (by decide) ?_
            have q := ih (c + 1) (by omega)
            rw [show mrI ci n a r (c + 1) = mrI ci n a r c from by simp only [mrI]; rw [if_pos u15]] at q
            exact SV_lv [0, 1, 2, 3, 4] rfl q
          · refine sv_aload_n hΓ dX12_freeRegister_28 rfl 3 rfl rfl ?_
            refine g_X12_51_43 hΓ dX12_freeRegister_29 rfl ?_
            refine sv_iload hΓ dX12_freeRegister_32 0 rfl rfl ?_
            refine ai_57 hΓ (c) rfl (by omega) dX12_freeRegister_34 rfl ?_
            refine sv_iload_n hΓ dX12_freeRegister_35 rfl 2 rfl rfl ?_
            refine sv_icmp_ne (tgt := 51) hΓ dX12_freeRegister_36 (by decide) rfl (fun u16 => ?_) (fun u16 => ?_)
            · refine sv_iinc (v := nI (c + 1)) (lv' := [(4, .int (nI (c + 1))), (3, .int (mrI ci n a r c)), (2, .int (nI r)), (0, .ref 43), (1, .int (nI a))]) hΓ dX12_freeRegister_51 0 rfl (nx_inc rfl) (by decide) rfl rfl ?_
              refine sv_goto (pc' := 13) hΓ dX12_freeRegister_54 (by decide) ?_
              have q := ih (c + 1) (by omega)
              rw [show mrI ci n a r (c + 1) = mrI ci n a r c from by simp only [mrI]; rw [if_neg u15, if_neg u16]] at q
              exact SV_lv [0, 1, 2, 3, 4] rfl q
            · refine sv_aload_n hΓ dX12_freeRegister_39 rfl 3 rfl rfl ?_
              refine sv_iload_n hΓ dX12_freeRegister_40 rfl 4 rfl rfl ?_
              refine sv_iload hΓ dX12_freeRegister_41 0 rfl rfl ?_
              refine sv_callV hΓ (fun l => ct_X12_liveTogether l a c n (by omega) (by omega) (by omega) (by omega)) wv_X12_204 vs_X12_liveTogether rfl m_43 rfl rfl (by decide) (Nat.le_of_ble_eq_true rfl) (Nat.le_of_ble_eq_true rfl) (Nat.le_of_ble_eq_true rfl) dX12_freeRegister_43 rfl (fun r M' nx' p17 => ?_)
              obtain ⟨rfl, rfl, rfl⟩ := p17
              show SV E Γ 5 (mm ci cl cr dy) nx 0 0 46 [(4, .int (nI c)), (3, .int (mrI ci n a r c)), (2, .int (nI r)), (0, .ref 43), (1, .int (nI a))] [.int (bI (tog ci n a c))]
              refine sv_if_eq (tgt := 51) hΓ dX12_freeRegister_46 (by decide) rfl (fun u18 => ?_) (fun u18 => ?_)
              · replace u18 := bI_0.mp u18
                refine sv_iinc (v := nI (c + 1)) (lv' := [(4, .int (nI (c + 1))), (3, .int (mrI ci n a r c)), (2, .int (nI r)), (0, .ref 43), (1, .int (nI a))]) hΓ dX12_freeRegister_51 0 rfl (nx_inc rfl) (by decide) rfl rfl ?_
                refine sv_goto (pc' := 13) hΓ dX12_freeRegister_54 (by decide) ?_
                have q := ih (c + 1) (by omega)
                rw [show mrI ci n a r (c + 1) = mrI ci n a r c from by simp only [mrI]; rw [if_neg u15, if_pos u16, if_neg u18]] at q
                exact SV_lv [0, 1, 2, 3, 4] rfl q
              · replace u18 := bI_ne.mp u18
                refine sv_iconst (v := 1) hΓ dX12_freeRegister_49 (by decide) rfl ?_
                refine sv_istore_n (lv' := [(3, .int 1), (4, .int (nI c)), (2, .int (nI r)), (0, .ref 43), (1, .int (nI a))]) hΓ dX12_freeRegister_50 rfl (by decide) rfl rfl ?_
                refine sv_iinc (v := nI (c + 1)) (lv' := [(4, .int (nI (c + 1))), (3, .int 1), (2, .int (nI r)), (0, .ref 43), (1, .int (nI a))]) hΓ dX12_freeRegister_51 1 rfl (nx_inc rfl) (by decide) rfl rfl ?_
                refine sv_goto (pc' := 13) hΓ dX12_freeRegister_54 (by decide) ?_
                have q := ih (c + 1) (by omega)
                rw [show mrI ci n a r (c + 1) = 1 from by simp only [mrI]; rw [if_neg u15, if_pos u16, if_pos u18]] at q
                exact SV_lv [0, 1, 2, 3, 4] rfl q
      exact SV_lv [0, 1, 2, 3, 4] rfl (LP13 n 0 (by omega))
  exact SV_lv [0, 1, 2, 3] rfl (LP4 16 0 (by omega) rfl)
set_option maxRecDepth 100000 in
set_option maxHeartbeats 4000000 in
/-- bitsOf -/
theorem ct_X12_bitsOf {E : aG} (l : Launch) (a : Nat) {ci : Nat → Nat → Int32} {cl : Nat → Nat → Int64} {cr : Nat → Nat → Option Nat} {dy : aM} {nx : Nat} (ha : a < 16) (hfit : fit (cl 61 a) (cl 62 a) (nI 32)) : CT E l yX12_bitsOf cX12_bitsOf 3 (some .int) 0 [.ref 43, .int (nI a)] (mm ci cl cr dy) nx 0 0 (fun r M' nx' => r = some (.int (nI (btF (cl 61 a) (cl 62 a) 32 1))) ∧ M' = mm ci cl cr dy ∧ nx = nx') := by
  refine CT_intro (by decide) (Nat.le_of_ble_eq_true rfl) (fun Γ hΓ hQ => ?_)
  replace hΓ : CK E RX12 cX12_bitsOf 3 (some .int) "bitsOf" 0 0 0 Γ := hΓ
  show SV E Γ 3 (mm ci cl cr dy) nx 0 0 0 [(0, .ref 43), (1, .int (nI a))] []
  refine sv_iconst (v := 1) hΓ dX12_bitsOf_0 (by decide) rfl ?_
  refine sv_istore_n (lv' := [(2, .int 1), (0, .ref 43), (1, .int (nI a))]) hΓ dX12_bitsOf_1 rfl (by decide) rfl rfl ?_
  have LP2 : ∀ kq n : Nat, n + kq = 32 → btF (cl 61 a) (cl 62 a) (kq + 1) n = btF (cl 61 a) (cl 62 a) 32 1 → SV E Γ 3 (mm ci cl cr dy) nx 0 0 2 [(2, .int (nI n)), (0, .ref 43), (1, .int (nI a))] [] := by
    intro kq
    induction kq with
    | zero =>
      intro n ha
      have ea : n = 32 := by omega
      intro hf
      refine sv_aload_n hΓ dX12_bitsOf_2 rfl 1 rfl rfl ?_
      refine g_X12_63_43 hΓ dX12_bitsOf_3 rfl ?_
      refine sv_iload_n hΓ dX12_bitsOf_6 rfl 2 rfl rfl ?_
      refine al_61 hΓ (a) rfl (by omega) dX12_bitsOf_7 rfl ?_
      refine sv_lconst (v := 1) hΓ dX12_bitsOf_8 (by decide) rfl ?_
      refine sv_iload_n hΓ dX12_bitsOf_9 rfl 0 rfl rfl ?_
      refine sv_iconst (v := 1) hΓ dX12_bitsOf_10 (by decide) rfl ?_
      refine sv_isub hΓ dX12_bitsOf_11 rfl ?_
      refine sv_lshl hΓ dX12_bitsOf_12 rfl rfl ?_
      refine sv_lneg hΓ dX12_bitsOf_13 rfl ?_
      refine sv_lcmp hΓ dX12_bitsOf_14 rfl ?_
      refine sv_if_lt (tgt := 33) hΓ dX12_bitsOf_15 (by decide) rfl (fun u1 => ?_) (fun u1 => ?_)
      · replace u1 := lgc_lt.mp u1
        refine sv_iinc (v := nI (n + 1)) (lv' := [(2, .int (nI (n + 1))), (0, .ref 43), (1, .int (nI a))]) hΓ dX12_bitsOf_33 0 rfl (nx_inc rfl) (by decide) rfl rfl ?_
        refine sv_goto (pc' := 2) hΓ dX12_bitsOf_36 (by decide) ?_
        exact absurd (show fit (cl 61 a) (cl 62 a) (nI n) by rw [show n = 32 by omega]; exact hfit) (fun f => f.1 u1)
      · replace u1 := mt lgc_lt.mpr u1
        refine sv_aload_n hΓ dX12_bitsOf_18 rfl 1 rfl rfl ?_
        refine g_X12_66_43 hΓ dX12_bitsOf_19 rfl ?_
        refine sv_iload_n hΓ dX12_bitsOf_22 rfl 2 rfl rfl ?_
        refine al_62 hΓ (a) rfl (by omega) dX12_bitsOf_23 rfl ?_
        refine sv_lconst (v := 1) hΓ dX12_bitsOf_24 (by decide) rfl ?_
        refine sv_iload_n hΓ dX12_bitsOf_25 rfl 0 rfl rfl ?_
        refine sv_iconst (v := 1) hΓ dX12_bitsOf_26 (by decide) rfl ?_
        refine sv_isub hΓ dX12_bitsOf_27 rfl ?_
        refine sv_lshl hΓ dX12_bitsOf_28 rfl rfl ?_
        refine sv_lcmp hΓ dX12_bitsOf_29 rfl ?_
        refine sv_if_lt (tgt := 39) hΓ dX12_bitsOf_30 (by decide) rfl (fun u2 => ?_) (fun u2 => ?_)
        · replace u2 := lgc_lt.mp u2
          refine sv_iload_n hΓ dX12_bitsOf_39 rfl 0 rfl rfl ?_
          exact sv_iret hΓ hQ dX12_bitsOf_40 (Nat.le_of_ble_eq_true rfl) (Nat.le_of_ble_eq_true rfl) ⟨by rw [← hf]; exact congrArg (fun z => some (Value.int (nI z))) (if_pos ⟨u1, u2⟩).symm, rfl, rfl⟩
        · replace u2 := mt lgc_lt.mpr u2
          refine sv_iinc (v := nI (n + 1)) (lv' := [(2, .int (nI (n + 1))), (0, .ref 43), (1, .int (nI a))]) hΓ dX12_bitsOf_33 0 rfl (nx_inc rfl) (by decide) rfl rfl ?_
          refine sv_goto (pc' := 2) hΓ dX12_bitsOf_36 (by decide) ?_
          exact absurd (show fit (cl 61 a) (cl 62 a) (nI n) by rw [show n = 32 by omega]; exact hfit) (fun f => u2 f.2)
    | succ kq ih =>
      intro n ha
      intro hf
      refine sv_aload_n hΓ dX12_bitsOf_2 rfl 1 rfl rfl ?_
      refine g_X12_63_43 hΓ dX12_bitsOf_3 rfl ?_
      refine sv_iload_n hΓ dX12_bitsOf_6 rfl 2 rfl rfl ?_
      refine al_61 hΓ (a) rfl (by omega) dX12_bitsOf_7 rfl ?_
      refine sv_lconst (v := 1) hΓ dX12_bitsOf_8 (by decide) rfl ?_
      refine sv_iload_n hΓ dX12_bitsOf_9 rfl 0 rfl rfl ?_
      refine sv_iconst (v := 1) hΓ dX12_bitsOf_10 (by decide) rfl ?_
      refine sv_isub hΓ dX12_bitsOf_11 rfl ?_
      refine sv_lshl hΓ dX12_bitsOf_12 rfl rfl ?_
      refine sv_lneg hΓ dX12_bitsOf_13 rfl ?_
      refine sv_lcmp hΓ dX12_bitsOf_14 rfl ?_
      refine sv_if_lt (tgt := 33) hΓ dX12_bitsOf_15 (by decide) rfl (fun u3 => ?_) (fun u3 => ?_)
      · replace u3 := lgc_lt.mp u3
        refine sv_iinc (v := nI (n + 1)) (lv' := [(2, .int (nI (n + 1))), (0, .ref 43), (1, .int (nI a))]) hΓ dX12_bitsOf_33 0 rfl (nx_inc rfl) (by decide) rfl rfl ?_
        refine sv_goto (pc' := 2) hΓ dX12_bitsOf_36 (by decide) ?_
        exact SV_lv [0, 1, 2] rfl (ih (n + 1) (by omega) (by rw [← hf]; exact (if_neg (fun f => f.1 u3)).symm))
      · replace u3 := mt lgc_lt.mpr u3
        refine sv_aload_n hΓ dX12_bitsOf_18 rfl 1 rfl rfl ?_
        refine g_X12_66_43 hΓ dX12_bitsOf_19 rfl ?_
        refine sv_iload_n hΓ dX12_bitsOf_22 rfl 2 rfl rfl ?_
        refine al_62 hΓ (a) rfl (by omega) dX12_bitsOf_23 rfl ?_
        refine sv_lconst (v := 1) hΓ dX12_bitsOf_24 (by decide) rfl ?_
        refine sv_iload_n hΓ dX12_bitsOf_25 rfl 0 rfl rfl ?_
        refine sv_iconst (v := 1) hΓ dX12_bitsOf_26 (by decide) rfl ?_
        refine sv_isub hΓ dX12_bitsOf_27 rfl ?_
        refine sv_lshl hΓ dX12_bitsOf_28 rfl rfl ?_
        refine sv_lcmp hΓ dX12_bitsOf_29 rfl ?_
        refine sv_if_lt (tgt := 39) hΓ dX12_bitsOf_30 (by decide) rfl (fun u4 => ?_) (fun u4 => ?_)
        · replace u4 := lgc_lt.mp u4
          refine sv_iload_n hΓ dX12_bitsOf_39 rfl 0 rfl rfl ?_
          exact sv_iret hΓ hQ dX12_bitsOf_40 (Nat.le_of_ble_eq_true rfl) (Nat.le_of_ble_eq_true rfl) ⟨by rw [← hf]; exact congrArg (fun z => some (Value.int (nI z))) (if_pos ⟨u3, u4⟩).symm, rfl, rfl⟩
        · replace u4 := mt lgc_lt.mpr u4
          refine sv_iinc (v := nI (n + 1)) (lv' := [(2, .int (nI (n + 1))), (0, .ref 43), (1, .int (nI a))]) hΓ dX12_bitsOf_33 0 rfl (nx_inc rfl) (by decide) rfl rfl ?_
          refine sv_goto (pc' := 2) hΓ dX12_bitsOf_36 (by decide) ?_
          exact SV_lv [0, 1, 2] rfl (ih (n + 1) (by omega) (by rw [← hf]; exact (if_neg (fun f => u4 f.2)).symm))
  exact SV_lv [0, 1, 2] rfl (LP2 31 1 (by omega) rfl)
