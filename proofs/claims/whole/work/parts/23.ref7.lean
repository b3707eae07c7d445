set_option maxRecDepth 100000 in
set_option maxHeartbeats 4000000 in
/-- begin -/
theorem ct_X12_begin {E : aG} (l : Launch) (a : Nat) {ci : Nat → Nat → Int32} {cl : Nat → Nat → Int64} {cr : Nat → Nat → Option Nat} {dy : aM} {nx : Nat} (ha : a < 16) (hw : WF ci a) (hp : PRE ci a) : CT E l yX12_begin cX12_begin 3 (some .int) 2 [.ref 43, .int (nI a)] (mm ci cl cr dy) nx 0 0 (fun r M' nx' => r = some (.int (bgR (up2 ci 43 22 (ci 43 22 + 1)) cl a)) ∧ M' = mm (bgI (up2 ci 43 22 (ci 43 22 + 1)) cl a) (bgL (up2 ci 43 22 (ci 43 22 + 1)) cl a) cr dy ∧ nx = nx') := by
  refine CT_intro (by decide) (Nat.le_of_ble_eq_true rfl) (fun Γ hΓ hQ => ?_)
  replace hΓ : CK E RX12 cX12_begin 3 (some .int) "begin" 2 0 0 Γ := hΓ
  show SV E Γ 3 (mm ci cl cr dy) nx 0 0 0 [(0, .ref 43), (1, .int (nI a))] []
  refine sv_aload_n hΓ dX12_begin_0 rfl 0 rfl rfl ?_
  refine sv_dup hΓ dX12_begin_1 rfl rfl ?_
  refine g_X12_247_43 hΓ dX12_begin_2 rfl ?_
  refine sv_iconst (v := 1) hΓ dX12_begin_5 (by decide) rfl ?_
  refine sv_iadd hΓ dX12_begin_6 rfl ?_
  refine p_X12_247_43 hΓ dX12_begin_7 rfl ?_
  obtain ⟨c1, hc1⟩ : ∃ z, z = up2 ci 43 22 (ci 43 22 + 1) := ⟨_, rfl⟩
  rw [show up2 ci 43 22 ((ci 43 22) + 1) = c1 from hc1.symm]
  have hw1 : WF c1 a := by rw [hc1]; exact hw
  have hp1 : PRE c1 a := by rw [hc1]; exact hp
  refine sv_aload_n hΓ dX12_begin_10 rfl 0 rfl rfl ?_
  refine sv_iload_n hΓ dX12_begin_11 rfl 1 rfl rfl ?_
  refine sv_callV hΓ (fun l => ct_X12_why l a (by omega) hw1) wv_X12_250 vs_X12_why rfl m_43 rfl rfl (by decide) (Nat.le_of_ble_eq_true rfl) (Nat.le_of_ble_eq_true rfl) (Nat.le_of_ble_eq_true rfl) dX12_begin_12 rfl (fun r M' nx' p1 => ?_)
  obtain ⟨rfl, rfl, rfl⟩ := p1
  show SV E Γ 3 (mm c1 cl cr dy) nx 0 0 15 [(0, .ref 43), (1, .int (nI a))] [.int (whF c1 cl a)]
  refine sv_istore_n (lv' := [(2, .int (whF c1 cl a)), (0, .ref 43), (1, .int (nI a))]) hΓ dX12_begin_15 rfl (by decide) rfl rfl ?_
  refine sv_iload_n hΓ dX12_begin_16 rfl 0 rfl rfl ?_
  refine sv_if_le (tgt := 22) hΓ dX12_begin_17 (by decide) rfl (fun u2 => ?_) (fun u2 => ?_)
  · replace u2 : ((whF c1 cl a) : Int32) ≤ 0 := u2
    obtain ⟨tk, hk1⟩ := wh_1 hp1 u2
    have hk5 := wh_5 u2
    obtain ⟨j, hk8⟩ := wh_8' u2
    refine sv_aload_n hΓ dX12_begin_22 rfl 1 rfl rfl ?_
    refine g_X12_75_43 hΓ dX12_begin_23 rfl ?_
    refine sv_iload_n hΓ dX12_begin_26 rfl 2 rfl rfl ?_
    refine sv_aload_n hΓ dX12_begin_27 rfl 1 rfl rfl ?_
    refine sv_iload_n hΓ dX12_begin_28 rfl 2 rfl rfl ?_
    refine sv_callV hΓ (fun l => ct_X12_given l a tk j (by omega) hw1 hk1 hk5 hk8) wv_X12_253 vs_X12_given rfl m_43 rfl rfl (by decide) (Nat.le_of_ble_eq_true rfl) (Nat.le_of_ble_eq_true rfl) (Nat.le_of_ble_eq_true rfl) dX12_begin_29 rfl (fun r M' nx' p3 => ?_)
    obtain ⟨rfl, rfl, rfl⟩ := p3
    show SV E Γ 3 (mm c1 cl cr dy) nx 0 0 32 [(2, .int (whF c1 cl a)), (0, .ref 43), (1, .int (nI a))] [.long (gvF c1 cl a), .int (nI a), .ref 65]
    refine sv_aload_n hΓ dX12_begin_32 rfl 1 rfl rfl ?_
    refine g_X12_13_43 hΓ dX12_begin_33 rfl ?_
    refine sv_iload_n hΓ dX12_begin_36 rfl 2 rfl rfl ?_
    refine ai_45 hΓ (a) rfl (by omega) dX12_begin_37 rfl ?_
    refine sv_callS hΓ (fun l => ct_X12_cut l (gvF c1 cl a) (c1 45 a) ) wv_X12_126 tb_1091 rfl rfl (by decide) (Nat.le_of_ble_eq_true rfl) (Nat.le_of_ble_eq_true rfl) (Nat.le_of_ble_eq_true rfl) dX12_begin_38 rfl (fun r M' nx' p4 => ?_)
    obtain ⟨rfl, rfl, rfl⟩ := p4
    show SV E Γ 3 (mm c1 cl cr dy) nx 0 0 41 [(2, .int (whF c1 cl a)), (0, .ref 43), (1, .int (nI a))] [.long (cutF (gvF c1 cl a) (c1 45 a)), .int (nI a), .ref 65]
    refine at_65 hΓ (a) rfl (by omega) dX12_begin_41 rfl ?_
    refine sv_aload_n hΓ dX12_begin_42 rfl 1 rfl rfl ?_
    refine g_X12_7_43 hΓ dX12_begin_43 rfl ?_
    refine sv_iload_n hΓ dX12_begin_46 rfl 2 rfl rfl ?_
    refine ai_44 hΓ (a) rfl (by omega) dX12_begin_47 rfl ?_
    refine sv_iconst (v := 1) hΓ dX12_begin_48 (by decide) rfl ?_
    refine sv_icmp_ne (tgt := 70) hΓ dX12_begin_49 (by decide) rfl (fun u5 => ?_) (fun u5 => ?_)
    · replace u5 : ¬ ((c1 44 a) : Int32) = 1 := u5
      refine sv_aload_n hΓ dX12_begin_70 rfl 1 rfl rfl ?_
      refine g_X12_7_43 hΓ dX12_begin_71 rfl ?_
      refine sv_iload_n hΓ dX12_begin_74 rfl 2 rfl rfl ?_
      refine ai_44 hΓ (a) rfl (by omega) dX12_begin_75 rfl ?_
      refine sv_bipush (v := 9) hΓ dX12_begin_76 (by decide) rfl ?_
      refine sv_icmp_ne (tgt := 102) hΓ dX12_begin_78 (by decide) rfl (fun u6 => ?_) (fun u6 => ?_)
      · replace u6 : ¬ ((c1 44 a) : Int32) = 9 := u6
        refine sv_aload_n hΓ dX12_begin_102 rfl 1 rfl rfl ?_
        refine g_X12_7_43 hΓ dX12_begin_103 rfl ?_
        refine sv_iload_n hΓ dX12_begin_106 rfl 2 rfl rfl ?_
        refine ai_44 hΓ (a) rfl (by omega) dX12_begin_107 rfl ?_
        refine sv_bipush (v := 10) hΓ dX12_begin_108 (by decide) rfl ?_
        refine sv_icmp_ne (tgt := 160) hΓ dX12_begin_110 (by decide) rfl (fun u7 => ?_) (fun u7 => ?_)
        · replace u7 : ¬ ((c1 44 a) : Int32) = 10 := u7
          refine sv_iconst (v := 0) hΓ dX12_begin_160 (by decide) rfl ?_
          exact sv_iret hΓ hQ dX12_begin_161 (Nat.le_of_ble_eq_true rfl) (Nat.le_of_ble_eq_true rfl) ⟨by rw [← hc1, bgR, if_pos u2], by rw [← hc1, show bgI c1 cl a = c1 from (by unfold bgI; rw [if_pos u2, if_neg u5, if_neg u6, if_neg u7]), show bgL c1 cl a = up2 cl 65 a (cutF (gvF c1 cl a) (c1 45 a)) from (by unfold bgL; rw [if_pos u2, if_neg u5, if_neg u6, if_neg u7])], rfl⟩
        · replace u7 : ((c1 44 a) : Int32) = 10 := u7
          obtain ⟨q, hq4, hq⟩ := hw1.q (Or.inr u7)
          obtain ⟨pu, hpu6, hpu⟩ := hp1.2 u7
          rw [hq, nI_clamp (by omega)] at hpu
          refine sv_aload_n hΓ dX12_begin_113 rfl 1 rfl rfl ?_
          refine g_X12_57_43 hΓ dX12_begin_114 rfl ?_
          refine sv_bipush (v := 16) hΓ dX12_begin_117 (by decide) rfl ?_
          refine sv_aload_n hΓ dX12_begin_119 rfl 1 rfl rfl ?_
          refine g_X12_19_43 hΓ dX12_begin_120 rfl ?_
          refine sv_iload_n hΓ dX12_begin_123 rfl 2 rfl rfl ?_
          refine ai_47 hΓ (a) rfl (by omega) dX12_begin_124 rfl ?_
          refine sv_imulE (v := nI (16 * q)) hΓ dX12_begin_125 (nx_mul rfl hq) rfl ?_
          refine sv_aload_n hΓ dX12_begin_126 rfl 1 rfl rfl ?_
          refine g_X12_54_43 hΓ dX12_begin_127 rfl ?_
          refine sv_aload_n hΓ dX12_begin_130 rfl 1 rfl rfl ?_
          refine g_X12_19_43 hΓ dX12_begin_131 rfl ?_
          refine sv_iload_n hΓ dX12_begin_134 rfl 2 rfl rfl ?_
          refine ai_47 hΓ (a) rfl (by omega) dX12_begin_135 rfl ?_
          refine ai_58 hΓ (q) hq (by omega) dX12_begin_136 rfl ?_
          refine sv_iaddE (v := nI (16 * q + pu)) hΓ dX12_begin_137 (nx_add rfl hpu) rfl ?_
          refine sv_aload_n hΓ dX12_begin_138 rfl 1 rfl rfl ?_
          refine g_X12_75_43 hΓ dX12_begin_139 rfl ?_
          refine sv_iload_n hΓ dX12_begin_142 rfl 2 rfl rfl ?_
          refine al_65 hΓ (a) rfl (by omega) dX12_begin_143 rfl ?_
          show SV E Γ 3 (mm c1 (up2 cl 65 a (cutF (gvF c1 cl a) (c1 45 a))) cr dy) nx 0 0 144 [(2, .int (whF c1 cl a)), (0, .ref 43), (1, .int (nI a))] [.long ((up2 cl 65 a (cutF (gvF c1 cl a) (c1 45 a))) 65 a), .int (nI (16 * q + pu)), .ref 59]
          rw [up2_s]
          refine at_59 hΓ (16 * q + pu) rfl (by omega) dX12_begin_144 rfl ?_
          refine sv_aload_n hΓ dX12_begin_145 rfl 1 rfl rfl ?_
          refine g_X12_54_43 hΓ dX12_begin_146 rfl ?_
          refine sv_aload_n hΓ dX12_begin_149 rfl 1 rfl rfl ?_
          refine g_X12_19_43 hΓ dX12_begin_150 rfl ?_
          refine sv_iload_n hΓ dX12_begin_153 rfl 2 rfl rfl ?_
          refine ai_47 hΓ (a) rfl (by omega) dX12_begin_154 rfl ?_
          refine sv_dup2 hΓ dX12_begin_155 rfl rfl rfl ?_
          refine ai_58 hΓ (q) hq (by omega) dX12_begin_156 rfl ?_
          refine sv_iconst (v := 1) hΓ dX12_begin_157 (by decide) rfl ?_
          refine sv_iaddE (v := nI (pu + 1)) hΓ dX12_begin_158 (nx_add hpu rfl) rfl ?_
          refine as_58 hΓ (q) hq (by omega) dX12_begin_159 rfl ?_
          refine sv_iconst (v := 0) hΓ dX12_begin_160 (by decide) rfl ?_
          exact sv_iret hΓ hQ dX12_begin_161 (Nat.le_of_ble_eq_true rfl) (Nat.le_of_ble_eq_true rfl) ⟨by rw [← hc1, bgR, if_pos u2], by rw [← hc1, show bgI c1 cl a = up2 c1 58 q (nI (pu + 1)) from (by unfold bgI; rw [if_pos u2, if_neg u5, if_neg u6, if_pos u7, hq, nI_clamp (show q < 2 ^ 31 by omega), hpu, nI_1]), show bgL c1 cl a = up2 (up2 cl 65 a (cutF (gvF c1 cl a) (c1 45 a))) 59 (16 * q + pu) (cutF (gvF c1 cl a) (c1 45 a)) from (by unfold bgL; rw [if_pos u2, if_neg u5, if_neg u6, if_pos u7, hq, nI_clamp (show q < 2 ^ 31 by omega), hpu, nI_clamp (show pu < 2 ^ 31 by omega)])], rfl⟩
      · replace u6 : ((c1 44 a) : Int32) = 9 := u6
        obtain ⟨x, hx6, hx⟩ := hw1.x (by rw [u6]; decide) (by rw [u6]; decide)
        obtain ⟨j2, hj, hj6⟩ := wh_8 u2 (Or.inr u6)
        have hj2 : vA c1 (up2 cl 65 a (cutF (gvF c1 cl a) (c1 45 a))) a 0 = lN j2 := (vA_up (w := 0) hx hx6 ha).trans hj
        refine sv_aload_n hΓ dX12_begin_81 rfl 1 rfl rfl ?_
        refine g_X12_60_43 hΓ dX12_begin_82 rfl ?_
        refine sv_aload_n hΓ dX12_begin_85 rfl 1 rfl rfl ?_
        refine sv_iload_n hΓ dX12_begin_86 rfl 2 rfl rfl ?_
        refine sv_iconst (v := 0) hΓ dX12_begin_87 (by decide) rfl ?_
        refine sv_callV hΓ (fun l => ct_X12_numberAt l a 0 x (by omega) (by omega) hx (by omega)) wv_X12_243 vs_X12_numberAt rfl m_43 rfl rfl (by decide) (Nat.le_of_ble_eq_true rfl) (Nat.le_of_ble_eq_true rfl) (Nat.le_of_ble_eq_true rfl) dX12_begin_88 rfl (fun r M' nx' p8 => ?_)
        obtain ⟨rfl, rfl, rfl⟩ := p8
        show SV E Γ 3 (mm c1 (up2 cl 65 a (cutF (gvF c1 cl a) (c1 45 a))) cr dy) nx 0 0 91 [(2, .int (whF c1 cl a)), (0, .ref 43), (1, .int (nI a))] [.long (vA c1 (up2 cl 65 a (cutF (gvF c1 cl a) (c1 45 a))) a 0), .ref 60]
        refine sv_l2i hΓ dX12_begin_91 rfl rfl ?_
        refine sv_aload_n hΓ dX12_begin_92 rfl 1 rfl rfl ?_
        refine g_X12_75_43 hΓ dX12_begin_93 rfl ?_
        refine sv_iload_n hΓ dX12_begin_96 rfl 2 rfl rfl ?_
        refine al_65 hΓ (a) rfl (by omega) dX12_begin_97 rfl ?_
        show SV E Γ 3 (mm c1 (up2 cl 65 a (cutF (gvF c1 cl a) (c1 45 a))) cr dy) nx 0 0 98 [(2, .int (whF c1 cl a)), (0, .ref 43), (1, .int (nI a))] [.long ((up2 cl 65 a (cutF (gvF c1 cl a) (c1 45 a))) 65 a), .int (Int64.toInt32 (vA c1 (up2 cl 65 a (cutF (gvF c1 cl a) (c1 45 a))) a 0)), .ref 60]
        rw [up2_s]
        refine at_60 hΓ (j2) ((by rw [hj2]; exact lN_i j2)) hj6 dX12_begin_98 rfl ?_
        refine sv_goto (pc' := 160) hΓ dX12_begin_99 (by decide) ?_
        refine sv_iconst (v := 0) hΓ dX12_begin_160 (by decide) rfl ?_
        exact sv_iret hΓ hQ dX12_begin_161 (Nat.le_of_ble_eq_true rfl) (Nat.le_of_ble_eq_true rfl) ⟨by rw [← hc1, bgR, if_pos u2], by rw [← hc1, show bgI c1 cl a = c1 from (by unfold bgI; rw [if_pos u2, if_neg u5, if_pos u6]), show bgL c1 cl a = up2 (up2 cl 65 a (cutF (gvF c1 cl a) (c1 45 a))) 60 j2 (cutF (gvF c1 cl a) (c1 45 a)) from (by unfold bgL; rw [if_pos u2, if_neg u5, if_pos u6, hj2, lN_i, nI_clamp (show j2 < 2 ^ 31 by omega)])], rfl⟩
    · replace u5 : ((c1 44 a) : Int32) = 1 := u5
      obtain ⟨q, hq4, hq⟩ := hw1.q (Or.inl u5)
      refine sv_aload_n hΓ dX12_begin_52 rfl 1 rfl rfl ?_
      refine g_X12_78_43 hΓ dX12_begin_53 rfl ?_
      refine sv_aload_n hΓ dX12_begin_56 rfl 1 rfl rfl ?_
      refine g_X12_19_43 hΓ dX12_begin_57 rfl ?_
      refine sv_iload_n hΓ dX12_begin_60 rfl 2 rfl rfl ?_
      refine ai_47 hΓ (a) rfl (by omega) dX12_begin_61 rfl ?_
      refine sv_dup2 hΓ dX12_begin_62 rfl rfl rfl ?_
      refine ai_66 hΓ (q) hq (by omega) dX12_begin_63 rfl ?_
      refine sv_iconst (v := 1) hΓ dX12_begin_64 (by decide) rfl ?_
      refine sv_iadd hΓ dX12_begin_65 rfl ?_
      refine as_66 hΓ (q) hq (by omega) dX12_begin_66 rfl ?_
      refine sv_goto (pc' := 160) hΓ dX12_begin_67 (by decide) ?_
      refine sv_iconst (v := 0) hΓ dX12_begin_160 (by decide) rfl ?_
      exact sv_iret hΓ hQ dX12_begin_161 (Nat.le_of_ble_eq_true rfl) (Nat.le_of_ble_eq_true rfl) ⟨by rw [← hc1, bgR, if_pos u2], by rw [← hc1, show bgI c1 cl a = up2 c1 66 q ((c1 66 q) + 1) from (by unfold bgI; rw [if_pos u2, if_pos u5, hq, nI_clamp (show q < 2 ^ 31 by omega)]), show bgL c1 cl a = up2 cl 65 a (cutF (gvF c1 cl a) (c1 45 a)) from (by unfold bgL; rw [if_pos u2, if_pos u5])], rfl⟩
  · replace u2 : ¬ (((whF c1 cl a) : Int32) ≤ 0) := u2
    refine sv_iload_n hΓ dX12_begin_20 rfl 0 rfl rfl ?_
    exact sv_iret hΓ hQ dX12_begin_21 (Nat.le_of_ble_eq_true rfl) (Nat.le_of_ble_eq_true rfl) ⟨by rw [← hc1, bgR, if_neg u2], by rw [← hc1, bgI, bgL, if_neg u2, if_neg u2], rfl⟩
