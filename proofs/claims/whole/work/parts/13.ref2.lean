set_option maxRecDepth 100000 in
set_option maxHeartbeats 4000000 in
/-- meet -/
theorem ct_X12_meet {E : aG} (l : Launch) (a : Nat) (b : Nat) (x : Nat) (y : Nat) {ci : Nat → Nat → Int32} {cl : Nat → Nat → Int64} {cr : Nat → Nat → Option Nat} {dy : aM} {nx : Nat} (ha : a < 16) (hb : b < 16) (hx : ci 46 (3 * a) = nI x) (hx6 : x < 16) (hy : ci 46 (3 * b) = nI y) (hy6 : y < 16) : CT E l yX12_meet cX12_meet 5 (some .boolean) 0 [.ref 43, .int (nI a), .int (nI b)] (mm ci cl cr dy) nx 0 0 (fun r M' nx' => r = some (.int (bI (MT ci cl a b))) ∧ M' = mm ci cl cr dy ∧ nx = nx') := by
  refine CT_intro (by decide) (Nat.le_of_ble_eq_true rfl) (fun Γ hΓ hQ => ?_)
  replace hΓ : CK E RX12 cX12_meet 5 (some .boolean) "meet" 0 0 0 Γ := hΓ
  show SV E Γ 5 (mm ci cl cr dy) nx 0 0 0 [(0, .ref 43), (1, .int (nI a)), (2, .int (nI b))] []
  refine sv_aload_n hΓ dX12_meet_0 rfl 0 rfl rfl ?_
  refine g_X12_16_43 hΓ dX12_meet_1 rfl ?_
  refine sv_iconst (v := 3) hΓ dX12_meet_4 (by decide) rfl ?_
  refine sv_iload_n hΓ dX12_meet_5 rfl 1 rfl rfl ?_
  refine sv_imulE (v := nI (3 * a)) hΓ dX12_meet_6 (nx_mul rfl rfl) rfl ?_
  refine ai_46 hΓ (3 * a) rfl (by omega) dX12_meet_7 rfl ?_
  refine sv_istore_n (lv' := [(3, .int (ci 46 (3 * a))), (0, .ref 43), (1, .int (nI a)), (2, .int (nI b))]) hΓ dX12_meet_8 rfl (by decide) rfl rfl ?_
  refine sv_aload_n hΓ dX12_meet_9 rfl 1 rfl rfl ?_
  refine g_X12_16_43 hΓ dX12_meet_10 rfl ?_
  refine sv_iconst (v := 3) hΓ dX12_meet_13 (by decide) rfl ?_
  refine sv_iload_n hΓ dX12_meet_14 rfl 3 rfl rfl ?_
  refine sv_imulE (v := nI (3 * b)) hΓ dX12_meet_15 (nx_mul rfl rfl) rfl ?_
  refine ai_46 hΓ (3 * b) rfl (by omega) dX12_meet_16 rfl ?_
  refine sv_istore (lv' := [(4, .int (ci 46 (3 * b))), (3, .int (ci 46 (3 * a))), (0, .ref 43), (1, .int (nI a)), (2, .int (nI b))]) hΓ dX12_meet_17 (by decide) rfl rfl ?_
  refine sv_aload_n hΓ dX12_meet_19 rfl 2 rfl rfl ?_
  refine g_X12_63_43 hΓ dX12_meet_20 rfl ?_
  refine sv_iload_n hΓ dX12_meet_23 rfl 1 rfl rfl ?_
  refine al_61 hΓ (x) hx (by omega) dX12_meet_24 rfl ?_
  refine sv_aload_n hΓ dX12_meet_25 rfl 2 rfl rfl ?_
  refine g_X12_66_43 hΓ dX12_meet_26 rfl ?_
  refine sv_iload hΓ dX12_meet_29 0 rfl rfl ?_
  refine al_62 hΓ (y) hy (by omega) dX12_meet_31 rfl ?_
  refine sv_lcmp hΓ dX12_meet_32 rfl ?_
  refine sv_if_gt (tgt := 57) hΓ dX12_meet_33 (by decide) rfl (fun u1 => ?_) (fun u1 => ?_)
  · replace u1 := lgc_gt.mp u1
    refine sv_iconst (v := 0) hΓ dX12_meet_57 (by decide) rfl ?_
    exact sv_zret hΓ hQ dX12_meet_58 (Nat.le_of_ble_eq_true rfl) (Nat.le_of_ble_eq_true rfl) rfl ⟨by simp only [MT, hx, hy, nI_clamp (show x < 2 ^ 31 by omega), nI_clamp (show y < 2 ^ 31 by omega)]; simp [bI, u1], rfl, rfl⟩
  · replace u1 := mt lgc_gt.mpr u1
    refine sv_aload_n hΓ dX12_meet_36 rfl 2 rfl rfl ?_
    refine g_X12_63_43 hΓ dX12_meet_37 rfl ?_
    refine sv_iload hΓ dX12_meet_40 0 rfl rfl ?_
    refine al_61 hΓ (y) hy (by omega) dX12_meet_42 rfl ?_
    refine sv_aload_n hΓ dX12_meet_43 rfl 2 rfl rfl ?_
    refine g_X12_66_43 hΓ dX12_meet_44 rfl ?_
    refine sv_iload_n hΓ dX12_meet_47 rfl 1 rfl rfl ?_
    refine al_62 hΓ (x) hx (by omega) dX12_meet_48 rfl ?_
    refine sv_lcmp hΓ dX12_meet_49 rfl ?_
    refine sv_if_gt (tgt := 57) hΓ dX12_meet_50 (by decide) rfl (fun u2 => ?_) (fun u2 => ?_)
    · replace u2 := lgc_gt.mp u2
      refine sv_iconst (v := 0) hΓ dX12_meet_57 (by decide) rfl ?_
      exact sv_zret hΓ hQ dX12_meet_58 (Nat.le_of_ble_eq_true rfl) (Nat.le_of_ble_eq_true rfl) rfl ⟨by simp only [MT, hx, hy, nI_clamp (show x < 2 ^ 31 by omega), nI_clamp (show y < 2 ^ 31 by omega)]; simp [bI, u1, u2], rfl, rfl⟩
    · replace u2 := mt lgc_gt.mpr u2
      refine sv_iconst (v := 1) hΓ dX12_meet_53 (by decide) rfl ?_
      refine sv_goto (pc' := 58) hΓ dX12_meet_54 (by decide) ?_
      exact sv_zret hΓ hQ dX12_meet_58 (Nat.le_of_ble_eq_true rfl) (Nat.le_of_ble_eq_true rfl) rfl ⟨by simp only [MT, hx, hy, nI_clamp (show x < 2 ^ 31 by omega), nI_clamp (show y < 2 ^ 31 by omega)]; simp [bI, u1, u2], rfl, rfl⟩
set_option maxRecDepth 100000 in
set_option maxHeartbeats 4000000 in
/-- need -/
theorem ct_X12_need {E : aG} (l : Launch) (a : Nat) (b : Nat) {ci : Nat → Nat → Int32} {cl : Nat → Nat → Int64} {cr : Nat → Nat → Option Nat} {dy : aM} {nx : Nat} (ha : a < 16) (hb : b < 16) (hoa : (ci 44 a = 8 ∨ ci 44 a = 9) → ∃ x, x < 16 ∧ ci 46 (3 * a) = nI x) (hob : (ci 44 b = 8 ∨ ci 44 b = 9) → ∃ x, x < 16 ∧ ci 46 (3 * b) = nI x) : CT E l yX12_need cX12_need 7 (some .int) 2 [.ref 43, .int (nI a), .int (nI b)] (mm ci cl cr dy) nx 0 0 (fun r M' nx' => r = some (.int (nd ci cl a b)) ∧ M' = mm ci cl cr dy ∧ nx = nx') := by
  refine CT_intro (by decide) (Nat.le_of_ble_eq_true rfl) (fun Γ hΓ hQ => ?_)
  replace hΓ : CK E RX12 cX12_need 7 (some .int) "need" 2 0 0 Γ := hΓ
  show SV E Γ 7 (mm ci cl cr dy) nx 0 0 0 [(0, .ref 43), (1, .int (nI a)), (2, .int (nI b))] []
  refine sv_iconst (v := 0) hΓ dX12_need_0 (by decide) rfl ?_
  refine sv_istore_n (lv' := [(3, .int 0), (0, .ref 43), (1, .int (nI a)), (2, .int (nI b))]) hΓ dX12_need_1 rfl (by decide) rfl rfl ?_
  refine sv_aload_n hΓ dX12_need_2 rfl 1 rfl rfl ?_
  refine sv_iload_n hΓ dX12_need_3 rfl 2 rfl rfl ?_
  refine sv_callV hΓ (fun l => ct_X12_lengthOf l a (by omega)) wv_X12_168 vs_X12_lengthOf rfl m_43 rfl rfl (by decide) (Nat.le_of_ble_eq_true rfl) (Nat.le_of_ble_eq_true rfl) (Nat.le_of_ble_eq_true rfl) dX12_need_4 rfl (fun r M' nx' p1 => ?_)
  obtain ⟨rfl, rfl, rfl⟩ := p1
  show SV E Γ 7 (mm ci cl cr dy) nx 0 0 7 [(3, .int 0), (0, .ref 43), (1, .int (nI a)), (2, .int (nI b))] [.int (ln ci a)]
  refine sv_istore (lv' := [(4, .int (ln ci a)), (3, .int 0), (0, .ref 43), (1, .int (nI a)), (2, .int (nI b))]) hΓ dX12_need_7 (by decide) rfl rfl ?_
  have J80 : SV E Γ 7 (mm ci cl cr dy) nx 0 0 80 [(4, .int (ln ci a)), (3, .int 0), (0, .ref 43), (1, .int (nI a)), (2, .int (nI b))] [.int (bI (DR ci a b))] := by
    refine sv_istore (lv' := [(5, .int (bI (DR ci a b))), (4, .int (ln ci a)), (3, .int 0), (0, .ref 43), (1, .int (nI a)), (2, .int (nI b))]) hΓ dX12_need_80 (by decide) rfl rfl ?_
    have J149 : SV E Γ 7 (mm ci cl cr dy) nx 0 0 149 [(3, .int (k1 ci cl a b)), (4, .int (ln ci a)), (0, .ref 43), (1, .int (nI a)), (2, .int (nI b))] [] := by
      have J194 : SV E Γ 7 (mm ci cl cr dy) nx 0 0 194 [(3, .int (k1 ci cl a b)), (4, .int (ln ci a)), (0, .ref 43), (1, .int (nI a)), (2, .int (nI b))] [.int (bI (WT ci a b))] := by
        refine sv_istore (lv' := [(6, .int (bI (WT ci a b))), (3, .int (k1 ci cl a b)), (4, .int (ln ci a)), (0, .ref 43), (1, .int (nI a)), (2, .int (nI b))]) hΓ dX12_need_194 (by decide) rfl rfl ?_
        refine sv_aload_n hΓ dX12_need_196 rfl 3 rfl rfl ?_
        refine sv_iload_n hΓ dX12_need_197 rfl 4 rfl rfl ?_
        refine sv_iload_n hΓ dX12_need_198 rfl 5 rfl rfl ?_
        refine sv_callV hΓ (fun l => ct_X12_isOperand l (nI a) b (by omega)) wv_X12_184 vs_X12_isOperand rfl m_43 rfl rfl (by decide) (Nat.le_of_ble_eq_true rfl) (Nat.le_of_ble_eq_true rfl) (Nat.le_of_ble_eq_true rfl) dX12_need_199 rfl (fun r M' nx' p2 => ?_)
        obtain ⟨rfl, rfl, rfl⟩ := p2
        show SV E Γ 7 (mm ci cl cr dy) nx 0 0 202 [(6, .int (bI (WT ci a b))), (3, .int (k1 ci cl a b)), (4, .int (ln ci a)), (0, .ref 43), (1, .int (nI a)), (2, .int (nI b))] [.int (bI (isO ci (nI a) b))]
        refine sv_if_ne (tgt := 210) hΓ dX12_need_202 (by decide) rfl (fun u3 => ?_) (fun u3 => ?_)
        · replace u3 := bI_ne.mp u3
          refine sv_iload hΓ dX12_need_210 2 rfl rfl ?_
          refine sv_iload_n hΓ dX12_need_212 rfl 1 rfl rfl ?_
          refine sv_icmp_le (tgt := 221) hΓ dX12_need_213 (by decide) rfl (fun u4 => ?_) (fun u4 => ?_)
          · refine sv_iload_n hΓ dX12_need_221 rfl 1 rfl rfl ?_
            exact sv_iret hΓ hQ dX12_need_222 (Nat.le_of_ble_eq_true rfl) (Nat.le_of_ble_eq_true rfl) ⟨by unfold nd; rw [if_neg (by grind)], rfl, rfl⟩
          · refine sv_iload hΓ dX12_need_216 2 rfl rfl ?_
            refine sv_goto (pc' := 222) hΓ dX12_need_218 (by decide) ?_
            exact sv_iret hΓ hQ dX12_need_222 (Nat.le_of_ble_eq_true rfl) (Nat.le_of_ble_eq_true rfl) ⟨by unfold nd; rw [if_pos (by grind)], rfl, rfl⟩
        · replace u3 := bI_0.mp u3
          refine sv_iload hΓ dX12_need_205 0 rfl rfl ?_
          refine sv_if_eq (tgt := 221) hΓ dX12_need_207 (by decide) rfl (fun u5 => ?_) (fun u5 => ?_)
          · replace u5 := bI_0.mp u5
            refine sv_iload_n hΓ dX12_need_221 rfl 1 rfl rfl ?_
            exact sv_iret hΓ hQ dX12_need_222 (Nat.le_of_ble_eq_true rfl) (Nat.le_of_ble_eq_true rfl) ⟨by unfold nd; rw [if_neg (by grind)], rfl, rfl⟩
          · replace u5 := bI_ne.mp u5
            refine sv_iload hΓ dX12_need_210 2 rfl rfl ?_
            refine sv_iload_n hΓ dX12_need_212 rfl 1 rfl rfl ?_
            refine sv_icmp_le (tgt := 221) hΓ dX12_need_213 (by decide) rfl (fun u6 => ?_) (fun u6 => ?_)
            · refine sv_iload_n hΓ dX12_need_221 rfl 1 rfl rfl ?_
              exact sv_iret hΓ hQ dX12_need_222 (Nat.le_of_ble_eq_true rfl) (Nat.le_of_ble_eq_true rfl) ⟨by unfold nd; rw [if_neg (by grind)], rfl, rfl⟩
            · refine sv_iload hΓ dX12_need_216 2 rfl rfl ?_
              refine sv_goto (pc' := 222) hΓ dX12_need_218 (by decide) ?_
              exact sv_iret hΓ hQ dX12_need_222 (Nat.le_of_ble_eq_true rfl) (Nat.le_of_ble_eq_true rfl) ⟨by unfold nd; rw [if_pos (by grind)], rfl, rfl⟩
      refine sv_aload_n hΓ dX12_need_149 rfl 2 rfl rfl ?_
      refine sv_iload_n hΓ dX12_need_150 rfl 3 rfl rfl ?_
      refine sv_callV hΓ (fun l => ct_X12_canFail l a (by omega)) wv_X12_181 vs_X12_canFail rfl m_43 rfl rfl (by decide) (Nat.le_of_ble_eq_true rfl) (Nat.le_of_ble_eq_true rfl) (Nat.le_of_ble_eq_true rfl) dX12_need_151 rfl (fun r M' nx' p7 => ?_)
      obtain ⟨rfl, rfl, rfl⟩ := p7
      show SV E Γ 7 (mm ci cl cr dy) nx 0 0 154 [(3, .int (k1 ci cl a b)), (4, .int (ln ci a)), (0, .ref 43), (1, .int (nI a)), (2, .int (nI b))] [.int (bI (cF (ci 44 a)))]
      refine sv_if_eq (tgt := 193) hΓ dX12_need_154 (by decide) rfl (fun u8 => ?_) (fun u8 => ?_)
      · replace u8 := bI_0.mp u8
        refine sv_iconst (v := 0) hΓ dX12_need_193 (by decide) rfl ?_
        have e9 : bI (WT ci a b) = 0 := by first | exact if_pos (by grind) | exact if_neg (by grind)
        rw [e9] at J194
        exact J194
      · replace u8 := bI_ne.mp u8
        refine sv_aload_n hΓ dX12_need_157 rfl 2 rfl rfl ?_
        refine g_X12_7_43 hΓ dX12_need_158 rfl ?_
        refine sv_iload_n hΓ dX12_need_161 rfl 4 rfl rfl ?_
        refine ai_44 hΓ (b) rfl (by omega) dX12_need_162 rfl ?_
        refine sv_iconst (v := 1) hΓ dX12_need_163 (by decide) rfl ?_
        refine sv_icmp_eq (tgt := 189) hΓ dX12_need_164 (by decide) rfl (fun u10 => ?_) (fun u10 => ?_)
        · refine sv_iconst (v := 1) hΓ dX12_need_189 (by decide) rfl ?_
          refine sv_goto (pc' := 194) hΓ dX12_need_190 (by decide) ?_
          have e11 : bI (WT ci a b) = 1 := by first | exact if_pos (by grind) | exact if_neg (by grind)
          rw [e11] at J194
          exact J194
        · refine sv_aload_n hΓ dX12_need_167 rfl 2 rfl rfl ?_
          refine g_X12_7_43 hΓ dX12_need_168 rfl ?_
          refine sv_iload_n hΓ dX12_need_171 rfl 4 rfl rfl ?_
          refine ai_44 hΓ (b) rfl (by omega) dX12_need_172 rfl ?_
          refine sv_bipush (v := 9) hΓ dX12_need_173 (by decide) rfl ?_
          refine sv_icmp_eq (tgt := 189) hΓ dX12_need_175 (by decide) rfl (fun u12 => ?_) (fun u12 => ?_)
          · refine sv_iconst (v := 1) hΓ dX12_need_189 (by decide) rfl ?_
            refine sv_goto (pc' := 194) hΓ dX12_need_190 (by decide) ?_
            have e13 : bI (WT ci a b) = 1 := by first | exact if_pos (by grind) | exact if_neg (by grind)
            rw [e13] at J194
            exact J194
          · refine sv_aload_n hΓ dX12_need_178 rfl 2 rfl rfl ?_
            refine g_X12_7_43 hΓ dX12_need_179 rfl ?_
            refine sv_iload_n hΓ dX12_need_182 rfl 4 rfl rfl ?_
            refine ai_44 hΓ (b) rfl (by omega) dX12_need_183 rfl ?_
            refine sv_bipush (v := 10) hΓ dX12_need_184 (by decide) rfl ?_
            refine sv_icmp_ne (tgt := 193) hΓ dX12_need_186 (by decide) rfl (fun u14 => ?_) (fun u14 => ?_)
            · refine sv_iconst (v := 0) hΓ dX12_need_193 (by decide) rfl ?_
              have e15 : bI (WT ci a b) = 0 := by first | exact if_pos (by grind) | exact if_neg (by grind)
              rw [e15] at J194
              exact J194
            · refine sv_iconst (v := 1) hΓ dX12_need_189 (by decide) rfl ?_
              refine sv_goto (pc' := 194) hΓ dX12_need_190 (by decide) ?_
              have e16 : bI (WT ci a b) = 1 := by first | exact if_pos (by grind) | exact if_neg (by grind)
              rw [e16] at J194
              exact J194
    refine sv_iload hΓ dX12_need_82 0 rfl rfl ?_
    refine sv_if_eq (tgt := 96) hΓ dX12_need_84 (by decide) rfl (fun u17 => ?_) (fun u17 => ?_)
    · replace u17 := bI_0.mp u17
      refine sv_aload_n hΓ dX12_need_96 rfl 3 rfl rfl ?_
      refine g_X12_7_43 hΓ dX12_need_97 rfl ?_
      refine sv_iload_n hΓ dX12_need_100 rfl 4 rfl rfl ?_
      refine ai_44 hΓ (a) rfl (by omega) dX12_need_101 rfl ?_
      refine sv_aload_n hΓ dX12_need_102 rfl 3 rfl rfl ?_
      refine g_X12_7_43 hΓ dX12_need_103 rfl ?_
      refine sv_iload_n hΓ dX12_need_106 rfl 5 rfl rfl ?_
      refine ai_44 hΓ (b) rfl (by omega) dX12_need_107 rfl ?_
      refine sv_icmp_ne (tgt := 149) hΓ dX12_need_108 (by decide) rfl (fun u18 => ?_) (fun u18 => ?_)
      · have e19 : k1 ci cl a b = 0 := by unfold k1; first | exact if_pos (by grind) | exact if_neg (by grind)
        rw [e19] at J149
        exact SV_lv [2, 1, 3, 4, 5] rfl J149
      · refine sv_aload_n hΓ dX12_need_111 rfl 3 rfl rfl ?_
        refine g_X12_7_43 hΓ dX12_need_112 rfl ?_
        refine sv_iload_n hΓ dX12_need_115 rfl 4 rfl rfl ?_
        refine ai_44 hΓ (a) rfl (by omega) dX12_need_116 rfl ?_
        refine sv_iconst (v := 1) hΓ dX12_need_117 (by decide) rfl ?_
        refine sv_icmp_eq (tgt := 132) hΓ dX12_need_118 (by decide) rfl (fun u20 => ?_) (fun u20 => ?_)
        · refine sv_aload_n hΓ dX12_need_132 rfl 3 rfl rfl ?_
          refine g_X12_19_43 hΓ dX12_need_133 rfl ?_
          refine sv_iload_n hΓ dX12_need_136 rfl 4 rfl rfl ?_
          refine ai_47 hΓ (a) rfl (by omega) dX12_need_137 rfl ?_
          refine sv_aload_n hΓ dX12_need_138 rfl 3 rfl rfl ?_
          refine g_X12_19_43 hΓ dX12_need_139 rfl ?_
          refine sv_iload_n hΓ dX12_need_142 rfl 5 rfl rfl ?_
          refine ai_47 hΓ (b) rfl (by omega) dX12_need_143 rfl ?_
          refine sv_icmp_ne (tgt := 149) hΓ dX12_need_144 (by decide) rfl (fun u21 => ?_) (fun u21 => ?_)
          · have e22 : k1 ci cl a b = 0 := by unfold k1; first | exact if_pos (by grind) | exact if_neg (by grind)
            rw [e22] at J149
            exact SV_lv [2, 1, 3, 4, 5] rfl J149
          · refine sv_iconst (v := 1) hΓ dX12_need_147 (by decide) rfl ?_
            refine sv_istore_n (lv' := [(3, .int 1), (5, .int (bI (DR ci a b))), (4, .int (ln ci a)), (0, .ref 43), (1, .int (nI a)), (2, .int (nI b))]) hΓ dX12_need_148 rfl (by decide) rfl rfl ?_
            have e23 : k1 ci cl a b = 1 := by unfold k1; first | exact if_pos (by grind) | exact if_neg (by grind)
            rw [e23] at J149
            exact SV_lv [0, 2, 3, 4, 5] rfl J149
        · refine sv_aload_n hΓ dX12_need_121 rfl 3 rfl rfl ?_
          refine g_X12_7_43 hΓ dX12_need_122 rfl ?_
          refine sv_iload_n hΓ dX12_need_125 rfl 4 rfl rfl ?_
          refine ai_44 hΓ (a) rfl (by omega) dX12_need_126 rfl ?_
          refine sv_bipush (v := 10) hΓ dX12_need_127 (by decide) rfl ?_
          refine sv_icmp_ne (tgt := 149) hΓ dX12_need_129 (by decide) rfl (fun u24 => ?_) (fun u24 => ?_)
          · have e25 : k1 ci cl a b = 0 := by unfold k1; first | exact if_pos (by grind) | exact if_neg (by grind)
            rw [e25] at J149
            exact SV_lv [2, 1, 3, 4, 5] rfl J149
          · refine sv_aload_n hΓ dX12_need_132 rfl 3 rfl rfl ?_
            refine g_X12_19_43 hΓ dX12_need_133 rfl ?_
            refine sv_iload_n hΓ dX12_need_136 rfl 4 rfl rfl ?_
            refine ai_47 hΓ (a) rfl (by omega) dX12_need_137 rfl ?_
            refine sv_aload_n hΓ dX12_need_138 rfl 3 rfl rfl ?_
            refine g_X12_19_43 hΓ dX12_need_139 rfl ?_
            refine sv_iload_n hΓ dX12_need_142 rfl 5 rfl rfl ?_
            refine ai_47 hΓ (b) rfl (by omega) dX12_need_143 rfl ?_
            refine sv_icmp_ne (tgt := 149) hΓ dX12_need_144 (by decide) rfl (fun u26 => ?_) (fun u26 => ?_)
            · have e27 : k1 ci cl a b = 0 := by unfold k1; first | exact if_pos (by grind) | exact if_neg (by grind)
              rw [e27] at J149
              exact SV_lv [2, 1, 3, 4, 5] rfl J149
            · refine sv_iconst (v := 1) hΓ dX12_need_147 (by decide) rfl ?_
              refine sv_istore_n (lv' := [(3, .int 1), (5, .int (bI (DR ci a b))), (4, .int (ln ci a)), (0, .ref 43), (1, .int (nI a)), (2, .int (nI b))]) hΓ dX12_need_148 rfl (by decide) rfl rfl ?_
              have e28 : k1 ci cl a b = 1 := by unfold k1; first | exact if_pos (by grind) | exact if_neg (by grind)
              rw [e28] at J149
              exact SV_lv [0, 2, 3, 4, 5] rfl J149
    · replace u17 := bI_ne.mp u17
      obtain ⟨x, hx6, hx⟩ := hoa u17.1
      obtain ⟨y, hy6, hy⟩ := hob u17.2.1
      refine sv_aload_n hΓ dX12_need_87 rfl 3 rfl rfl ?_
      refine sv_iload_n hΓ dX12_need_88 rfl 4 rfl rfl ?_
      refine sv_iload_n hΓ dX12_need_89 rfl 5 rfl rfl ?_
      refine sv_callV hΓ (fun l => ct_X12_meet l a b x y (by omega) (by omega) hx hx6 hy hy6) wv_X12_177 vs_X12_meet rfl m_43 rfl rfl (by decide) (Nat.le_of_ble_eq_true rfl) (Nat.le_of_ble_eq_true rfl) (Nat.le_of_ble_eq_true rfl) dX12_need_90 rfl (fun r M' nx' p29 => ?_)
      obtain ⟨rfl, rfl, rfl⟩ := p29
      show SV E Γ 7 (mm ci cl cr dy) nx 0 0 93 [(5, .int (bI (DR ci a b))), (4, .int (ln ci a)), (3, .int 0), (0, .ref 43), (1, .int (nI a)), (2, .int (nI b))] [.int (bI (MT ci cl a b))]
      refine sv_if_ne (tgt := 147) hΓ dX12_need_93 (by decide) rfl (fun u30 => ?_) (fun u30 => ?_)
      · replace u30 := bI_ne.mp u30
        refine sv_iconst (v := 1) hΓ dX12_need_147 (by decide) rfl ?_
        refine sv_istore_n (lv' := [(3, .int 1), (5, .int (bI (DR ci a b))), (4, .int (ln ci a)), (0, .ref 43), (1, .int (nI a)), (2, .int (nI b))]) hΓ dX12_need_148 rfl (by decide) rfl rfl ?_
        have e31 : k1 ci cl a b = 1 := by unfold k1; first | exact if_pos (by grind) | exact if_neg (by grind)
        rw [e31] at J149
        exact SV_lv [0, 2, 3, 4, 5] rfl J149
      · replace u30 := bI_0.mp u30
        refine sv_aload_n hΓ dX12_need_96 rfl 3 rfl rfl ?_
        refine g_X12_7_43 hΓ dX12_need_97 rfl ?_
        refine sv_iload_n hΓ dX12_need_100 rfl 4 rfl rfl ?_
        refine ai_44 hΓ (a) rfl (by omega) dX12_need_101 rfl ?_
        refine sv_aload_n hΓ dX12_need_102 rfl 3 rfl rfl ?_
        refine g_X12_7_43 hΓ dX12_need_103 rfl ?_
        refine sv_iload_n hΓ dX12_need_106 rfl 5 rfl rfl ?_
        refine ai_44 hΓ (b) rfl (by omega) dX12_need_107 rfl ?_
        refine sv_icmp_ne (tgt := 149) hΓ dX12_need_108 (by decide) rfl (fun u32 => ?_) (fun u32 => ?_)
        · have e33 : k1 ci cl a b = 0 := by unfold k1; first | exact if_pos (by grind) | exact if_neg (by grind)
          rw [e33] at J149
          exact SV_lv [2, 1, 3, 4, 5] rfl J149
        · refine sv_aload_n hΓ dX12_need_111 rfl 3 rfl rfl ?_
          refine g_X12_7_43 hΓ dX12_need_112 rfl ?_
          refine sv_iload_n hΓ dX12_need_115 rfl 4 rfl rfl ?_
          refine ai_44 hΓ (a) rfl (by omega) dX12_need_116 rfl ?_
          refine sv_iconst (v := 1) hΓ dX12_need_117 (by decide) rfl ?_
          refine sv_icmp_eq (tgt := 132) hΓ dX12_need_118 (by decide) rfl (fun u34 => ?_) (fun u34 => ?_)
          · refine sv_aload_n hΓ dX12_need_132 rfl 3 rfl rfl ?_
            refine g_X12_19_43 hΓ dX12_need_133 rfl ?_
            refine sv_iload_n hΓ dX12_need_136 rfl 4 rfl rfl ?_
            refine ai_47 hΓ (a) rfl (by omega) dX12_need_137 rfl ?_
            refine sv_aload_n hΓ dX12_need_138 rfl 3 rfl rfl ?_
            refine g_X12_19_43 hΓ dX12_need_139 rfl ?_
            refine sv_iload_n hΓ dX12_need_142 rfl 5 rfl rfl ?_
            refine ai_47 hΓ (b) rfl (by omega) dX12_need_143 rfl ?_
            refine sv_icmp_ne (tgt := 149) hΓ dX12_need_144 (by decide) rfl (fun u35 => ?_) (fun u35 => ?_)
            · have e36 : k1 ci cl a b = 0 := by unfold k1; first | exact if_pos (by grind) | exact if_neg (by grind)
              rw [e36] at J149
              exact SV_lv [2, 1, 3, 4, 5] rfl J149
            · refine sv_iconst (v := 1) hΓ dX12_need_147 (by decide) rfl ?_
              refine sv_istore_n (lv' := [(3, .int 1), (5, .int (bI (DR ci a b))), (4, .int (ln ci a)), (0, .ref 43), (1, .int (nI a)), (2, .int (nI b))]) hΓ dX12_need_148 rfl (by decide) rfl rfl ?_
              have e37 : k1 ci cl a b = 1 := by unfold k1; first | exact if_pos (by grind) | exact if_neg (by grind)
              rw [e37] at J149
              exact SV_lv [0, 2, 3, 4, 5] rfl J149
          · refine sv_aload_n hΓ dX12_need_121 rfl 3 rfl rfl ?_
            refine g_X12_7_43 hΓ dX12_need_122 rfl ?_
            refine sv_iload_n hΓ dX12_need_125 rfl 4 rfl rfl ?_
            refine ai_44 hΓ (a) rfl (by omega) dX12_need_126 rfl ?_
            refine sv_bipush (v := 10) hΓ dX12_need_127 (by decide) rfl ?_
            refine sv_icmp_ne (tgt := 149) hΓ dX12_need_129 (by decide) rfl (fun u38 => ?_) (fun u38 => ?_)
            · have e39 : k1 ci cl a b = 0 := by unfold k1; first | exact if_pos (by grind) | exact if_neg (by grind)
              rw [e39] at J149
              exact SV_lv [2, 1, 3, 4, 5] rfl J149
            · refine sv_aload_n hΓ dX12_need_132 rfl 3 rfl rfl ?_
              refine g_X12_19_43 hΓ dX12_need_133 rfl ?_
              refine sv_iload_n hΓ dX12_need_136 rfl 4 rfl rfl ?_
              refine ai_47 hΓ (a) rfl (by omega) dX12_need_137 rfl ?_
              refine sv_aload_n hΓ dX12_need_138 rfl 3 rfl rfl ?_
              refine g_X12_19_43 hΓ dX12_need_139 rfl ?_
              refine sv_iload_n hΓ dX12_need_142 rfl 5 rfl rfl ?_
              refine ai_47 hΓ (b) rfl (by omega) dX12_need_143 rfl ?_
              refine sv_icmp_ne (tgt := 149) hΓ dX12_need_144 (by decide) rfl (fun u40 => ?_) (fun u40 => ?_)
              · have e41 : k1 ci cl a b = 0 := by unfold k1; first | exact if_pos (by grind) | exact if_neg (by grind)
                rw [e41] at J149
                exact SV_lv [2, 1, 3, 4, 5] rfl J149
              · refine sv_iconst (v := 1) hΓ dX12_need_147 (by decide) rfl ?_
                refine sv_istore_n (lv' := [(3, .int 1), (5, .int (bI (DR ci a b))), (4, .int (ln ci a)), (0, .ref 43), (1, .int (nI a)), (2, .int (nI b))]) hΓ dX12_need_148 rfl (by decide) rfl rfl ?_
                have e42 : k1 ci cl a b = 1 := by unfold k1; first | exact if_pos (by grind) | exact if_neg (by grind)
                rw [e42] at J149
                exact SV_lv [0, 2, 3, 4, 5] rfl J149
  refine sv_aload_n hΓ dX12_need_9 rfl 2 rfl rfl ?_
  refine g_X12_7_43 hΓ dX12_need_10 rfl ?_
  refine sv_iload_n hΓ dX12_need_13 rfl 3 rfl rfl ?_
  refine ai_44 hΓ (a) rfl (by omega) dX12_need_14 rfl ?_
  refine sv_bipush (v := 8) hΓ dX12_need_15 (by decide) rfl ?_
  refine sv_icmp_eq (tgt := 31) hΓ dX12_need_17 (by decide) rfl (fun u43 => ?_) (fun u43 => ?_)
  · refine sv_aload_n hΓ dX12_need_31 rfl 2 rfl rfl ?_
    refine g_X12_7_43 hΓ dX12_need_32 rfl ?_
    refine sv_iload_n hΓ dX12_need_35 rfl 4 rfl rfl ?_
    refine ai_44 hΓ (b) rfl (by omega) dX12_need_36 rfl ?_
    refine sv_bipush (v := 8) hΓ dX12_need_37 (by decide) rfl ?_
    refine sv_icmp_eq (tgt := 53) hΓ dX12_need_39 (by decide) rfl (fun u44 => ?_) (fun u44 => ?_)
    · refine sv_aload_n hΓ dX12_need_53 rfl 2 rfl rfl ?_
      refine g_X12_7_43 hΓ dX12_need_54 rfl ?_
      refine sv_iload_n hΓ dX12_need_57 rfl 3 rfl rfl ?_
      refine ai_44 hΓ (a) rfl (by omega) dX12_need_58 rfl ?_
      refine sv_bipush (v := 9) hΓ dX12_need_59 (by decide) rfl ?_
      refine sv_icmp_eq (tgt := 75) hΓ dX12_need_61 (by decide) rfl (fun u45 => ?_) (fun u45 => ?_)
      · refine sv_iconst (v := 1) hΓ dX12_need_75 (by decide) rfl ?_
        refine sv_goto (pc' := 80) hΓ dX12_need_76 (by decide) ?_
        have e46 : bI (DR ci a b) = 1 := by first | exact if_pos (by grind) | exact if_neg (by grind)
        rw [e46] at J80
        exact J80
      · refine sv_aload_n hΓ dX12_need_64 rfl 2 rfl rfl ?_
        refine g_X12_7_43 hΓ dX12_need_65 rfl ?_
        refine sv_iload_n hΓ dX12_need_68 rfl 4 rfl rfl ?_
        refine ai_44 hΓ (b) rfl (by omega) dX12_need_69 rfl ?_
        refine sv_bipush (v := 9) hΓ dX12_need_70 (by decide) rfl ?_
        refine sv_icmp_ne (tgt := 79) hΓ dX12_need_72 (by decide) rfl (fun u47 => ?_) (fun u47 => ?_)
        · refine sv_iconst (v := 0) hΓ dX12_need_79 (by decide) rfl ?_
          have e48 : bI (DR ci a b) = 0 := by first | exact if_pos (by grind) | exact if_neg (by grind)
          rw [e48] at J80
          exact J80
        · refine sv_iconst (v := 1) hΓ dX12_need_75 (by decide) rfl ?_
          refine sv_goto (pc' := 80) hΓ dX12_need_76 (by decide) ?_
          have e49 : bI (DR ci a b) = 1 := by first | exact if_pos (by grind) | exact if_neg (by grind)
          rw [e49] at J80
          exact J80
    · refine sv_aload_n hΓ dX12_need_42 rfl 2 rfl rfl ?_
      refine g_X12_7_43 hΓ dX12_need_43 rfl ?_
      refine sv_iload_n hΓ dX12_need_46 rfl 4 rfl rfl ?_
      refine ai_44 hΓ (b) rfl (by omega) dX12_need_47 rfl ?_
      refine sv_bipush (v := 9) hΓ dX12_need_48 (by decide) rfl ?_
      refine sv_icmp_ne (tgt := 79) hΓ dX12_need_50 (by decide) rfl (fun u50 => ?_) (fun u50 => ?_)
      · refine sv_iconst (v := 0) hΓ dX12_need_79 (by decide) rfl ?_
        have e51 : bI (DR ci a b) = 0 := by first | exact if_pos (by grind) | exact if_neg (by grind)
        rw [e51] at J80
        exact J80
      · refine sv_aload_n hΓ dX12_need_53 rfl 2 rfl rfl ?_
        refine g_X12_7_43 hΓ dX12_need_54 rfl ?_
        refine sv_iload_n hΓ dX12_need_57 rfl 3 rfl rfl ?_
        refine ai_44 hΓ (a) rfl (by omega) dX12_need_58 rfl ?_
        refine sv_bipush (v := 9) hΓ dX12_need_59 (by decide) rfl ?_
        refine sv_icmp_eq (tgt := 75) hΓ dX12_need_61 (by decide) rfl (fun u52 => ?_) (fun u52 => ?_)
        · refine sv_iconst (v := 1) hΓ dX12_need_75 (by decide) rfl ?_
          refine sv_goto (pc' := 80) hΓ dX12_need_76 (by decide) ?_
          have e53 : bI (DR ci a b) = 1 := by first | exact if_pos (by grind) | exact if_neg (by grind)
          rw [e53] at J80
          exact J80
        · refine sv_aload_n hΓ dX12_need_64 rfl 2 rfl rfl ?_
          refine g_X12_7_43 hΓ dX12_need_65 rfl ?_
          refine sv_iload_n hΓ dX12_need_68 rfl 4 rfl rfl ?_
          refine ai_44 hΓ (b) rfl (by omega) dX12_need_69 rfl ?_
          refine sv_bipush (v := 9) hΓ dX12_need_70 (by decide) rfl ?_
          refine sv_icmp_ne (tgt := 79) hΓ dX12_need_72 (by decide) rfl (fun u54 => ?_) (fun u54 => ?_)
          · refine sv_iconst (v := 0) hΓ dX12_need_79 (by decide) rfl ?_
            have e55 : bI (DR ci a b) = 0 := by first | exact if_pos (by grind) | exact if_neg (by grind)
            rw [e55] at J80
            exact J80
          · refine sv_iconst (v := 1) hΓ dX12_need_75 (by decide) rfl ?_
            refine sv_goto (pc' := 80) hΓ dX12_need_76 (by decide) ?_
            have e56 : bI (DR ci a b) = 1 := by first | exact if_pos (by grind) | exact if_neg (by grind)
            rw [e56] at J80
            exact J80
  · refine sv_aload_n hΓ dX12_need_20 rfl 2 rfl rfl ?_
    refine g_X12_7_43 hΓ dX12_need_21 rfl ?_
    refine sv_iload_n hΓ dX12_need_24 rfl 3 rfl rfl ?_
    refine ai_44 hΓ (a) rfl (by omega) dX12_need_25 rfl ?_
    refine sv_bipush (v := 9) hΓ dX12_need_26 (by decide) rfl ?_
    refine sv_icmp_ne (tgt := 79) hΓ dX12_need_28 (by decide) rfl (fun u57 => ?_) (fun u57 => ?_)
    · refine sv_iconst (v := 0) hΓ dX12_need_79 (by decide) rfl ?_
      have e58 : bI (DR ci a b) = 0 := by first | exact if_pos (by grind) | exact if_neg (by grind)
      rw [e58] at J80
      exact J80
    · refine sv_aload_n hΓ dX12_need_31 rfl 2 rfl rfl ?_
      refine g_X12_7_43 hΓ dX12_need_32 rfl ?_
      refine sv_iload_n hΓ dX12_need_35 rfl 4 rfl rfl ?_
      refine ai_44 hΓ (b) rfl (by omega) dX12_need_36 rfl ?_
      refine sv_bipush (v := 8) hΓ dX12_need_37 (by decide) rfl ?_
      refine sv_icmp_eq (tgt := 53) hΓ dX12_need_39 (by decide) rfl (fun u59 => ?_) (fun u59 => ?_)
      · refine sv_aload_n hΓ dX12_need_53 rfl 2 rfl rfl ?_
        refine g_X12_7_43 hΓ dX12_need_54 rfl ?_
        refine sv_iload_n hΓ dX12_need_57 rfl 3 rfl rfl ?_
        refine ai_44 hΓ (a) rfl (by omega) dX12_need_58 rfl ?_
        refine sv_bipush (v := 9) hΓ dX12_need_59 (by decide) rfl ?_
        refine sv_icmp_eq (tgt := 75) hΓ dX12_need_61 (by decide) rfl (fun u60 => ?_) (fun u60 => ?_)
        · refine sv_iconst (v := 1) hΓ dX12_need_75 (by decide) rfl ?_
          refine sv_goto (pc' := 80) hΓ dX12_need_76 (by decide) ?_
          have e61 : bI (DR ci a b) = 1 := by first | exact if_pos (by grind) | exact if_neg (by grind)
          rw [e61] at J80
          exact J80
        · refine sv_aload_n hΓ dX12_need_64 rfl 2 rfl rfl ?_
          refine g_X12_7_43 hΓ dX12_need_65 rfl ?_
          refine sv_iload_n hΓ dX12_need_68 rfl 4 rfl rfl ?_
          refine ai_44 hΓ (b) rfl (by omega) dX12_need_69 rfl ?_
          refine sv_bipush (v := 9) hΓ dX12_need_70 (by decide) rfl ?_
          refine sv_icmp_ne (tgt := 79) hΓ dX12_need_72 (by decide) rfl (fun u62 => ?_) (fun u62 => ?_)
          · refine sv_iconst (v := 0) hΓ dX12_need_79 (by decide) rfl ?_
            have e63 : bI (DR ci a b) = 0 := by first | exact if_pos (by grind) | exact if_neg (by grind)
            rw [e63] at J80
            exact J80
          · refine sv_iconst (v := 1) hΓ dX12_need_75 (by decide) rfl ?_
            refine sv_goto (pc' := 80) hΓ dX12_need_76 (by decide) ?_
            have e64 : bI (DR ci a b) = 1 := by first | exact if_pos (by grind) | exact if_neg (by grind)
            rw [e64] at J80
            exact J80
      · refine sv_aload_n hΓ dX12_need_42 rfl 2 rfl rfl ?_
        refine g_X12_7_43 hΓ dX12_need_43 rfl ?_
        refine sv_iload_n hΓ dX12_need_46 rfl 4 rfl rfl ?_
        refine ai_44 hΓ (b) rfl (by omega) dX12_need_47 rfl ?_
        refine sv_bipush (v := 9) hΓ dX12_need_48 (by decide) rfl ?_
        refine sv_icmp_ne (tgt := 79) hΓ dX12_need_50 (by decide) rfl (fun u65 => ?_) (fun u65 => ?_)
        · refine sv_iconst (v := 0) hΓ dX12_need_79 (by decide) rfl ?_
          have e66 : bI (DR ci a b) = 0 := by first | exact if_pos (by grind) | exact if_neg (by grind)
          rw [e66] at J80
          exact J80
        · refine sv_aload_n hΓ dX12_need_53 rfl 2 rfl rfl ?_
          refine g_X12_7_43 hΓ dX12_need_54 rfl ?_
          refine sv_iload_n hΓ dX12_need_57 rfl 3 rfl rfl ?_
          refine ai_44 hΓ (a) rfl (by omega) dX12_need_58 rfl ?_
          refine sv_bipush (v := 9) hΓ dX12_need_59 (by decide) rfl ?_
          refine sv_icmp_eq (tgt := 75) hΓ dX12_need_61 (by decide) rfl (fun u67 => ?_) (fun u67 => ?_)
          · refine sv_iconst (v := 1) hΓ dX12_need_75 (by decide) rfl ?_
            refine sv_goto (pc' := 80) hΓ dX12_need_76 (by decide) ?_
            have e68 : bI (DR ci a b) = 1 := by first | exact if_pos (by grind) | exact if_neg (by grind)
            rw [e68] at J80
            exact J80
          · refine sv_aload_n hΓ dX12_need_64 rfl 2 rfl rfl ?_
            refine g_X12_7_43 hΓ dX12_need_65 rfl ?_
            refine sv_iload_n hΓ dX12_need_68 rfl 4 rfl rfl ?_
            refine ai_44 hΓ (b) rfl (by omega) dX12_need_69 rfl ?_
            refine sv_bipush (v := 9) hΓ dX12_need_70 (by decide) rfl ?_
            refine sv_icmp_ne (tgt := 79) hΓ dX12_need_72 (by decide) rfl (fun u69 => ?_) (fun u69 => ?_)
            · refine sv_iconst (v := 0) hΓ dX12_need_79 (by decide) rfl ?_
              have e70 : bI (DR ci a b) = 0 := by first | exact if_pos (by grind) | exact if_neg (by grind)
              rw [e70] at J80
              exact J80
            · refine sv_iconst (v := 1) hΓ dX12_need_75 (by decide) rfl ?_
              refine sv_goto (pc' := 80) hΓ dX12_need_76 (by decide) ?_
              have e71 : bI (DR ci a b) = 1 := by first | exact if_pos (by grind) | exact if_neg (by grind)
              rw [e71] at J80
              exact J80
set_option maxRecDepth 100000 in
set_option maxHeartbeats 4000000 in
/-- askedFor -/
theorem ct_X12_askedFor {E : aG} (l : Launch) (b : Nat) {ci : Nat → Nat → Int32} {cl : Nat → Nat → Int64} {cr : Nat → Nat → Option Nat} {dy : aM} {nx : Nat} (hb : b < 16) (ho : ∀ i, i ≤ b → (ci 44 i = 8 ∨ ci 44 i = 9) → ∃ x, x < 16 ∧ ci 46 (3 * i) = nI x) : CT E l yX12_askedFor cX12_askedFor 6 (some .int) 3 [.ref 43, .int (nI b)] (mm ci cl cr dy) nx 0 0 (fun r M' nx' => r = some (.int (askF ci cl b b)) ∧ M' = mm ci cl cr dy ∧ nx = nx') := by
  refine CT_intro (by decide) (Nat.le_of_ble_eq_true rfl) (fun Γ hΓ hQ => ?_)
  replace hΓ : CK E RX12 cX12_askedFor 6 (some .int) "askedFor" 3 0 0 Γ := hΓ
  show SV E Γ 6 (mm ci cl cr dy) nx 0 0 0 [(0, .ref 43), (1, .int (nI b))] []
  refine sv_iconst (v := 0) hΓ dX12_askedFor_0 (by decide) rfl ?_
  refine sv_istore_n (lv' := [(2, .int 0), (0, .ref 43), (1, .int (nI b))]) hΓ dX12_askedFor_1 rfl (by decide) rfl rfl ?_
  refine sv_iconst (v := 0) hΓ dX12_askedFor_2 (by decide) rfl ?_
  refine sv_istore_n (lv' := [(3, .int 0), (2, .int 0), (0, .ref 43), (1, .int (nI b))]) hΓ dX12_askedFor_3 rfl (by decide) rfl rfl ?_
  have LP4 : ∀ kq a : Nat, a + kq = b → SV E Γ 6 (mm ci cl cr dy) nx 0 0 4 [(3, .int (nI a)), (2, .int (askF ci cl b a)), (0, .ref 43), (1, .int (nI b))] [] := by
    intro kq
    induction kq with
    | zero =>
      intro a ha
      have ea : a = b := by omega
      refine sv_iload_n hΓ dX12_askedFor_4 rfl 0 rfl rfl ?_
      refine sv_iload_n hΓ dX12_askedFor_5 rfl 3 rfl rfl ?_
      refine sv_icmp_ge (tgt := 67) hΓ dX12_askedFor_6 (by decide) rfl (fun u1 => ?_) (fun u1 => absurd (nI_le (by omega) (by omega)) u1)
      refine sv_iload_n hΓ dX12_askedFor_67 rfl 1 rfl rfl ?_
      exact sv_iret hΓ hQ dX12_askedFor_68 (Nat.le_of_ble_eq_true rfl) (Nat.le_of_ble_eq_true rfl) ⟨by rw [ea], rfl, rfl⟩
    | succ kq ih =>
      intro a ha
      refine sv_iload_n hΓ dX12_askedFor_4 rfl 0 rfl rfl ?_
      refine sv_iload_n hΓ dX12_askedFor_5 rfl 3 rfl rfl ?_
      refine sv_icmp_ge (tgt := 67) hΓ dX12_askedFor_6 (by decide) rfl (fun u2 => absurd u2 (nI_ge (by omega) (by omega))) (fun u2 => ?_)
      refine sv_aload_n hΓ dX12_askedFor_9 rfl 2 rfl rfl ?_
      refine sv_iload_n hΓ dX12_askedFor_10 rfl 0 rfl rfl ?_
      refine sv_iload_n hΓ dX12_askedFor_11 rfl 3 rfl rfl ?_
      refine sv_callV hΓ (fun l => ct_X12_need l a b (by omega) (by omega) (ho _ (by omega)) (ho _ (by omega))) wv_X12_187 vs_X12_need rfl m_43 rfl rfl (by decide) (Nat.le_of_ble_eq_true rfl) (Nat.le_of_ble_eq_true rfl) (Nat.le_of_ble_eq_true rfl) dX12_askedFor_12 rfl (fun r M' nx' p3 => ?_)
      obtain ⟨rfl, rfl, rfl⟩ := p3
      show SV E Γ 6 (mm ci cl cr dy) nx 0 0 15 [(3, .int (nI a)), (2, .int (askF ci cl b a)), (0, .ref 43), (1, .int (nI b))] [.int (nd ci cl a b)]
      refine sv_istore (lv' := [(4, .int (nd ci cl a b)), (3, .int (nI a)), (2, .int (askF ci cl b a)), (0, .ref 43), (1, .int (nI b))]) hΓ dX12_askedFor_15 (by decide) rfl rfl ?_
      refine sv_iload hΓ dX12_askedFor_17 0 rfl rfl ?_
      refine sv_if_le (tgt := 39) hΓ dX12_askedFor_19 (by decide) rfl (fun u4 => ?_) (fun u4 => ?_)
      · refine sv_iconst (v := 0) hΓ dX12_askedFor_39 (by decide) rfl ?_
        refine sv_istore (lv' := [(5, .int 0), (4, .int (nd ci cl a b)), (3, .int (nI a)), (2, .int (askF ci cl b a)), (0, .ref 43), (1, .int (nI b))]) hΓ dX12_askedFor_40 (by decide) rfl rfl ?_
        refine sv_iload hΓ dX12_askedFor_42 0 rfl rfl ?_
        refine sv_if_eq (tgt := 59) hΓ dX12_askedFor_44 (by decide) rfl (fun u5 => ?_) (fun u5 => absurd (by decide) u5)
        refine sv_iload_n hΓ dX12_askedFor_59 rfl 3 rfl rfl ?_
        refine sv_istore_n (lv' := [(2, .int (askF ci cl b a)), (5, .int 0), (4, .int (nd ci cl a b)), (3, .int (nI a)), (0, .ref 43), (1, .int (nI b))]) hΓ dX12_askedFor_60 rfl (by decide) rfl rfl ?_
        refine sv_iinc (v := nI (a + 1)) (lv' := [(3, .int (nI (a + 1))), (2, .int (askF ci cl b a)), (5, .int 0), (4, .int (nd ci cl a b)), (0, .ref 43), (1, .int (nI b))]) hΓ dX12_askedFor_61 3 rfl (nx_inc rfl) (by decide) rfl rfl ?_
        refine sv_goto (pc' := 4) hΓ dX12_askedFor_64 (by decide) ?_
        have q := ih (a + 1) (by omega)
        rw [show askF ci cl b (a + 1) = askF ci cl b a from by simp only [askF]; rw [if_pos u4]] at q
        exact SV_lv [0, 1, 4, 5] rfl q
      · refine sv_aload_n hΓ dX12_askedFor_22 rfl 3 rfl rfl ?_
        refine g_X12_45_43 hΓ dX12_askedFor_23 rfl ?_
        refine sv_iload_n hΓ dX12_askedFor_26 rfl 1 rfl rfl ?_
        refine ai_55 hΓ (a) rfl (by omega) dX12_askedFor_27 rfl ?_
        refine sv_iload hΓ dX12_askedFor_28 0 rfl rfl ?_
        refine sv_iadd hΓ dX12_askedFor_30 rfl ?_
        refine sv_iload_n hΓ dX12_askedFor_31 rfl 2 rfl rfl ?_
        refine sv_icmp_le (tgt := 39) hΓ dX12_askedFor_32 (by decide) rfl (fun u6 => ?_) (fun u6 => ?_)
        · refine sv_iconst (v := 0) hΓ dX12_askedFor_39 (by decide) rfl ?_
          refine sv_istore (lv' := [(5, .int 0), (4, .int (nd ci cl a b)), (3, .int (nI a)), (2, .int (askF ci cl b a)), (0, .ref 43), (1, .int (nI b))]) hΓ dX12_askedFor_40 (by decide) rfl rfl ?_
          refine sv_iload hΓ dX12_askedFor_42 0 rfl rfl ?_
          refine sv_if_eq (tgt := 59) hΓ dX12_askedFor_44 (by decide) rfl (fun u7 => ?_) (fun u7 => absurd (by decide) u7)
          refine sv_iload_n hΓ dX12_askedFor_59 rfl 3 rfl rfl ?_
          refine sv_istore_n (lv' := [(2, .int (askF ci cl b a)), (5, .int 0), (4, .int (nd ci cl a b)), (3, .int (nI a)), (0, .ref 43), (1, .int (nI b))]) hΓ dX12_askedFor_60 rfl (by decide) rfl rfl ?_
          refine sv_iinc (v := nI (a + 1)) (lv' := [(3, .int (nI (a + 1))), (2, .int (askF ci cl b a)), (5, .int 0), (4, .int (nd ci cl a b)), (0, .ref 43), (1, .int (nI b))]) hΓ dX12_askedFor_61 3 rfl (nx_inc rfl) (by decide) rfl rfl ?_
          refine sv_goto (pc' := 4) hΓ dX12_askedFor_64 (by decide) ?_
          have q := ih (a + 1) (by omega)
          rw [show askF ci cl b (a + 1) = askF ci cl b a from by simp only [askF]; rw [if_neg u4, if_pos u6]] at q
          exact SV_lv [0, 1, 4, 5] rfl q
        · refine sv_iconst (v := 1) hΓ dX12_askedFor_35 (by decide) rfl ?_
          refine sv_goto (pc' := 40) hΓ dX12_askedFor_36 (by decide) ?_
          refine sv_istore (lv' := [(5, .int 1), (4, .int (nd ci cl a b)), (3, .int (nI a)), (2, .int (askF ci cl b a)), (0, .ref 43), (1, .int (nI b))]) hΓ dX12_askedFor_40 (by decide) rfl rfl ?_
          refine sv_iload hΓ dX12_askedFor_42 0 rfl rfl ?_
          refine sv_if_eq (tgt := 59) hΓ dX12_askedFor_44 (by decide) rfl (fun u8 => absurd u8 (by decide)) (fun u8 => ?_)
          refine sv_aload_n hΓ dX12_askedFor_47 rfl 4 rfl rfl ?_
          refine g_X12_45_43 hΓ dX12_askedFor_48 rfl ?_
          refine sv_iload_n hΓ dX12_askedFor_51 rfl 2 rfl rfl ?_
          refine ai_55 hΓ (a) rfl (by omega) dX12_askedFor_52 rfl ?_
          refine sv_iload hΓ dX12_askedFor_53 1 rfl rfl ?_
          refine sv_iadd hΓ dX12_askedFor_55 rfl ?_
          refine sv_goto (pc' := 60) hΓ dX12_askedFor_56 (by decide) ?_
          refine sv_istore_n (lv' := [(2, .int ((ci 55 a) + (nd ci cl a b))), (5, .int 1), (4, .int (nd ci cl a b)), (3, .int (nI a)), (0, .ref 43), (1, .int (nI b))]) hΓ dX12_askedFor_60 rfl (by decide) rfl rfl ?_
          refine sv_iinc (v := nI (a + 1)) (lv' := [(3, .int (nI (a + 1))), (2, .int ((ci 55 a) + (nd ci cl a b))), (5, .int 1), (4, .int (nd ci cl a b)), (0, .ref 43), (1, .int (nI b))]) hΓ dX12_askedFor_61 3 rfl (nx_inc rfl) (by decide) rfl rfl ?_
          refine sv_goto (pc' := 4) hΓ dX12_askedFor_64 (by decide) ?_
          have q := ih (a + 1) (by omega)
          rw [show askF ci cl b (a + 1) = (ci 55 a) + (nd ci cl a b) from by simp only [askF]; rw [if_neg u4, if_neg u6]] at q
          exact SV_lv [0, 1, 4, 5] rfl q
  exact SV_lv [0, 1, 2, 3] rfl (LP4 b 0 (by omega))
set_option maxRecDepth 100000 in
set_option maxHeartbeats 4000000 in
/-- isFree -/
theorem ct_X12_isFree {E : aG} (l : Launch) (b : Nat) (i : Int32) (t : Int32) {ci : Nat → Nat → Int32} {cl : Nat → Nat → Int64} {cr : Nat → Nat → Option Nat} {dy : aM} {nx : Nat} (hb : b < 16) : CT E l yX12_isFree cX12_isFree 7 (some .boolean) 2 [.ref 43, .int (nI b), .int i, .int t] (mm ci cl cr dy) nx 0 0 (fun r M' nx' => r = some (.int (frI ci b i t b)) ∧ M' = mm ci cl cr dy ∧ nx = nx') := by
  refine CT_intro (by decide) (Nat.le_of_ble_eq_true rfl) (fun Γ hΓ hQ => ?_)
  replace hΓ : CK E RX12 cX12_isFree 7 (some .boolean) "isFree" 2 0 0 Γ := hΓ
  show SV E Γ 7 (mm ci cl cr dy) nx 0 0 0 [(0, .ref 43), (1, .int (nI b)), (2, .int i), (3, .int t)] []
  refine sv_iconst (v := 1) hΓ dX12_isFree_0 (by decide) rfl ?_
  refine sv_istore (lv' := [(4, .int 1), (0, .ref 43), (1, .int (nI b)), (2, .int i), (3, .int t)]) hΓ dX12_isFree_1 (by decide) rfl rfl ?_
  refine sv_iconst (v := 0) hΓ dX12_isFree_3 (by decide) rfl ?_
  refine sv_istore (lv' := [(5, .int 0), (4, .int 1), (0, .ref 43), (1, .int (nI b)), (2, .int i), (3, .int t)]) hΓ dX12_isFree_4 (by decide) rfl rfl ?_
  have LP6 : ∀ kq a : Nat, a + kq = b → SV E Γ 7 (mm ci cl cr dy) nx 0 0 6 [(5, .int (nI a)), (4, .int (frI ci b i t a)), (0, .ref 43), (1, .int (nI b)), (2, .int i), (3, .int t)] [] := by
    intro kq
    induction kq with
    | zero =>
      intro a ha
      have ea : a = b := by omega
      refine sv_iload hΓ dX12_isFree_6 0 rfl rfl ?_
      refine sv_iload_n hΓ dX12_isFree_8 rfl 3 rfl rfl ?_
      refine sv_icmp_ge (tgt := 102) hΓ dX12_isFree_9 (by decide) rfl (fun u1 => ?_) (fun u1 => absurd (nI_le (by omega) (by omega)) u1)
      refine sv_iload hΓ dX12_isFree_102 1 rfl rfl ?_
      exact sv_zret hΓ hQ dX12_isFree_104 (Nat.le_of_ble_eq_true rfl) (Nat.le_of_ble_eq_true rfl) (nb_01 (frI_01 _ _ _ _ _)) ⟨by rw [ea], rfl, rfl⟩
    | succ kq ih =>
      intro a ha
      refine sv_iload hΓ dX12_isFree_6 0 rfl rfl ?_
      refine sv_iload_n hΓ dX12_isFree_8 rfl 3 rfl rfl ?_
      refine sv_icmp_ge (tgt := 102) hΓ dX12_isFree_9 (by decide) rfl (fun u2 => absurd u2 (nI_ge (by omega) (by omega))) (fun u2 => ?_)
      have J42 : SV E Γ 7 (mm ci cl cr dy) nx 0 0 42 [(5, .int (nI a)), (4, .int (frI ci b i t a)), (0, .ref 43), (1, .int (nI b)), (2, .int i), (3, .int t)] [.int (bI (kd (ci 44 a) = kd (ci 44 b) ∧ ci 56 a = i))] := by
        refine sv_istore (lv' := [(6, .int (bI (kd (ci 44 a) = kd (ci 44 b) ∧ ci 56 a = i))), (5, .int (nI a)), (4, .int (frI ci b i t a)), (0, .ref 43), (1, .int (nI b)), (2, .int i), (3, .int t)]) hΓ dX12_isFree_42 (by decide) rfl rfl ?_
        refine sv_iload hΓ dX12_isFree_44 2 rfl rfl ?_
        refine sv_if_eq (tgt := 93) hΓ dX12_isFree_46 (by decide) rfl (fun u3 => ?_) (fun u3 => ?_)
        · refine sv_iconst (v := 0) hΓ dX12_isFree_93 (by decide) rfl ?_
          refine sv_istore (lv' := [(4, .int 0), (6, .int (bI (kd (ci 44 a) = kd (ci 44 b) ∧ ci 56 a = i))), (5, .int (nI a)), (0, .ref 43), (1, .int (nI b)), (2, .int i), (3, .int t)]) hΓ dX12_isFree_94 (by decide) rfl rfl ?_
          refine sv_iinc (v := nI (a + 1)) (lv' := [(5, .int (nI (a + 1))), (4, .int 0), (6, .int (bI (kd (ci 44 a) = kd (ci 44 b) ∧ ci 56 a = i))), (0, .ref 43), (1, .int (nI b)), (2, .int i), (3, .int t)]) hΓ dX12_isFree_96 2 rfl (nx_inc rfl) (by decide) rfl rfl ?_
          refine sv_goto (pc' := 6) hΓ dX12_isFree_99 (by decide) ?_
          have q := ih (a + 1) (by omega)
          rw [show frI ci b i t (a + 1) = 0 from by simp only [frI]; rw [if_pos u3]] at q
          exact SV_lv [0, 1, 3, 4, 5, 6] rfl q
        · refine sv_iload hΓ dX12_isFree_49 0 rfl rfl ?_
          refine sv_if_eq (tgt := 89) hΓ dX12_isFree_51 (by decide) rfl (fun u4 => ?_) (fun u4 => ?_)
          · replace u4 := bI_0.mp u4
            refine sv_iconst (v := 1) hΓ dX12_isFree_89 (by decide) rfl ?_
            refine sv_goto (pc' := 94) hΓ dX12_isFree_90 (by decide) ?_
            refine sv_istore (lv' := [(4, .int 1), (6, .int (bI (kd (ci 44 a) = kd (ci 44 b) ∧ ci 56 a = i))), (5, .int (nI a)), (0, .ref 43), (1, .int (nI b)), (2, .int i), (3, .int t)]) hΓ dX12_isFree_94 (by decide) rfl rfl ?_
            refine sv_iinc (v := nI (a + 1)) (lv' := [(5, .int (nI (a + 1))), (4, .int 1), (6, .int (bI (kd (ci 44 a) = kd (ci 44 b) ∧ ci 56 a = i))), (0, .ref 43), (1, .int (nI b)), (2, .int i), (3, .int t)]) hΓ dX12_isFree_96 2 rfl (nx_inc rfl) (by decide) rfl rfl ?_
            refine sv_goto (pc' := 6) hΓ dX12_isFree_99 (by decide) ?_
            have q := ih (a + 1) (by omega)
            rw [show frI ci b i t (a + 1) = 1 from by simp only [frI]; rw [if_neg u3, if_neg u4]] at q
            exact SV_lv [0, 1, 3, 4, 5, 6] rfl q
          · replace u4 := bI_ne.mp u4
            refine sv_aload_n hΓ dX12_isFree_54 rfl 3 rfl rfl ?_
            refine g_X12_45_43 hΓ dX12_isFree_55 rfl ?_
            refine sv_iload hΓ dX12_isFree_58 1 rfl rfl ?_
            refine ai_55 hΓ (a) rfl (by omega) dX12_isFree_60 rfl ?_
            refine sv_aload_n hΓ dX12_isFree_61 rfl 3 rfl rfl ?_
            refine sv_iload hΓ dX12_isFree_62 1 rfl rfl ?_
            refine sv_callV hΓ (fun l => ct_X12_fills l a (by omega)) wv_X12_191 vs_X12_fills rfl m_43 rfl rfl (by decide) (Nat.le_of_ble_eq_true rfl) (Nat.le_of_ble_eq_true rfl) (Nat.le_of_ble_eq_true rfl) dX12_isFree_64 rfl (fun r M' nx' p5 => ?_)
            obtain ⟨rfl, rfl, rfl⟩ := p5
            show SV E Γ 7 (mm ci cl cr dy) nx 0 0 67 [(6, .int (bI (kd (ci 44 a) = kd (ci 44 b) ∧ ci 56 a = i))), (5, .int (nI a)), (4, .int (frI ci b i t a)), (0, .ref 43), (1, .int (nI b)), (2, .int i), (3, .int t)] [.int (fl ci a), .int (ci 55 a)]
            refine sv_iadd hΓ dX12_isFree_67 rfl ?_
            refine sv_iload_n hΓ dX12_isFree_68 rfl 6 rfl rfl ?_
            refine sv_icmp_le (tgt := 89) hΓ dX12_isFree_69 (by decide) rfl (fun u6 => ?_) (fun u6 => ?_)
            · refine sv_iconst (v := 1) hΓ dX12_isFree_89 (by decide) rfl ?_
              refine sv_goto (pc' := 94) hΓ dX12_isFree_90 (by decide) ?_
              refine sv_istore (lv' := [(4, .int 1), (6, .int (bI (kd (ci 44 a) = kd (ci 44 b) ∧ ci 56 a = i))), (5, .int (nI a)), (0, .ref 43), (1, .int (nI b)), (2, .int i), (3, .int t)]) hΓ dX12_isFree_94 (by decide) rfl rfl ?_
              refine sv_iinc (v := nI (a + 1)) (lv' := [(5, .int (nI (a + 1))), (4, .int 1), (6, .int (bI (kd (ci 44 a) = kd (ci 44 b) ∧ ci 56 a = i))), (0, .ref 43), (1, .int (nI b)), (2, .int i), (3, .int t)]) hΓ dX12_isFree_96 2 rfl (nx_inc rfl) (by decide) rfl rfl ?_
              refine sv_goto (pc' := 6) hΓ dX12_isFree_99 (by decide) ?_
              have q := ih (a + 1) (by omega)
              rw [show frI ci b i t (a + 1) = 1 from by simp only [frI]; rw [if_neg u3, if_pos u4, if_pos u6]] at q
              exact SV_lv [0, 1, 3, 4, 5, 6] rfl q
            · refine sv_iload_n hΓ dX12_isFree_72 rfl 6 rfl rfl ?_
              refine sv_aload_n hΓ dX12_isFree_73 rfl 3 rfl rfl ?_
              refine sv_iload_n hΓ dX12_isFree_74 rfl 4 rfl rfl ?_
              refine sv_callV hΓ (fun l => ct_X12_fills l b (by omega)) wv_X12_191 vs_X12_fills rfl m_43 rfl rfl (by decide) (Nat.le_of_ble_eq_true rfl) (Nat.le_of_ble_eq_true rfl) (Nat.le_of_ble_eq_true rfl) dX12_isFree_75 rfl (fun r M' nx' p7 => ?_)
              obtain ⟨rfl, rfl, rfl⟩ := p7
              show SV E Γ 7 (mm ci cl cr dy) nx 0 0 78 [(6, .int (bI (kd (ci 44 a) = kd (ci 44 b) ∧ ci 56 a = i))), (5, .int (nI a)), (4, .int (frI ci b i t a)), (0, .ref 43), (1, .int (nI b)), (2, .int i), (3, .int t)] [.int (fl ci b), .int t]
              refine sv_iadd hΓ dX12_isFree_78 rfl ?_
              refine sv_aload_n hΓ dX12_isFree_79 rfl 3 rfl rfl ?_
              refine g_X12_45_43 hΓ dX12_isFree_80 rfl ?_
              refine sv_iload hΓ dX12_isFree_83 1 rfl rfl ?_
              refine ai_55 hΓ (a) rfl (by omega) dX12_isFree_85 rfl ?_
              refine sv_icmp_gt (tgt := 93) hΓ dX12_isFree_86 (by decide) rfl (fun u8 => ?_) (fun u8 => ?_)
              · refine sv_iconst (v := 0) hΓ dX12_isFree_93 (by decide) rfl ?_
                refine sv_istore (lv' := [(4, .int 0), (6, .int (bI (kd (ci 44 a) = kd (ci 44 b) ∧ ci 56 a = i))), (5, .int (nI a)), (0, .ref 43), (1, .int (nI b)), (2, .int i), (3, .int t)]) hΓ dX12_isFree_94 (by decide) rfl rfl ?_
                refine sv_iinc (v := nI (a + 1)) (lv' := [(5, .int (nI (a + 1))), (4, .int 0), (6, .int (bI (kd (ci 44 a) = kd (ci 44 b) ∧ ci 56 a = i))), (0, .ref 43), (1, .int (nI b)), (2, .int i), (3, .int t)]) hΓ dX12_isFree_96 2 rfl (nx_inc rfl) (by decide) rfl rfl ?_
                refine sv_goto (pc' := 6) hΓ dX12_isFree_99 (by decide) ?_
                have q := ih (a + 1) (by omega)
                rw [show frI ci b i t (a + 1) = 0 from by simp only [frI]; rw [if_neg u3, if_pos u4, if_neg u6, if_pos u8]] at q
                exact SV_lv [0, 1, 3, 4, 5, 6] rfl q
              · refine sv_iconst (v := 1) hΓ dX12_isFree_89 (by decide) rfl ?_
                refine sv_goto (pc' := 94) hΓ dX12_isFree_90 (by decide) ?_
                refine sv_istore (lv' := [(4, .int 1), (6, .int (bI (kd (ci 44 a) = kd (ci 44 b) ∧ ci 56 a = i))), (5, .int (nI a)), (0, .ref 43), (1, .int (nI b)), (2, .int i), (3, .int t)]) hΓ dX12_isFree_94 (by decide) rfl rfl ?_
                refine sv_iinc (v := nI (a + 1)) (lv' := [(5, .int (nI (a + 1))), (4, .int 1), (6, .int (bI (kd (ci 44 a) = kd (ci 44 b) ∧ ci 56 a = i))), (0, .ref 43), (1, .int (nI b)), (2, .int i), (3, .int t)]) hΓ dX12_isFree_96 2 rfl (nx_inc rfl) (by decide) rfl rfl ?_
                refine sv_goto (pc' := 6) hΓ dX12_isFree_99 (by decide) ?_
                have q := ih (a + 1) (by omega)
                rw [show frI ci b i t (a + 1) = 1 from by simp only [frI]; rw [if_neg u3, if_pos u4, if_neg u6, if_neg u8]] at q
                exact SV_lv [0, 1, 3, 4, 5, 6] rfl q
      refine sv_aload_n hΓ dX12_isFree_12 rfl 2 rfl rfl ?_
      refine sv_iload hΓ dX12_isFree_13 0 rfl rfl ?_
      refine sv_callV hΓ (fun l => ct_X12_kindOf l a (by omega)) wv_X12_146 vs_X12_kindOf rfl m_43 rfl rfl (by decide) (Nat.le_of_ble_eq_true rfl) (Nat.le_of_ble_eq_true rfl) (Nat.le_of_ble_eq_true rfl) dX12_isFree_15 rfl (fun r M' nx' p9 => ?_)
      obtain ⟨rfl, rfl, rfl⟩ := p9
      show SV E Γ 7 (mm ci cl cr dy) nx 0 0 18 [(5, .int (nI a)), (4, .int (frI ci b i t a)), (0, .ref 43), (1, .int (nI b)), (2, .int i), (3, .int t)] [.int (kd (ci 44 a))]
      refine sv_aload_n hΓ dX12_isFree_18 rfl 2 rfl rfl ?_
      refine sv_iload_n hΓ dX12_isFree_19 rfl 3 rfl rfl ?_
      refine sv_callV hΓ (fun l => ct_X12_kindOf l b (by omega)) wv_X12_146 vs_X12_kindOf rfl m_43 rfl rfl (by decide) (Nat.le_of_ble_eq_true rfl) (Nat.le_of_ble_eq_true rfl) (Nat.le_of_ble_eq_true rfl) dX12_isFree_20 rfl (fun r M' nx' p10 => ?_)
      obtain ⟨rfl, rfl, rfl⟩ := p10
      show SV E Γ 7 (mm ci cl cr dy) nx 0 0 23 [(5, .int (nI a)), (4, .int (frI ci b i t a)), (0, .ref 43), (1, .int (nI b)), (2, .int i), (3, .int t)] [.int (kd (ci 44 b)), .int (kd (ci 44 a))]
      refine sv_icmp_ne (tgt := 41) hΓ dX12_isFree_23 (by decide) rfl (fun u11 => ?_) (fun u11 => ?_)
      · refine sv_iconst (v := 0) hΓ dX12_isFree_41 (by decide) rfl ?_
        have e12 : bI (kd (ci 44 a) = kd (ci 44 b) ∧ ci 56 a = i) = 0 := by first | exact if_pos (by grind) | exact if_neg (by grind)
        rw [e12] at J42
        exact J42
      · refine sv_aload_n hΓ dX12_isFree_26 rfl 2 rfl rfl ?_
        refine g_X12_48_43 hΓ dX12_isFree_27 rfl ?_
        refine sv_iload hΓ dX12_isFree_30 0 rfl rfl ?_
        refine ai_56 hΓ (a) rfl (by omega) dX12_isFree_32 rfl ?_
        refine sv_iload_n hΓ dX12_isFree_33 rfl 4 rfl rfl ?_
        refine sv_icmp_ne (tgt := 41) hΓ dX12_isFree_34 (by decide) rfl (fun u13 => ?_) (fun u13 => ?_)
        · refine sv_iconst (v := 0) hΓ dX12_isFree_41 (by decide) rfl ?_
          have e14 : bI (kd (ci 44 a) = kd (ci 44 b) ∧ ci 56 a = i) = 0 := by first | exact if_pos (by grind) | exact if_neg (by grind)
          rw [e14] at J42
          exact J42
        · refine sv_iconst (v := 1) hΓ dX12_isFree_37 (by decide) rfl ?_
          refine sv_goto (pc' := 42) hΓ dX12_isFree_38 (by decide) ?_
          have e15 : bI (kd (ci 44 a) = kd (ci 44 b) ∧ ci 56 a = i) = 1 := by first | exact if_pos (by grind) | exact if_neg (by grind)
          rw [e15] at J42
          exact J42
  exact SV_lv [0, 1, 2, 3, 4, 5] rfl (LP6 b 0 (by omega))
set_option maxRecDepth 100000 in
set_option maxHeartbeats 4000000 in
/-- freePart -/
theorem ct_X12_freePart {E : aG} (l : Launch) (b : Nat) (t : Int32) (k : Nat) (np : Nat) {ci : Nat → Nat → Int32} {cl : Nat → Nat → Int64} {cr : Nat → Nat → Option Nat} {dy : aM} {nx : Nat} (hb : b < 16) (ek : kd (ci 44 b) = nI k) (hk : k < 4) (hp : ci 49 k = nI np) (hp4 : np ≤ 4) : CT E l yX12_freePart cX12_freePart 4 (some .int) 3 [.ref 43, .int (nI b), .int t] (mm ci cl cr dy) nx 0 0 (fun r M' nx' => r = some (.int (fpF ci b t np 0)) ∧ M' = mm ci cl cr dy ∧ nx = nx') := by
  refine CT_intro (by decide) (Nat.le_of_ble_eq_true rfl) (fun Γ hΓ hQ => ?_)
  replace hΓ : CK E RX12 cX12_freePart 4 (some .int) "freePart" 3 0 0 Γ := hΓ
  show SV E Γ 4 (mm ci cl cr dy) nx 0 0 0 [(0, .ref 43), (1, .int (nI b)), (2, .int t)] []
  refine sv_iconst (v := 0) hΓ dX12_freePart_0 (by decide) rfl ?_
  refine sv_istore_n (lv' := [(3, .int 0), (0, .ref 43), (1, .int (nI b)), (2, .int t)]) hΓ dX12_freePart_1 rfl (by decide) rfl rfl ?_
  have LP2 : ∀ kq i : Nat, i + kq = np → fpF ci b t kq i = fpF ci b t np 0 → SV E Γ 4 (mm ci cl cr dy) nx 0 0 2 [(3, .int (nI i)), (0, .ref 43), (1, .int (nI b)), (2, .int t)] [] := by
    intro kq
    induction kq with
    | zero =>
      intro i ha
      have ea : i = np := by omega
      intro hf
      refine sv_iload_n hΓ dX12_freePart_2 rfl 0 rfl rfl ?_
      refine sv_aload_n hΓ dX12_freePart_3 rfl 1 rfl rfl ?_
      refine g_X12_26_43 hΓ dX12_freePart_4 rfl ?_
      refine sv_aload_n hΓ dX12_freePart_7 rfl 1 rfl rfl ?_
      refine sv_iload_n hΓ dX12_freePart_8 rfl 2 rfl rfl ?_
      refine sv_callV hΓ (fun l => ct_X12_kindOf l b (by omega)) wv_X12_146 vs_X12_kindOf rfl m_43 rfl rfl (by decide) (Nat.le_of_ble_eq_true rfl) (Nat.le_of_ble_eq_true rfl) (Nat.le_of_ble_eq_true rfl) dX12_freePart_9 rfl (fun r M' nx' p1 => ?_)
      obtain ⟨rfl, rfl, rfl⟩ := p1
      show SV E Γ 4 (mm ci cl cr dy) nx 0 0 12 [(3, .int (nI i)), (0, .ref 43), (1, .int (nI b)), (2, .int t)] [.int (kd (ci 44 b)), .ref 49, .int (nI i)]
      refine ai_49 hΓ (k) ek hk dX12_freePart_12 rfl ?_
      refine sv_icmp_ge (tgt := 34) hΓ dX12_freePart_13 (by decide) rfl (fun u2 => ?_) (fun u2 => absurd (by rw [hp]; exact nI_le (by omega) (by omega)) u2)
      refine sv_bipush (v := (-2)) hΓ dX12_freePart_34 (by decide) rfl ?_
      exact sv_iret hΓ hQ dX12_freePart_36 (Nat.le_of_ble_eq_true rfl) (Nat.le_of_ble_eq_true rfl) ⟨by rw [← hf]; rfl, rfl, rfl⟩
    | succ kq ih =>
      intro i ha
      intro hf
      refine sv_iload_n hΓ dX12_freePart_2 rfl 0 rfl rfl ?_
      refine sv_aload_n hΓ dX12_freePart_3 rfl 1 rfl rfl ?_
      refine g_X12_26_43 hΓ dX12_freePart_4 rfl ?_
      refine sv_aload_n hΓ dX12_freePart_7 rfl 1 rfl rfl ?_
      refine sv_iload_n hΓ dX12_freePart_8 rfl 2 rfl rfl ?_
      refine sv_callV hΓ (fun l => ct_X12_kindOf l b (by omega)) wv_X12_146 vs_X12_kindOf rfl m_43 rfl rfl (by decide) (Nat.le_of_ble_eq_true rfl) (Nat.le_of_ble_eq_true rfl) (Nat.le_of_ble_eq_true rfl) dX12_freePart_9 rfl (fun r M' nx' p3 => ?_)
      obtain ⟨rfl, rfl, rfl⟩ := p3
      show SV E Γ 4 (mm ci cl cr dy) nx 0 0 12 [(3, .int (nI i)), (0, .ref 43), (1, .int (nI b)), (2, .int t)] [.int (kd (ci 44 b)), .ref 49, .int (nI i)]
      refine ai_49 hΓ (k) ek hk dX12_freePart_12 rfl ?_
      refine sv_icmp_ge (tgt := 34) hΓ dX12_freePart_13 (by decide) rfl (fun u4 => absurd u4 (by rw [hp]; exact nI_ge (by omega) (by omega))) (fun u4 => ?_)
      refine sv_aload_n hΓ dX12_freePart_16 rfl 1 rfl rfl ?_
      refine sv_iload_n hΓ dX12_freePart_17 rfl 2 rfl rfl ?_
      refine sv_iload_n hΓ dX12_freePart_18 rfl 0 rfl rfl ?_
      refine sv_iload_n hΓ dX12_freePart_19 rfl 3 rfl rfl ?_
      refine sv_callV hΓ (fun l => ct_X12_isFree l b (nI i) t (by omega)) wv_X12_194 vs_X12_isFree rfl m_43 rfl rfl (by decide) (Nat.le_of_ble_eq_true rfl) (Nat.le_of_ble_eq_true rfl) (Nat.le_of_ble_eq_true rfl) dX12_freePart_20 rfl (fun r M' nx' p5 => ?_)
      obtain ⟨rfl, rfl, rfl⟩ := p5
      show SV E Γ 4 (mm ci cl cr dy) nx 0 0 23 [(3, .int (nI i)), (0, .ref 43), (1, .int (nI b)), (2, .int t)] [.int (frI ci b (nI i) t b)]
      refine sv_if_eq (tgt := 28) hΓ dX12_freePart_23 (by decide) rfl (fun u6 => ?_) (fun u6 => ?_)
      · refine sv_iinc (v := nI (i + 1)) (lv' := [(3, .int (nI (i + 1))), (0, .ref 43), (1, .int (nI b)), (2, .int t)]) hΓ dX12_freePart_28 0 rfl (nx_inc rfl) (by decide) rfl rfl ?_
        refine sv_goto (pc' := 2) hΓ dX12_freePart_31 (by decide) ?_
        exact SV_lv [0, 1, 2, 3] rfl (ih (i + 1) (by omega) (by rw [← hf]; simp only [fpF]; rw [if_pos u6]))
      · refine sv_iload_n hΓ dX12_freePart_26 rfl 0 rfl rfl ?_
        exact sv_iret hΓ hQ dX12_freePart_27 (Nat.le_of_ble_eq_true rfl) (Nat.le_of_ble_eq_true rfl) ⟨by rw [← hf]; simp only [fpF]; rw [if_neg u6], rfl, rfl⟩
  exact SV_lv [0, 1, 2, 3] rfl (LP2 np 0 (by omega) rfl)
set_option maxRecDepth 100000 in
set_option maxHeartbeats 4000000 in
/-- isUsed -/
theorem ct_X12_isUsed {E : aG} (l : Launch) (a : Nat) (n : Nat) {ci : Nat → Nat → Int32} {cl : Nat → Nat → Int64} {cr : Nat → Nat → Option Nat} {dy : aM} {nx : Nat} (ha : a < n) (hn : ci 43 1 = nI n) (hn6 : n ≤ 16) : CT E l yX12_isUsed cX12_isUsed 4 (some .boolean) 1 [.ref 43, .int (nI a)] (mm ci cl cr dy) nx 0 0 (fun r M' nx' => r = some (.int (bI (usd ci n a))) ∧ M' = mm ci cl cr dy ∧ nx = nx') := by
  refine CT_intro (by decide) (Nat.le_of_ble_eq_true rfl) (fun Γ hΓ hQ => ?_)
  replace hΓ : CK E RX12 cX12_isUsed 4 (some .boolean) "isUsed" 1 0 0 Γ := hΓ
  show SV E Γ 4 (mm ci cl cr dy) nx 0 0 0 [(0, .ref 43), (1, .int (nI a))] []
  refine sv_iconst (v := 0) hΓ dX12_isUsed_0 (by decide) rfl ?_
  refine sv_istore_n (lv' := [(2, .int 0), (0, .ref 43), (1, .int (nI a))]) hΓ dX12_isUsed_1 rfl (by decide) rfl rfl ?_
  refine sv_iload_n hΓ dX12_isUsed_2 rfl 2 rfl rfl ?_
  refine sv_iconst (v := 1) hΓ dX12_isUsed_3 (by decide) rfl ?_
  refine sv_iaddE (v := nI (a + 1)) hΓ dX12_isUsed_4 (nx_add rfl rfl) rfl ?_
  refine sv_istore_n (lv' := [(3, .int (nI (a + 1))), (2, .int 0), (0, .ref 43), (1, .int (nI a))]) hΓ dX12_isUsed_5 rfl (by decide) rfl rfl ?_
  have LP6 : ∀ kq j : Nat, j + kq = n - (a + 1) → SV E Γ 4 (mm ci cl cr dy) nx 0 0 6 [(3, .int (nI (a + 1 + j))), (2, .int (usI ci a j)), (0, .ref 43), (1, .int (nI a))] [] := by
    intro kq
    induction kq with
    | zero =>
      intro j ha
      have ea : j = n - (a + 1) := by omega
      refine sv_iload_n hΓ dX12_isUsed_6 rfl 0 rfl rfl ?_
      refine sv_aload_n hΓ dX12_isUsed_7 rfl 2 rfl rfl ?_
      refine g_X12_103_43 hΓ dX12_isUsed_8 rfl ?_
      refine sv_icmp_ge (tgt := 39) hΓ dX12_isUsed_11 (by decide) rfl (fun u1 => ?_) (fun u1 => absurd (by rw [hn]; exact nI_le (by omega) (by omega)) u1)
      refine sv_iload_n hΓ dX12_isUsed_39 rfl 1 rfl rfl ?_
      refine sv_if_eq (tgt := 56) hΓ dX12_isUsed_40 (by decide) rfl (fun u2 => ?_) (fun u2 => ?_)
      · refine sv_iconst (v := 0) hΓ dX12_isUsed_56 (by decide) rfl ?_
        exact sv_zret hΓ hQ dX12_isUsed_57 (Nat.le_of_ble_eq_true rfl) (Nat.le_of_ble_eq_true rfl) rfl ⟨by simp only [usd, ← ea]; simp [bI, u2], rfl, rfl⟩
      · refine sv_aload_n hΓ dX12_isUsed_43 rfl 2 rfl rfl ?_
        refine g_X12_7_43 hΓ dX12_isUsed_44 rfl ?_
        refine sv_iload_n hΓ dX12_isUsed_47 rfl 3 rfl rfl ?_
        refine ai_44 hΓ (a) rfl (by omega) dX12_isUsed_48 rfl ?_
        refine sv_if_eq (tgt := 56) hΓ dX12_isUsed_49 (by decide) rfl (fun u3 => ?_) (fun u3 => ?_)
        · refine sv_iconst (v := 0) hΓ dX12_isUsed_56 (by decide) rfl ?_
          exact sv_zret hΓ hQ dX12_isUsed_57 (Nat.le_of_ble_eq_true rfl) (Nat.le_of_ble_eq_true rfl) rfl ⟨by simp only [usd, ← ea]; simp [bI, u2, u3], rfl, rfl⟩
        · refine sv_iconst (v := 1) hΓ dX12_isUsed_52 (by decide) rfl ?_
          refine sv_goto (pc' := 57) hΓ dX12_isUsed_53 (by decide) ?_
          exact sv_zret hΓ hQ dX12_isUsed_57 (Nat.le_of_ble_eq_true rfl) (Nat.le_of_ble_eq_true rfl) rfl ⟨by simp only [usd, ← ea]; simp [bI, u2, u3], rfl, rfl⟩
    | succ kq ih =>
      intro j ha
      refine sv_iload_n hΓ dX12_isUsed_6 rfl 0 rfl rfl ?_
      refine sv_aload_n hΓ dX12_isUsed_7 rfl 2 rfl rfl ?_
      refine g_X12_103_43 hΓ dX12_isUsed_8 rfl ?_
      refine sv_icmp_ge (tgt := 39) hΓ dX12_isUsed_11 (by decide) rfl (fun u4 => absurd u4 (by rw [hn]; exact nI_ge (by omega) (by omega))) (fun u4 => ?_)
      refine sv_iload_n hΓ dX12_isUsed_14 rfl 1 rfl rfl ?_
      refine sv_if_ne (tgt := 27) hΓ dX12_isUsed_15 (by decide) rfl (fun u5 => ?_) (fun u5 => ?_)
      · refine sv_iconst (v := 1) hΓ dX12_isUsed_27 (by decide) rfl ?_
        refine sv_goto (pc' := 32) hΓ dX12_isUsed_28 (by decide) ?_
        refine sv_istore_n (lv' := [(2, .int 1), (3, .int (nI (a + 1 + j))), (0, .ref 43), (1, .int (nI a))]) hΓ dX12_isUsed_32 rfl (by decide) rfl rfl ?_
        refine sv_iinc (v := nI (a + 1 + j + 1)) (lv' := [(3, .int (nI (a + 1 + j + 1))), (2, .int 1), (0, .ref 43), (1, .int (nI a))]) hΓ dX12_isUsed_33 1 rfl (nx_inc rfl) (by decide) rfl rfl ?_
        refine sv_goto (pc' := 6) hΓ dX12_isUsed_36 (by decide) ?_
        have q := ih (j + 1) (by omega)
        rw [show usI ci a (j + 1) = 1 from by simp only [usI]; simp [bI, u5]] at q
        exact SV_lv [0, 1, 2, 3] rfl q
      · refine sv_aload_n hΓ dX12_isUsed_18 rfl 2 rfl rfl ?_
        refine sv_iload_n hΓ dX12_isUsed_19 rfl 3 rfl rfl ?_
        refine sv_iload_n hΓ dX12_isUsed_20 rfl 0 rfl rfl ?_
        refine sv_callV hΓ (fun l => ct_X12_isOperand l (nI a) (a + 1 + j) (by omega)) wv_X12_184 vs_X12_isOperand rfl m_43 rfl rfl (by decide) (Nat.le_of_ble_eq_true rfl) (Nat.le_of_ble_eq_true rfl) (Nat.le_of_ble_eq_true rfl) dX12_isUsed_21 rfl (fun r M' nx' p6 => ?_)
        obtain ⟨rfl, rfl, rfl⟩ := p6
        show SV E Γ 4 (mm ci cl cr dy) nx 0 0 24 [(3, .int (nI (a + 1 + j))), (2, .int (usI ci a j)), (0, .ref 43), (1, .int (nI a))] [.int (bI (isO ci (nI a) (a + 1 + j)))]
        refine sv_if_eq (tgt := 31) hΓ dX12_isUsed_24 (by decide) rfl (fun u7 => ?_) (fun u7 => ?_)
        · replace u7 := bI_0.mp u7
          refine sv_iconst (v := 0) hΓ dX12_isUsed_31 (by decide) rfl ?_
          refine sv_istore_n (lv' := [(2, .int 0), (3, .int (nI (a + 1 + j))), (0, .ref 43), (1, .int (nI a))]) hΓ dX12_isUsed_32 rfl (by decide) rfl rfl ?_
          refine sv_iinc (v := nI (a + 1 + j + 1)) (lv' := [(3, .int (nI (a + 1 + j + 1))), (2, .int 0), (0, .ref 43), (1, .int (nI a))]) hΓ dX12_isUsed_33 1 rfl (nx_inc rfl) (by decide) rfl rfl ?_
          refine sv_goto (pc' := 6) hΓ dX12_isUsed_36 (by decide) ?_
          have q := ih (j + 1) (by omega)
          rw [show usI ci a (j + 1) = 0 from by simp only [usI]; simp [bI, u5, u7]] at q
          exact SV_lv [0, 1, 2, 3] rfl q
        · replace u7 := bI_ne.mp u7
          refine sv_iconst (v := 1) hΓ dX12_isUsed_27 (by decide) rfl ?_
          refine sv_goto (pc' := 32) hΓ dX12_isUsed_28 (by decide) ?_
          refine sv_istore_n (lv' := [(2, .int 1), (3, .int (nI (a + 1 + j))), (0, .ref 43), (1, .int (nI a))]) hΓ dX12_isUsed_32 rfl (by decide) rfl rfl ?_
          refine sv_iinc (v := nI (a + 1 + j + 1)) (lv' := [(3, .int (nI (a + 1 + j + 1))), (2, .int 1), (0, .ref 43), (1, .int (nI a))]) hΓ dX12_isUsed_33 1 rfl (nx_inc rfl) (by decide) rfl rfl ?_
          refine sv_goto (pc' := 6) hΓ dX12_isUsed_36 (by decide) ?_
          have q := ih (j + 1) (by omega)
          rw [show usI ci a (j + 1) = 1 from by simp only [usI]; simp [bI, u5, u7]] at q
          exact SV_lv [0, 1, 2, 3] rfl q
  exact SV_lv [0, 1, 2, 3] rfl (LP6 (n - (a + 1)) 0 (by omega))
set_option maxRecDepth 100000 in
set_option maxHeartbeats 4000000 in
/-- lifeEnd -/
theorem ct_X12_lifeEnd {E : aG} (l : Launch) (a : Nat) (n : Nat) {ci : Nat → Nat → Int32} {cl : Nat → Nat → Int64} {cr : Nat → Nat → Option Nat} {dy : aM} {nx : Nat} (ha : a < n) (hn : ci 43 1 = nI n) (hn6 : n ≤ 16) : CT E l yX12_lifeEnd cX12_lifeEnd 4 (some .int) 1 [.ref 43, .int (nI a)] (mm ci cl cr dy) nx 0 0 (fun r M' nx' => r = some (.int (leN ci n a)) ∧ M' = mm ci cl cr dy ∧ nx = nx') := by
  refine CT_intro (by decide) (Nat.le_of_ble_eq_true rfl) (fun Γ hΓ hQ => ?_)
  replace hΓ : CK E RX12 cX12_lifeEnd 4 (some .int) "lifeEnd" 1 0 0 Γ := hΓ
  show SV E Γ 4 (mm ci cl cr dy) nx 0 0 0 [(0, .ref 43), (1, .int (nI a))] []
  refine sv_bipush (v := (-2)) hΓ dX12_lifeEnd_0 (by decide) rfl ?_
  refine sv_istore_n (lv' := [(2, .int ((-2))), (0, .ref 43), (1, .int (nI a))]) hΓ dX12_lifeEnd_2 rfl (by decide) rfl rfl ?_
  refine sv_iload_n hΓ dX12_lifeEnd_3 rfl 2 rfl rfl ?_
  refine sv_iconst (v := 1) hΓ dX12_lifeEnd_4 (by decide) rfl ?_
  refine sv_iaddE (v := nI (a + 1)) hΓ dX12_lifeEnd_5 (nx_add rfl rfl) rfl ?_
  refine sv_istore_n (lv' := [(3, .int (nI (a + 1))), (2, .int ((-2))), (0, .ref 43), (1, .int (nI a))]) hΓ dX12_lifeEnd_6 rfl (by decide) rfl rfl ?_
  have LP7 : ∀ kq j : Nat, j + kq = n - (a + 1) → SV E Γ 4 (mm ci cl cr dy) nx 0 0 7 [(3, .int (nI (a + 1 + j))), (2, .int (leF ci a j)), (0, .ref 43), (1, .int (nI a))] [] := by
    intro kq
    induction kq with
    | zero =>
      intro j ha
      have ea : j = n - (a + 1) := by omega
      refine sv_iload_n hΓ dX12_lifeEnd_7 rfl 0 rfl rfl ?_
      refine sv_aload_n hΓ dX12_lifeEnd_8 rfl 2 rfl rfl ?_
      refine g_X12_103_43 hΓ dX12_lifeEnd_9 rfl ?_
      refine sv_icmp_ge (tgt := 51) hΓ dX12_lifeEnd_12 (by decide) rfl (fun u1 => ?_) (fun u1 => absurd (by rw [hn]; exact nI_le (by omega) (by omega)) u1)
      refine sv_iload_n hΓ dX12_lifeEnd_51 rfl 1 rfl rfl ?_
      exact sv_iret hΓ hQ dX12_lifeEnd_52 (Nat.le_of_ble_eq_true rfl) (Nat.le_of_ble_eq_true rfl) ⟨by simp only [leN, ← ea], rfl, rfl⟩
    | succ kq ih =>
      intro j ha
      refine sv_iload_n hΓ dX12_lifeEnd_7 rfl 0 rfl rfl ?_
      refine sv_aload_n hΓ dX12_lifeEnd_8 rfl 2 rfl rfl ?_
      refine g_X12_103_43 hΓ dX12_lifeEnd_9 rfl ?_
      refine sv_icmp_ge (tgt := 51) hΓ dX12_lifeEnd_12 (by decide) rfl (fun u2 => absurd u2 (by rw [hn]; exact nI_ge (by omega) (by omega))) (fun u2 => ?_)
      refine sv_aload_n hΓ dX12_lifeEnd_15 rfl 2 rfl rfl ?_
      refine sv_iload_n hΓ dX12_lifeEnd_16 rfl 3 rfl rfl ?_
      refine sv_iload_n hΓ dX12_lifeEnd_17 rfl 0 rfl rfl ?_
      refine sv_callV hΓ (fun l => ct_X12_isOperand l (nI a) (a + 1 + j) (by omega)) wv_X12_184 vs_X12_isOperand rfl m_43 rfl rfl (by decide) (Nat.le_of_ble_eq_true rfl) (Nat.le_of_ble_eq_true rfl) (Nat.le_of_ble_eq_true rfl) dX12_lifeEnd_18 rfl (fun r M' nx' p3 => ?_)
      obtain ⟨rfl, rfl, rfl⟩ := p3
      show SV E Γ 4 (mm ci cl cr dy) nx 0 0 21 [(3, .int (nI (a + 1 + j))), (2, .int (leF ci a j)), (0, .ref 43), (1, .int (nI a))] [.int (bI (isO ci (nI a) (a + 1 + j)))]
      refine sv_if_eq (tgt := 43) hΓ dX12_lifeEnd_21 (by decide) rfl (fun u4 => ?_) (fun u4 => ?_)
      · replace u4 := bI_0.mp u4
        refine sv_iload_n hΓ dX12_lifeEnd_43 rfl 1 rfl rfl ?_
        refine sv_istore_n (lv' := [(2, .int (leF ci a j)), (3, .int (nI (a + 1 + j))), (0, .ref 43), (1, .int (nI a))]) hΓ dX12_lifeEnd_44 rfl (by decide) rfl rfl ?_
        refine sv_iinc (v := nI (a + 1 + j + 1)) (lv' := [(3, .int (nI (a + 1 + j + 1))), (2, .int (leF ci a j)), (0, .ref 43), (1, .int (nI a))]) hΓ dX12_lifeEnd_45 1 rfl (nx_inc rfl) (by decide) rfl rfl ?_
        refine sv_goto (pc' := 7) hΓ dX12_lifeEnd_48 (by decide) ?_
        have q := ih (j + 1) (by omega)
        rw [show leF ci a (j + 1) = leF ci a j from by simp only [leF]; rw [if_neg u4]] at q
        exact SV_lv [0, 1, 2, 3] rfl q
      · replace u4 := bI_ne.mp u4
        refine sv_aload_n hΓ dX12_lifeEnd_24 rfl 2 rfl rfl ?_
        refine g_X12_45_43 hΓ dX12_lifeEnd_25 rfl ?_
        refine sv_iload_n hΓ dX12_lifeEnd_28 rfl 0 rfl rfl ?_
        refine ai_55 hΓ (a + 1 + j) rfl (by omega) dX12_lifeEnd_29 rfl ?_
        refine sv_iload_n hΓ dX12_lifeEnd_30 rfl 1 rfl rfl ?_
        refine sv_icmp_le (tgt := 43) hΓ dX12_lifeEnd_31 (by decide) rfl (fun u5 => ?_) (fun u5 => ?_)
        · refine sv_iload_n hΓ dX12_lifeEnd_43 rfl 1 rfl rfl ?_
          refine sv_istore_n (lv' := [(2, .int (leF ci a j)), (3, .int (nI (a + 1 + j))), (0, .ref 43), (1, .int (nI a))]) hΓ dX12_lifeEnd_44 rfl (by decide) rfl rfl ?_
          refine sv_iinc (v := nI (a + 1 + j + 1)) (lv' := [(3, .int (nI (a + 1 + j + 1))), (2, .int (leF ci a j)), (0, .ref 43), (1, .int (nI a))]) hΓ dX12_lifeEnd_45 1 rfl (nx_inc rfl) (by decide) rfl rfl ?_
          refine sv_goto (pc' := 7) hΓ dX12_lifeEnd_48 (by decide) ?_
          have q := ih (j + 1) (by omega)
          rw [show leF ci a (j + 1) = leF ci a j from by simp only [leF]; rw [if_pos u4, if_pos u5]] at q
          exact SV_lv [0, 1, 2, 3] rfl q
        · refine sv_aload_n hΓ dX12_lifeEnd_34 rfl 2 rfl rfl ?_
          refine g_X12_45_43 hΓ dX12_lifeEnd_35 rfl ?_
          refine sv_iload_n hΓ dX12_lifeEnd_38 rfl 0 rfl rfl ?_
          refine ai_55 hΓ (a + 1 + j) rfl (by omega) dX12_lifeEnd_39 rfl ?_
          refine sv_goto (pc' := 44) hΓ dX12_lifeEnd_40 (by decide) ?_
          refine sv_istore_n (lv' := [(2, .int (ci 55 (a + 1 + j))), (3, .int (nI (a + 1 + j))), (0, .ref 43), (1, .int (nI a))]) hΓ dX12_lifeEnd_44 rfl (by decide) rfl rfl ?_
          refine sv_iinc (v := nI (a + 1 + j + 1)) (lv' := [(3, .int (nI (a + 1 + j + 1))), (2, .int (ci 55 (a + 1 + j))), (0, .ref 43), (1, .int (nI a))]) hΓ dX12_lifeEnd_45 1 rfl (nx_inc rfl) (by decide) rfl rfl ?_
          refine sv_goto (pc' := 7) hΓ dX12_lifeEnd_48 (by decide) ?_
          have q := ih (j + 1) (by omega)
          rw [show leF ci a (j + 1) = ci 55 (a + 1 + j) from by simp only [leF]; rw [if_pos u4, if_neg u5]] at q
          exact SV_lv [0, 1, 2, 3] rfl q
  exact SV_lv [0, 1, 2, 3] rfl (LP7 (n - (a + 1)) 0 (by omega))
set_option maxRecDepth 100000 in
set_option maxHeartbeats 4000000 in
/-- liveTogether -/
theorem ct_X12_liveTogether {E : aG} (l : Launch) (a : Nat) (b : Nat) (n : Nat) {ci : Nat → Nat → Int32} {cl : Nat → Nat → Int64} {cr : Nat → Nat → Option Nat} {dy : aM} {nx : Nat} (ha : a < n) (hb : b < n) (hn : ci 43 1 = nI n) (hn6 : n ≤ 16) : CT E l yX12_liveTogether cX12_liveTogether 3 (some .boolean) 3 [.ref 43, .int (nI a), .int (nI b)] (mm ci cl cr dy) nx 0 0 (fun r M' nx' => r = some (.int (bI (tog ci n a b))) ∧ M' = mm ci cl cr dy ∧ nx = nx') := by
  refine CT_intro (by decide) (Nat.le_of_ble_eq_true rfl) (fun Γ hΓ hQ => ?_)
  replace hΓ : CK E RX12 cX12_liveTogether 3 (some .boolean) "liveTogether" 3 0 0 Γ := hΓ
  show SV E Γ 3 (mm ci cl cr dy) nx 0 0 0 [(0, .ref 43), (1, .int (nI a)), (2, .int (nI b))] []
  refine sv_aload_n hΓ dX12_liveTogether_0 rfl 0 rfl rfl ?_
  refine sv_iload_n hΓ dX12_liveTogether_1 rfl 1 rfl rfl ?_
  refine sv_callV hΓ (fun l => ct_X12_lifeBegin l a (by omega)) wv_X12_198 vs_X12_lifeBegin rfl m_43 rfl rfl (by decide) (Nat.le_of_ble_eq_true rfl) (Nat.le_of_ble_eq_true rfl) (Nat.le_of_ble_eq_true rfl) dX12_liveTogether_2 rfl (fun r M' nx' p1 => ?_)
  obtain ⟨rfl, rfl, rfl⟩ := p1
  show SV E Γ 3 (mm ci cl cr dy) nx 0 0 5 [(0, .ref 43), (1, .int (nI a)), (2, .int (nI b))] [.int (ci 55 a + ln ci a)]
  refine sv_aload_n hΓ dX12_liveTogether_5 rfl 0 rfl rfl ?_
  refine sv_iload_n hΓ dX12_liveTogether_6 rfl 2 rfl rfl ?_
  refine sv_callV hΓ (fun l => ct_X12_lifeEnd l b n (by omega) hn (by omega)) wv_X12_201 vs_X12_lifeEnd rfl m_43 rfl rfl (by decide) (Nat.le_of_ble_eq_true rfl) (Nat.le_of_ble_eq_true rfl) (Nat.le_of_ble_eq_true rfl) dX12_liveTogether_7 rfl (fun r M' nx' p2 => ?_)
  obtain ⟨rfl, rfl, rfl⟩ := p2
  show SV E Γ 3 (mm ci cl cr dy) nx 0 0 10 [(0, .ref 43), (1, .int (nI a)), (2, .int (nI b))] [.int (leN ci n b), .int (ci 55 a + ln ci a)]
  refine sv_icmp_gt (tgt := 30) hΓ dX12_liveTogether_10 (by decide) rfl (fun u3 => ?_) (fun u3 => ?_)
  · refine sv_iconst (v := 0) hΓ dX12_liveTogether_30 (by decide) rfl ?_
    exact sv_zret hΓ hQ dX12_liveTogether_31 (Nat.le_of_ble_eq_true rfl) (Nat.le_of_ble_eq_true rfl) rfl ⟨by simp only [tog]; simp [bI, u3], rfl, rfl⟩
  · refine sv_aload_n hΓ dX12_liveTogether_13 rfl 0 rfl rfl ?_
    refine sv_iload_n hΓ dX12_liveTogether_14 rfl 2 rfl rfl ?_
    refine sv_callV hΓ (fun l => ct_X12_lifeBegin l b (by omega)) wv_X12_198 vs_X12_lifeBegin rfl m_43 rfl rfl (by decide) (Nat.le_of_ble_eq_true rfl) (Nat.le_of_ble_eq_true rfl) (Nat.le_of_ble_eq_true rfl) dX12_liveTogether_15 rfl (fun r M' nx' p4 => ?_)
    obtain ⟨rfl, rfl, rfl⟩ := p4
    show SV E Γ 3 (mm ci cl cr dy) nx 0 0 18 [(0, .ref 43), (1, .int (nI a)), (2, .int (nI b))] [.int (ci 55 b + ln ci b)]
    refine sv_aload_n hΓ dX12_liveTogether_18 rfl 0 rfl rfl ?_
    refine sv_iload_n hΓ dX12_liveTogether_19 rfl 1 rfl rfl ?_
    refine sv_callV hΓ (fun l => ct_X12_lifeEnd l a n (by omega) hn (by omega)) wv_X12_201 vs_X12_lifeEnd rfl m_43 rfl rfl (by decide) (Nat.le_of_ble_eq_true rfl) (Nat.le_of_ble_eq_true rfl) (Nat.le_of_ble_eq_true rfl) dX12_liveTogether_20 rfl (fun r M' nx' p5 => ?_)
    obtain ⟨rfl, rfl, rfl⟩ := p5
    show SV E Γ 3 (mm ci cl cr dy) nx 0 0 23 [(0, .ref 43), (1, .int (nI a)), (2, .int (nI b))] [.int (leN ci n a), .int (ci 55 b + ln ci b)]
    refine sv_icmp_gt (tgt := 30) hΓ dX12_liveTogether_23 (by decide) rfl (fun u6 => ?_) (fun u6 => ?_)
    · refine sv_iconst (v := 0) hΓ dX12_liveTogether_30 (by decide) rfl ?_
      exact sv_zret hΓ hQ dX12_liveTogether_31 (Nat.le_of_ble_eq_true rfl) (Nat.le_of_ble_eq_true rfl) rfl ⟨by simp only [tog]; simp [bI, u3, u6], rfl, rfl⟩
    · refine sv_iconst (v := 1) hΓ dX12_liveTogether_26 (by decide) rfl ?_
      refine sv_goto (pc' := 31) hΓ dX12_liveTogether_27 (by decide) ?_
      exact sv_zret hΓ hQ dX12_liveTogether_31 (Nat.le_of_ble_eq_true rfl) (Nat.le_of_ble_eq_true rfl) rfl ⟨by simp only [tog]; simp [bI, u3, u6], rfl, rfl⟩
