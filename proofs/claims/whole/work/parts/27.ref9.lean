set_option maxRecDepth 100000 in
set_option maxHeartbeats 4000000 in
/-- act -/
theorem ct_X12_act {E : aG} (l : Launch) (q : Int32) (m : Int32) (n : Nat) {ci : Nat → Nat → Int32} {cl : Nat → Nat → Int64} {cr : Nat → Nat → Option Nat} {dy : aM} {nx : Nat} (hn : ci 43 1 = nI n) (hn6 : n ≤ 16) (hwf : ∀ i, i < n → WF ci i) : CT E l yX12_act cX12_act 4 (some .int) 3 [.ref 43, .int q, .int m] (mm ci cl cr dy) nx 0 0 (fun r M' nx' => (¬ (AI n q ∧ II 0 8 m) ∧ r = some (.int (-1)) ∧ M' = mm (up2 ci 43 0 0) cl cr dy ∧ nx = nx') ∨ (∃ a k, a < n ∧ q = nI a ∧ k ≤ 8 ∧ m = nI k ∧ ∃ cs, (cs = cl ∨ FSI (up2 ci 43 0 0) cl cs n) ∧ r = some (.int (acF (up2 ci 43 0 0) cs a k)) ∧ M' = mm (up2 ci 43 0 0) cs cr dy ∧ nx = nx')) := by
  refine CT_intro (by decide) (Nat.le_of_ble_eq_true rfl) (fun Γ hΓ hQ => ?_)
  replace hΓ : CK E RX12 cX12_act 4 (some .int) "act" 3 0 0 Γ := hΓ
  show SV E Γ 4 (mm ci cl cr dy) nx 0 0 0 [(0, .ref 43), (1, .int q), (2, .int m)] []
  refine sv_aload_n hΓ dX12_act_0 rfl 0 rfl rfl ?_
  refine sv_iconst (v := 0) hΓ dX12_act_1 (by decide) rfl ?_
  refine p_X12_99_43 hΓ dX12_act_2 rfl ?_
  refine sv_aload_n hΓ dX12_act_5 rfl 0 rfl rfl ?_
  refine sv_iload_n hΓ dX12_act_6 rfl 1 rfl rfl ?_
  refine sv_callV hΓ (fun l => ct_X12_isActN l q n hn hn6) wv_X12_132 vs_X12_isAct rfl m_43 rfl rfl (by decide) (Nat.le_of_ble_eq_true rfl) (Nat.le_of_ble_eq_true rfl) (Nat.le_of_ble_eq_true rfl) dX12_act_7 rfl (fun r M' nx' p1 => ?_)
  obtain ⟨rfl, rfl, rfl⟩ := p1
  show SV E Γ 4 (mm (up2 ci 43 0 0) cl cr dy) nx 0 0 10 [(0, .ref 43), (1, .int q), (2, .int m)] [.int (bI (AI n q))]
  refine sv_if_eq (tgt := 25) hΓ dX12_act_10 (by decide) rfl (fun u2 => ?_) (fun u2 => ?_)
  · replace u2 := bI_0.mp u2
    refine sv_iconst (v := (-1)) hΓ dX12_act_25 (by decide) rfl ?_
    exact sv_iret hΓ hQ dX12_act_26 (Nat.le_of_ble_eq_true rfl) (Nat.le_of_ble_eq_true rfl) (Or.inl ⟨by grind, rfl, rfl, rfl⟩)
  · replace u2 := bI_ne.mp u2
    obtain ⟨a, ha, eqa⟩ := AI.k u2
    subst eqa
    refine sv_iload_n hΓ dX12_act_13 rfl 2 rfl rfl ?_
    refine sv_i2l hΓ dX12_act_14 rfl rfl ?_
    refine sv_lconst (v := 0) hΓ dX12_act_15 (by decide) rfl ?_
    refine sv_ldc2 hΓ dX12_act_16 tb_1129 rfl ?_
    refine sv_callS hΓ (fun l => ct_X12_isInI l m 0 8 0 8 (by decide) (by decide) rfl rfl) wv_X12_118 tb_1080 rfl rfl (by decide) (Nat.le_of_ble_eq_true rfl) (Nat.le_of_ble_eq_true rfl) (Nat.le_of_ble_eq_true rfl) dX12_act_19 rfl (fun r M' nx' p3 => ?_)
    obtain ⟨rfl, rfl, rfl⟩ := p3
    show SV E Γ 4 (mm (up2 ci 43 0 0) cl cr dy) nx 0 0 22 [(0, .ref 43), (1, .int (nI a)), (2, .int m)] [.int (bI (II 0 8 m))]
    refine sv_if_ne (tgt := 27) hΓ dX12_act_22 (by decide) rfl (fun u4 => ?_) (fun u4 => ?_)
    · replace u4 := bI_ne.mp u4
      have hm8 := u4
      refine sv_iload_n hΓ dX12_act_27 rfl 2 rfl rfl ?_
      refine sv_table (x := m) (lo := 0) (hi := 7) 7 rfl (fun u5 => ?_) (fun k hk u5 => ?_)
      · refine sv_tableOut (pc' := 137) hΓ dX12_act_28 u5 (by decide) ?_
        refine sv_aload_n hΓ dX12_act_137 rfl 0 rfl rfl ?_
        refine sv_iload_n hΓ dX12_act_138 rfl 1 rfl rfl ?_
        refine sv_callV hΓ (fun l => ct_X12_kindOf l a (by omega)) wv_X12_146 vs_X12_kindOf rfl m_43 rfl rfl (by decide) (Nat.le_of_ble_eq_true rfl) (Nat.le_of_ble_eq_true rfl) (Nat.le_of_ble_eq_true rfl) dX12_act_139 rfl (fun r M' nx' p6 => ?_)
        obtain ⟨rfl, rfl, rfl⟩ := p6
        show SV E Γ 4 (mm (up2 ci 43 0 0) cl cr dy) nx 0 0 142 [(0, .ref 43), (1, .int (nI a)), (2, .int m)] [.int (kd ((up2 ci 43 0 0) 44 a))]
        exact sv_iret hΓ hQ dX12_act_142 (Nat.le_of_ble_eq_true rfl) (Nat.le_of_ble_eq_true rfl) (Or.inr ⟨a, 8, ha, rfl, by omega, i_is (by have := hm8.1; have := hm8.2; omega), cl, Or.inl rfl, rfl, rfl, rfl⟩)
      · obtain rfl | rfl | rfl | rfl | rfl | rfl | rfl | rfl : k = 0 ∨ k = 1 ∨ k = 2 ∨ k = 3 ∨ k = 4 ∨ k = 5 ∨ k = 6 ∨ k = 7 := by omega
        · refine sv_tableIn (off := 48) (pc' := 76) hΓ dX12_act_28 (by omega) (by omega) (by rw [u5]; rfl) (by decide) ?_
          replace u5 : m = (0 : Int32) := Int32.toInt_inj.mp (u5.trans (by decide))
          refine sv_aload_n hΓ dX12_act_76 rfl 0 rfl rfl ?_
          refine g_X12_7_43 hΓ dX12_act_77 rfl ?_
          refine sv_iload_n hΓ dX12_act_80 rfl 1 rfl rfl ?_
          refine ai_44 hΓ (a) rfl (by omega) dX12_act_81 rfl ?_
          exact sv_iret hΓ hQ dX12_act_82 (Nat.le_of_ble_eq_true rfl) (Nat.le_of_ble_eq_true rfl) (Or.inr ⟨a, 0, ha, rfl, by omega, u5, cl, Or.inl rfl, rfl, rfl, rfl⟩)
        · refine sv_tableIn (off := 55) (pc' := 83) hΓ dX12_act_28 (by omega) (by omega) (by rw [u5]; rfl) (by decide) ?_
          replace u5 : m = (1 : Int32) := Int32.toInt_inj.mp (u5.trans (by decide))
          refine sv_aload_n hΓ dX12_act_83 rfl 0 rfl rfl ?_
          refine g_X12_13_43 hΓ dX12_act_84 rfl ?_
          refine sv_iload_n hΓ dX12_act_87 rfl 1 rfl rfl ?_
          refine ai_45 hΓ (a) rfl (by omega) dX12_act_88 rfl ?_
          exact sv_iret hΓ hQ dX12_act_89 (Nat.le_of_ble_eq_true rfl) (Nat.le_of_ble_eq_true rfl) (Or.inr ⟨a, 1, ha, rfl, by omega, u5, cl, Or.inl rfl, rfl, rfl, rfl⟩)
        · refine sv_tableIn (off := 62) (pc' := 90) hΓ dX12_act_28 (by omega) (by omega) (by rw [u5]; rfl) (by decide) ?_
          replace u5 : m = (2 : Int32) := Int32.toInt_inj.mp (u5.trans (by decide))
          subst u5
          refine sv_aload_n hΓ dX12_act_90 rfl 0 rfl rfl ?_
          refine g_X12_16_43 hΓ dX12_act_91 rfl ?_
          refine sv_iconst (v := 3) hΓ dX12_act_94 (by decide) rfl ?_
          refine sv_iload_n hΓ dX12_act_95 rfl 1 rfl rfl ?_
          refine sv_imulE (v := nI (3 * a)) hΓ dX12_act_96 (nx_mul rfl rfl) rfl ?_
          refine sv_iload_n hΓ dX12_act_97 rfl 2 rfl rfl ?_
          refine sv_iaddE (v := nI (3 * a + 2)) hΓ dX12_act_98 (nx_add rfl rfl) rfl ?_
          refine sv_iconst (v := 2) hΓ dX12_act_99 (by decide) rfl ?_
          refine sv_isubE (v := nI ((3 * a + 2) - 2)) hΓ dX12_act_100 (nx_sub (a := 3 * a + 2) (b := 2) (by omega)) rfl ?_
          refine ai_46 hΓ ((3 * a + 2) - 2) rfl (by omega) dX12_act_101 rfl ?_
          refine sv_istore_n (lv' := [(3, .int (ci 46 ((3 * a + 2) - 2))), (0, .ref 43), (1, .int (nI a)), (2, .int 2)]) hΓ dX12_act_102 rfl (by decide) rfl rfl ?_
          refine sv_iload_n hΓ dX12_act_103 rfl 0 rfl rfl ?_
          refine sv_if_ge (tgt := 112) hΓ dX12_act_104 (by decide) rfl (fun u7 => ?_) (fun u7 => ?_)
          · replace u7 : 0 ≤ ((ci 46 ((3 * a + 2) - 2)) : Int32) := u7
            refine sv_iload_n hΓ dX12_act_112 rfl 0 rfl rfl ?_
            exact sv_iret hΓ hQ dX12_act_113 (Nat.le_of_ble_eq_true rfl) (Nat.le_of_ble_eq_true rfl) (Or.inr ⟨a, 2, ha, rfl, by omega, rfl, cl, Or.inl rfl, by rw [show acF (up2 ci 43 0 0) cl a 2 = _ from if_pos u7]; try rfl, rfl, rfl⟩)
          · replace u7 : ¬ (0 ≤ ((ci 46 ((3 * a + 2) - 2)) : Int32)) := u7
            refine sv_bipush (v := (-2)) hΓ dX12_act_107 (by decide) rfl ?_
            refine sv_goto (pc' := 113) hΓ dX12_act_109 (by decide) ?_
            exact sv_iret hΓ hQ dX12_act_113 (Nat.le_of_ble_eq_true rfl) (Nat.le_of_ble_eq_true rfl) (Or.inr ⟨a, 2, ha, rfl, by omega, rfl, cl, Or.inl rfl, by rw [show acF (up2 ci 43 0 0) cl a 2 = _ from if_neg u7]; try rfl, rfl, rfl⟩)
        · refine sv_tableIn (off := 62) (pc' := 90) hΓ dX12_act_28 (by omega) (by omega) (by rw [u5]; rfl) (by decide) ?_
          replace u5 : m = (3 : Int32) := Int32.toInt_inj.mp (u5.trans (by decide))
          subst u5
          refine sv_aload_n hΓ dX12_act_90 rfl 0 rfl rfl ?_
          refine g_X12_16_43 hΓ dX12_act_91 rfl ?_
          refine sv_iconst (v := 3) hΓ dX12_act_94 (by decide) rfl ?_
          refine sv_iload_n hΓ dX12_act_95 rfl 1 rfl rfl ?_
          refine sv_imulE (v := nI (3 * a)) hΓ dX12_act_96 (nx_mul rfl rfl) rfl ?_
          refine sv_iload_n hΓ dX12_act_97 rfl 2 rfl rfl ?_
          refine sv_iaddE (v := nI (3 * a + 3)) hΓ dX12_act_98 (nx_add rfl rfl) rfl ?_
          refine sv_iconst (v := 2) hΓ dX12_act_99 (by decide) rfl ?_
          refine sv_isubE (v := nI ((3 * a + 3) - 2)) hΓ dX12_act_100 (nx_sub (a := 3 * a + 3) (b := 2) (by omega)) rfl ?_
          refine ai_46 hΓ ((3 * a + 3) - 2) rfl (by omega) dX12_act_101 rfl ?_
          refine sv_istore_n (lv' := [(3, .int (ci 46 ((3 * a + 3) - 2))), (0, .ref 43), (1, .int (nI a)), (2, .int 3)]) hΓ dX12_act_102 rfl (by decide) rfl rfl ?_
          refine sv_iload_n hΓ dX12_act_103 rfl 0 rfl rfl ?_
          refine sv_if_ge (tgt := 112) hΓ dX12_act_104 (by decide) rfl (fun u8 => ?_) (fun u8 => ?_)
          · replace u8 : 0 ≤ ((ci 46 ((3 * a + 3) - 2)) : Int32) := u8
            refine sv_iload_n hΓ dX12_act_112 rfl 0 rfl rfl ?_
            exact sv_iret hΓ hQ dX12_act_113 (Nat.le_of_ble_eq_true rfl) (Nat.le_of_ble_eq_true rfl) (Or.inr ⟨a, 3, ha, rfl, by omega, rfl, cl, Or.inl rfl, by rw [show acF (up2 ci 43 0 0) cl a 3 = _ from if_pos u8]; try rfl, rfl, rfl⟩)
          · replace u8 : ¬ (0 ≤ ((ci 46 ((3 * a + 3) - 2)) : Int32)) := u8
            refine sv_bipush (v := (-2)) hΓ dX12_act_107 (by decide) rfl ?_
            refine sv_goto (pc' := 113) hΓ dX12_act_109 (by decide) ?_
            exact sv_iret hΓ hQ dX12_act_113 (Nat.le_of_ble_eq_true rfl) (Nat.le_of_ble_eq_true rfl) (Or.inr ⟨a, 3, ha, rfl, by omega, rfl, cl, Or.inl rfl, by rw [show acF (up2 ci 43 0 0) cl a 3 = _ from if_neg u8]; try rfl, rfl, rfl⟩)
        · refine sv_tableIn (off := 62) (pc' := 90) hΓ dX12_act_28 (by omega) (by omega) (by rw [u5]; rfl) (by decide) ?_
          replace u5 : m = (4 : Int32) := Int32.toInt_inj.mp (u5.trans (by decide))
          subst u5
          refine sv_aload_n hΓ dX12_act_90 rfl 0 rfl rfl ?_
          refine g_X12_16_43 hΓ dX12_act_91 rfl ?_
          refine sv_iconst (v := 3) hΓ dX12_act_94 (by decide) rfl ?_
          refine sv_iload_n hΓ dX12_act_95 rfl 1 rfl rfl ?_
          refine sv_imulE (v := nI (3 * a)) hΓ dX12_act_96 (nx_mul rfl rfl) rfl ?_
          refine sv_iload_n hΓ dX12_act_97 rfl 2 rfl rfl ?_
          refine sv_iaddE (v := nI (3 * a + 4)) hΓ dX12_act_98 (nx_add rfl rfl) rfl ?_
          refine sv_iconst (v := 2) hΓ dX12_act_99 (by decide) rfl ?_
          refine sv_isubE (v := nI ((3 * a + 4) - 2)) hΓ dX12_act_100 (nx_sub (a := 3 * a + 4) (b := 2) (by omega)) rfl ?_
          refine ai_46 hΓ ((3 * a + 4) - 2) rfl (by omega) dX12_act_101 rfl ?_
          refine sv_istore_n (lv' := [(3, .int (ci 46 ((3 * a + 4) - 2))), (0, .ref 43), (1, .int (nI a)), (2, .int 4)]) hΓ dX12_act_102 rfl (by decide) rfl rfl ?_
          refine sv_iload_n hΓ dX12_act_103 rfl 0 rfl rfl ?_
          refine sv_if_ge (tgt := 112) hΓ dX12_act_104 (by decide) rfl (fun u9 => ?_) (fun u9 => ?_)
          · replace u9 : 0 ≤ ((ci 46 ((3 * a + 4) - 2)) : Int32) := u9
            refine sv_iload_n hΓ dX12_act_112 rfl 0 rfl rfl ?_
            exact sv_iret hΓ hQ dX12_act_113 (Nat.le_of_ble_eq_true rfl) (Nat.le_of_ble_eq_true rfl) (Or.inr ⟨a, 4, ha, rfl, by omega, rfl, cl, Or.inl rfl, by rw [show acF (up2 ci 43 0 0) cl a 4 = _ from if_pos u9]; try rfl, rfl, rfl⟩)
          · replace u9 : ¬ (0 ≤ ((ci 46 ((3 * a + 4) - 2)) : Int32)) := u9
            refine sv_bipush (v := (-2)) hΓ dX12_act_107 (by decide) rfl ?_
            refine sv_goto (pc' := 113) hΓ dX12_act_109 (by decide) ?_
            exact sv_iret hΓ hQ dX12_act_113 (Nat.le_of_ble_eq_true rfl) (Nat.le_of_ble_eq_true rfl) (Or.inr ⟨a, 4, ha, rfl, by omega, rfl, cl, Or.inl rfl, by rw [show acF (up2 ci 43 0 0) cl a 4 = _ from if_neg u9]; try rfl, rfl, rfl⟩)
        · refine sv_tableIn (off := 86) (pc' := 114) hΓ dX12_act_28 (by omega) (by omega) (by rw [u5]; rfl) (by decide) ?_
          replace u5 : m = (5 : Int32) := Int32.toInt_inj.mp (u5.trans (by decide))
          refine sv_aload_n hΓ dX12_act_114 rfl 0 rfl rfl ?_
          refine g_X12_19_43 hΓ dX12_act_115 rfl ?_
          refine sv_iload_n hΓ dX12_act_118 rfl 1 rfl rfl ?_
          refine ai_47 hΓ (a) rfl (by omega) dX12_act_119 rfl ?_
          exact sv_iret hΓ hQ dX12_act_120 (Nat.le_of_ble_eq_true rfl) (Nat.le_of_ble_eq_true rfl) (Or.inr ⟨a, 5, ha, rfl, by omega, u5, cl, Or.inl rfl, rfl, rfl, rfl⟩)
        · refine sv_tableIn (off := 93) (pc' := 121) hΓ dX12_act_28 (by omega) (by omega) (by rw [u5]; rfl) (by decide) ?_
          replace u5 : m = (6 : Int32) := Int32.toInt_inj.mp (u5.trans (by decide))
          refine sv_aload_n hΓ dX12_act_121 rfl 0 rfl rfl ?_
          refine sv_iload_n hΓ dX12_act_122 rfl 1 rfl rfl ?_
          refine sv_callV hΓ (fun l => ct_X12_lengthOf l a (by omega)) wv_X12_168 vs_X12_lengthOf rfl m_43 rfl rfl (by decide) (Nat.le_of_ble_eq_true rfl) (Nat.le_of_ble_eq_true rfl) (Nat.le_of_ble_eq_true rfl) dX12_act_123 rfl (fun r M' nx' p10 => ?_)
          obtain ⟨rfl, rfl, rfl⟩ := p10
          show SV E Γ 4 (mm (up2 ci 43 0 0) cl cr dy) nx 0 0 126 [(0, .ref 43), (1, .int (nI a)), (2, .int m)] [.int (ln (up2 ci 43 0 0) a)]
          exact sv_iret hΓ hQ dX12_act_126 (Nat.le_of_ble_eq_true rfl) (Nat.le_of_ble_eq_true rfl) (Or.inr ⟨a, 6, ha, rfl, by omega, u5, cl, Or.inl rfl, rfl, rfl, rfl⟩)
        · refine sv_tableIn (off := 99) (pc' := 127) hΓ dX12_act_28 (by omega) (by omega) (by rw [u5]; rfl) (by decide) ?_
          replace u5 : m = (7 : Int32) := Int32.toInt_inj.mp (u5.trans (by decide))
          refine sv_aload_n hΓ dX12_act_127 rfl 0 rfl rfl ?_
          refine sv_callV hΓ (fun l => ct_X12_findSpans l n hn hn6 hwf) wv_X12_171 vs_X12_findSpans rfl m_43 rfl rfl (by decide) (Nat.le_of_ble_eq_true rfl) (Nat.le_of_ble_eq_true rfl) (Nat.le_of_ble_eq_true rfl) dX12_act_128 rfl (fun r M' nx' p11 => ?_)
          obtain ⟨rfl, cs, rfl, fs1, rfl⟩ := p11
          show SV E Γ 4 (mm (up2 ci 43 0 0) cs cr dy) nx 0 0 131 [(0, .ref 43), (1, .int (nI a)), (2, .int m)] []
          refine sv_aload_n hΓ dX12_act_131 rfl 0 rfl rfl ?_
          refine sv_iload_n hΓ dX12_act_132 rfl 1 rfl rfl ?_
          refine sv_callV hΓ (fun l => ct_X12_bitsOf l a (by omega) (fs1.fit ha (hwf a ha))) wv_X12_174 vs_X12_bitsOf rfl m_43 rfl rfl (by decide) (Nat.le_of_ble_eq_true rfl) (Nat.le_of_ble_eq_true rfl) (Nat.le_of_ble_eq_true rfl) dX12_act_133 rfl (fun r M' nx' p12 => ?_)
          obtain ⟨rfl, rfl, rfl⟩ := p12
          show SV E Γ 4 (mm (up2 ci 43 0 0) cs cr dy) nx 0 0 136 [(0, .ref 43), (1, .int (nI a)), (2, .int m)] [.int (nI (btF (cs 61 a) (cs 62 a) 32 1))]
          exact sv_iret hΓ hQ dX12_act_136 (Nat.le_of_ble_eq_true rfl) (Nat.le_of_ble_eq_true rfl) (Or.inr ⟨a, 7, ha, rfl, by omega, u5, cs, Or.inr fs1, rfl, rfl, rfl⟩)
    · replace u4 := bI_0.mp u4
      refine sv_iconst (v := (-1)) hΓ dX12_act_25 (by decide) rfl ?_
      exact sv_iret hΓ hQ dX12_act_26 (Nat.le_of_ble_eq_true rfl) (Nat.le_of_ble_eq_true rfl) (Or.inl ⟨by grind, rfl, rfl, rfl⟩)
set_option maxRecDepth 100000 in
set_option maxHeartbeats 4000000 in
/-- span -/
theorem ct_X12_span {E : aG} (l : Launch) (q : Int32) (z : Int32) (n : Nat) {ci : Nat → Nat → Int32} {cl : Nat → Nat → Int64} {cr : Nat → Nat → Option Nat} {dy : aM} {nx : Nat} (hn : ci 43 1 = nI n) (hn6 : n ≤ 16) (hwf : ∀ i, i < n → WF ci i) : CT E l yX12_span cX12_span 3 (some .long) 3 [.ref 43, .int q, .int z] (mm ci cl cr dy) nx 0 0 (fun r M' nx' => (¬ AI n q ∧ r = some (.long (0)) ∧ M' = mm (up2 ci 43 0 1) cl cr dy ∧ nx = nx') ∨ (∃ a cs, a < n ∧ q = nI a ∧ FSI (up2 ci 43 0 0) cl cs n ∧ r = some (.long (if z = 0 then cs 61 a else cs 62 a)) ∧ M' = mm (up2 ci 43 0 0) cs cr dy ∧ nx = nx')) := by
  refine CT_intro (by decide) (Nat.le_of_ble_eq_true rfl) (fun Γ hΓ hQ => ?_)
  replace hΓ : CK E RX12 cX12_span 3 (some .long) "span" 3 0 0 Γ := hΓ
  show SV E Γ 3 (mm ci cl cr dy) nx 0 0 0 [(0, .ref 43), (1, .int q), (2, .int z)] []
  refine sv_aload_n hΓ dX12_span_0 rfl 0 rfl rfl ?_
  refine sv_aload_n hΓ dX12_span_1 rfl 0 rfl rfl ?_
  refine sv_iload_n hΓ dX12_span_2 rfl 1 rfl rfl ?_
  refine sv_callV hΓ (fun l => ct_X12_isActN l q n hn hn6) wv_X12_132 vs_X12_isAct rfl m_43 rfl rfl (by decide) (Nat.le_of_ble_eq_true rfl) (Nat.le_of_ble_eq_true rfl) (Nat.le_of_ble_eq_true rfl) dX12_span_3 rfl (fun r M' nx' p1 => ?_)
  obtain ⟨rfl, rfl, rfl⟩ := p1
  show SV E Γ 3 (mm ci cl cr dy) nx 0 0 6 [(0, .ref 43), (1, .int q), (2, .int z)] [.int (bI (AI n q)), .ref 43]
  refine sv_if_eq (tgt := 13) hΓ dX12_span_6 (by decide) rfl (fun u2 => ?_) (fun u2 => ?_)
  · replace u2 := bI_0.mp u2
    refine sv_iconst (v := 1) hΓ dX12_span_13 (by decide) rfl ?_
    refine p_X12_99_43 hΓ dX12_span_14 rfl ?_
    refine sv_aload_n hΓ dX12_span_17 rfl 0 rfl rfl ?_
    refine g_X12_99_43 hΓ dX12_span_18 rfl ?_
    show SV E Γ 3 (mm (up2 ci 43 0 1) cl cr dy) nx 0 0 21 [(0, .ref 43), (1, .int q), (2, .int z)] [.int 1]
    refine sv_if_le (tgt := 26) hΓ dX12_span_21 (by decide) rfl (fun u3 => absurd u3 (by decide)) (fun u3 => ?_)
    replace u3 : ¬ ((1 : Int32) ≤ 0) := u3
    refine sv_lconst (v := 0) hΓ dX12_span_24 (by decide) rfl ?_
    exact sv_lret hΓ hQ dX12_span_25 (Nat.le_of_ble_eq_true rfl) (Nat.le_of_ble_eq_true rfl) (Or.inl ⟨u2, rfl, rfl, rfl⟩)
  · replace u2 := bI_ne.mp u2
    obtain ⟨a, ha, eqa⟩ := AI.k u2
    subst eqa
    refine sv_iconst (v := 0) hΓ dX12_span_9 (by decide) rfl ?_
    refine sv_goto (pc' := 14) hΓ dX12_span_10 (by decide) ?_
    refine p_X12_99_43 hΓ dX12_span_14 rfl ?_
    refine sv_aload_n hΓ dX12_span_17 rfl 0 rfl rfl ?_
    refine g_X12_99_43 hΓ dX12_span_18 rfl ?_
    show SV E Γ 3 (mm (up2 ci 43 0 0) cl cr dy) nx 0 0 21 [(0, .ref 43), (1, .int (nI a)), (2, .int z)] [.int 0]
    refine sv_if_le (tgt := 26) hΓ dX12_span_21 (by decide) rfl (fun u4 => ?_) (fun u4 => absurd (by decide) u4)
    replace u4 : (0 : Int32) ≤ 0 := u4
    refine sv_aload_n hΓ dX12_span_26 rfl 0 rfl rfl ?_
    refine sv_callV hΓ (fun l => ct_X12_findSpans l n hn hn6 hwf) wv_X12_171 vs_X12_findSpans rfl m_43 rfl rfl (by decide) (Nat.le_of_ble_eq_true rfl) (Nat.le_of_ble_eq_true rfl) (Nat.le_of_ble_eq_true rfl) dX12_span_27 rfl (fun r M' nx' p5 => ?_)
    obtain ⟨rfl, cs, rfl, fs1, rfl⟩ := p5
    show SV E Γ 3 (mm (up2 ci 43 0 0) cs cr dy) nx 0 0 30 [(0, .ref 43), (1, .int (nI a)), (2, .int z)] []
    refine sv_iload_n hΓ dX12_span_30 rfl 2 rfl rfl ?_
    refine sv_if_eq (tgt := 43) hΓ dX12_span_31 (by decide) rfl (fun u6 => ?_) (fun u6 => ?_)
    · replace u6 : (z : Int32) = 0 := u6
      refine sv_aload_n hΓ dX12_span_43 rfl 0 rfl rfl ?_
      refine g_X12_63_43 hΓ dX12_span_44 rfl ?_
      refine sv_iload_n hΓ dX12_span_47 rfl 1 rfl rfl ?_
      refine al_61 hΓ (a) rfl (by omega) dX12_span_48 rfl ?_
      exact sv_lret hΓ hQ dX12_span_49 (Nat.le_of_ble_eq_true rfl) (Nat.le_of_ble_eq_true rfl) (Or.inr ⟨a, cs, ha, rfl, fs1, by rw [if_pos u6], rfl, rfl⟩)
    · replace u6 : ¬ ((z : Int32) = 0) := u6
      refine sv_aload_n hΓ dX12_span_34 rfl 0 rfl rfl ?_
      refine g_X12_66_43 hΓ dX12_span_35 rfl ?_
      refine sv_iload_n hΓ dX12_span_38 rfl 1 rfl rfl ?_
      refine al_62 hΓ (a) rfl (by omega) dX12_span_39 rfl ?_
      refine sv_goto (pc' := 49) hΓ dX12_span_40 (by decide) ?_
      exact sv_lret hΓ hQ dX12_span_49 (Nat.le_of_ble_eq_true rfl) (Nat.le_of_ble_eq_true rfl) (Or.inr ⟨a, cs, ha, rfl, fs1, by rw [if_neg u6], rfl, rfl⟩)
set_option maxRecDepth 100000 in
set_option maxHeartbeats 4000000 in
/-- needs -/
theorem ct_X12_needs {E : aG} (l : Launch) (x : Int32) (y : Int32) (n : Nat) {ci : Nat → Nat → Int32} {cl : Nat → Nat → Int64} {cr : Nat → Nat → Option Nat} {dy : aM} {nx : Nat} (hn : ci 43 1 = nI n) (hn6 : n ≤ 16) (hwf : ∀ i, i < n → WF ci i) : CT E l yX12_needs cX12_needs 3 (some .int) 3 [.ref 43, .int x, .int y] (mm ci cl cr dy) nx 0 0 (fun r M' nx' => (¬ NDC n x y ∧ r = some (.int (-1)) ∧ M' = mm (up2 ci 43 0 0) cl cr dy ∧ nx = nx') ∨ (∃ a b cs, a < b ∧ b < n ∧ x = nI a ∧ y = nI b ∧ FSI (up2 ci 43 0 0) cl cs n ∧ r = some (.int (nd (up2 ci 43 0 0) cs a b)) ∧ M' = mm (up2 ci 43 0 0) cs cr dy ∧ nx = nx')) := by
  refine CT_intro (by decide) (Nat.le_of_ble_eq_true rfl) (fun Γ hΓ hQ => ?_)
  replace hΓ : CK E RX12 cX12_needs 3 (some .int) "needs" 3 0 0 Γ := hΓ
  show SV E Γ 3 (mm ci cl cr dy) nx 0 0 0 [(0, .ref 43), (1, .int x), (2, .int y)] []
  refine sv_aload_n hΓ dX12_needs_0 rfl 0 rfl rfl ?_
  refine sv_iconst (v := 0) hΓ dX12_needs_1 (by decide) rfl ?_
  refine p_X12_99_43 hΓ dX12_needs_2 rfl ?_
  refine sv_aload_n hΓ dX12_needs_5 rfl 0 rfl rfl ?_
  refine sv_iload_n hΓ dX12_needs_6 rfl 2 rfl rfl ?_
  refine sv_callV hΓ (fun l => ct_X12_isActN l y n hn hn6) wv_X12_132 vs_X12_isAct rfl m_43 rfl rfl (by decide) (Nat.le_of_ble_eq_true rfl) (Nat.le_of_ble_eq_true rfl) (Nat.le_of_ble_eq_true rfl) dX12_needs_7 rfl (fun r M' nx' p1 => ?_)
  obtain ⟨rfl, rfl, rfl⟩ := p1
  show SV E Γ 3 (mm (up2 ci 43 0 0) cl cr dy) nx 0 0 10 [(0, .ref 43), (1, .int x), (2, .int y)] [.int (bI (AI n y))]
  refine sv_if_eq (tgt := 22) hΓ dX12_needs_10 (by decide) rfl (fun u2 => ?_) (fun u2 => ?_)
  · replace u2 := bI_0.mp u2
    refine sv_iconst (v := (-1)) hΓ dX12_needs_22 (by decide) rfl ?_
    exact sv_iret hΓ hQ dX12_needs_23 (Nat.le_of_ble_eq_true rfl) (Nat.le_of_ble_eq_true rfl) (Or.inl ⟨by unfold NDC; grind, rfl, rfl, rfl⟩)
  · replace u2 := bI_ne.mp u2
    refine sv_iload_n hΓ dX12_needs_13 rfl 1 rfl rfl ?_
    refine sv_if_lt (tgt := 22) hΓ dX12_needs_14 (by decide) rfl (fun u3 => ?_) (fun u3 => ?_)
    · replace u3 : (x : Int32) < 0 := u3
      refine sv_iconst (v := (-1)) hΓ dX12_needs_22 (by decide) rfl ?_
      exact sv_iret hΓ hQ dX12_needs_23 (Nat.le_of_ble_eq_true rfl) (Nat.le_of_ble_eq_true rfl) (Or.inl ⟨by unfold NDC; grind, rfl, rfl, rfl⟩)
    · replace u3 : ¬ ((x : Int32) < 0) := u3
      refine sv_iload_n hΓ dX12_needs_17 rfl 1 rfl rfl ?_
      refine sv_iload_n hΓ dX12_needs_18 rfl 2 rfl rfl ?_
      refine sv_icmp_lt (tgt := 24) hΓ dX12_needs_19 (by decide) rfl (fun u4 => ?_) (fun u4 => ?_)
      · replace u4 : (x : Int32) < y := u4
        obtain ⟨a, b, hab, hb, ea, eb⟩ := NDC.k ⟨u2, u3, u4⟩ hn6
        subst ea
        subst eb
        refine sv_aload_n hΓ dX12_needs_24 rfl 0 rfl rfl ?_
        refine sv_callV hΓ (fun l => ct_X12_findSpans l n hn hn6 hwf) wv_X12_171 vs_X12_findSpans rfl m_43 rfl rfl (by decide) (Nat.le_of_ble_eq_true rfl) (Nat.le_of_ble_eq_true rfl) (Nat.le_of_ble_eq_true rfl) dX12_needs_25 rfl (fun r M' nx' p5 => ?_)
        obtain ⟨rfl, cs, rfl, fs1, rfl⟩ := p5
        show SV E Γ 3 (mm (up2 ci 43 0 0) cs cr dy) nx 0 0 28 [(0, .ref 43), (1, .int (nI a)), (2, .int (nI b))] []
        refine sv_aload_n hΓ dX12_needs_28 rfl 0 rfl rfl ?_
        refine sv_iload_n hΓ dX12_needs_29 rfl 1 rfl rfl ?_
        refine sv_iload_n hΓ dX12_needs_30 rfl 2 rfl rfl ?_
        refine sv_callV hΓ (fun l => ct_X12_need l a b (by omega) (by omega) ((hwf _ (by omega)).o (by omega)) ((hwf _ (by omega)).o (by omega))) wv_X12_187 vs_X12_need rfl m_43 rfl rfl (by decide) (Nat.le_of_ble_eq_true rfl) (Nat.le_of_ble_eq_true rfl) (Nat.le_of_ble_eq_true rfl) dX12_needs_31 rfl (fun r M' nx' p6 => ?_)
        obtain ⟨rfl, rfl, rfl⟩ := p6
        show SV E Γ 3 (mm (up2 ci 43 0 0) cs cr dy) nx 0 0 34 [(0, .ref 43), (1, .int (nI a)), (2, .int (nI b))] [.int (nd (up2 ci 43 0 0) cs a b)]
        exact sv_iret hΓ hQ dX12_needs_34 (Nat.le_of_ble_eq_true rfl) (Nat.le_of_ble_eq_true rfl) (Or.inr ⟨a, b, cs, hab, hb, rfl, rfl, fs1, rfl, rfl, rfl⟩)
      · replace u4 : ¬ ((x : Int32) < y) := u4
        refine sv_iconst (v := (-1)) hΓ dX12_needs_22 (by decide) rfl ?_
        exact sv_iret hΓ hQ dX12_needs_23 (Nat.le_of_ble_eq_true rfl) (Nat.le_of_ble_eq_true rfl) (Or.inl ⟨by unfold NDC; grind, rfl, rfl, rfl⟩)
set_option maxRecDepth 100000 in
set_option maxHeartbeats 4000000 in
/-- tick -/
theorem ct_X12_tick {E : aG} (l : Launch) (q : Int32) (m : Int32) (n : Nat) {ci : Nat → Nat → Int32} {cl : Nat → Nat → Int64} {cr : Nat → Nat → Option Nat} {dy : aM} {nx : Nat} (hn : ci 43 1 = nI n) (hn6 : n ≤ 16) (hwf : ∀ i, i < n → WF ci i) : CT E l yX12_tick cX12_tick 3 (some .int) 4 [.ref 43, .int q, .int m] (mm ci cl cr dy) nx 0 0 (fun r M' nx' => (¬ (AI n q ∧ II 0 6 m) ∧ r = some (.int (-1)) ∧ M' = mm (up2 ci 43 0 0) cl cr dy ∧ nx = nx') ∨ ((AI n q ∧ II 0 6 m) ∧ ci 43 13 = 0 ∧ r = some (.int (-3)) ∧ M' = mm (up2 ci 43 0 0) cl cr dy ∧ nx = nx') ∨ (∃ a k cs, a < n ∧ q = nI a ∧ k ≤ 6 ∧ m = nI k ∧ ¬ ci 43 13 = 0 ∧ FSI (up2 ci 43 0 0) cl cs n ∧ r = some (.int (tkF (up2 ci 43 0 0) cs n a k)) ∧ M' = mm (up2 ci 43 0 0) cs cr dy ∧ nx = nx')) := by
  refine CT_intro (by decide) (Nat.le_of_ble_eq_true rfl) (fun Γ hΓ hQ => ?_)
  replace hΓ : CK E RX12 cX12_tick 3 (some .int) "tick" 4 0 0 Γ := hΓ
  show SV E Γ 3 (mm ci cl cr dy) nx 0 0 0 [(0, .ref 43), (1, .int q), (2, .int m)] []
  refine sv_aload_n hΓ dX12_tick_0 rfl 0 rfl rfl ?_
  refine sv_iconst (v := 0) hΓ dX12_tick_1 (by decide) rfl ?_
  refine p_X12_99_43 hΓ dX12_tick_2 rfl ?_
  refine sv_aload_n hΓ dX12_tick_5 rfl 0 rfl rfl ?_
  refine sv_iload_n hΓ dX12_tick_6 rfl 1 rfl rfl ?_
  refine sv_callV hΓ (fun l => ct_X12_isActN l q n hn hn6) wv_X12_132 vs_X12_isAct rfl m_43 rfl rfl (by decide) (Nat.le_of_ble_eq_true rfl) (Nat.le_of_ble_eq_true rfl) (Nat.le_of_ble_eq_true rfl) dX12_tick_7 rfl (fun r M' nx' p1 => ?_)
  obtain ⟨rfl, rfl, rfl⟩ := p1
  show SV E Γ 3 (mm (up2 ci 43 0 0) cl cr dy) nx 0 0 10 [(0, .ref 43), (1, .int q), (2, .int m)] [.int (bI (AI n q))]
  refine sv_if_eq (tgt := 25) hΓ dX12_tick_10 (by decide) rfl (fun u2 => ?_) (fun u2 => ?_)
  · replace u2 := bI_0.mp u2
    refine sv_iconst (v := (-1)) hΓ dX12_tick_25 (by decide) rfl ?_
    exact sv_iret hΓ hQ dX12_tick_26 (Nat.le_of_ble_eq_true rfl) (Nat.le_of_ble_eq_true rfl) (Or.inl ⟨by grind, rfl, rfl, rfl⟩)
  · replace u2 := bI_ne.mp u2
    obtain ⟨a, ha, eqa⟩ := AI.k u2
    subst eqa
    refine sv_iload_n hΓ dX12_tick_13 rfl 2 rfl rfl ?_
    refine sv_i2l hΓ dX12_tick_14 rfl rfl ?_
    refine sv_lconst (v := 0) hΓ dX12_tick_15 (by decide) rfl ?_
    refine sv_ldc2 hΓ dX12_tick_16 tb_1107 rfl ?_
    refine sv_callS hΓ (fun l => ct_X12_isInI l m 0 6 0 6 (by decide) (by decide) rfl rfl) wv_X12_118 tb_1080 rfl rfl (by decide) (Nat.le_of_ble_eq_true rfl) (Nat.le_of_ble_eq_true rfl) (Nat.le_of_ble_eq_true rfl) dX12_tick_19 rfl (fun r M' nx' p3 => ?_)
    obtain ⟨rfl, rfl, rfl⟩ := p3
    show SV E Γ 3 (mm (up2 ci 43 0 0) cl cr dy) nx 0 0 22 [(0, .ref 43), (1, .int (nI a)), (2, .int m)] [.int (bI (II 0 6 m))]
    refine sv_if_ne (tgt := 27) hΓ dX12_tick_22 (by decide) rfl (fun u4 => ?_) (fun u4 => ?_)
    · replace u4 := bI_ne.mp u4
      have hm8 := u4
      refine sv_aload_n hΓ dX12_tick_27 rfl 0 rfl rfl ?_
      refine g_X12_106_43 hΓ dX12_tick_28 rfl ?_
      refine sv_if_ne (tgt := 37) hΓ dX12_tick_31 (by decide) rfl (fun u5 => ?_) (fun u5 => ?_)
      · replace u5 : ¬ ((ci 43 13) : Int32) = 0 := u5
        have hl := u5
        refine sv_aload_n hΓ dX12_tick_37 rfl 0 rfl rfl ?_
        refine sv_callV hΓ (fun l => ct_X12_findSpans l n hn hn6 hwf) wv_X12_171 vs_X12_findSpans rfl m_43 rfl rfl (by decide) (Nat.le_of_ble_eq_true rfl) (Nat.le_of_ble_eq_true rfl) (Nat.le_of_ble_eq_true rfl) dX12_tick_38 rfl (fun r M' nx' p6 => ?_)
        obtain ⟨rfl, cs, rfl, fs1, rfl⟩ := p6
        show SV E Γ 3 (mm (up2 ci 43 0 0) cs cr dy) nx 0 0 41 [(0, .ref 43), (1, .int (nI a)), (2, .int m)] []
        refine sv_iload_n hΓ dX12_tick_41 rfl 2 rfl rfl ?_
        refine sv_table (x := m) (lo := 0) (hi := 5) 5 rfl (fun u7 => ?_) (fun k hk u7 => ?_)
        · refine sv_tableOut (pc' := 147) hΓ dX12_tick_42 u7 (by decide) ?_
          refine sv_aload_n hΓ dX12_tick_147 rfl 0 rfl rfl ?_
          refine sv_iload_n hΓ dX12_tick_148 rfl 1 rfl rfl ?_
          refine sv_callV hΓ (fun l => ct_X12_isUsed l a n (by omega) hn hn6) wv_X12_213 vs_X12_isUsed rfl m_43 rfl rfl (by decide) (Nat.le_of_ble_eq_true rfl) (Nat.le_of_ble_eq_true rfl) (Nat.le_of_ble_eq_true rfl) dX12_tick_149 rfl (fun r M' nx' p8 => ?_)
          obtain ⟨rfl, rfl, rfl⟩ := p8
          show SV E Γ 3 (mm (up2 ci 43 0 0) cs cr dy) nx 0 0 152 [(0, .ref 43), (1, .int (nI a)), (2, .int m)] [.int (bI (usd (up2 ci 43 0 0) n a))]
          refine sv_if_eq (tgt := 163) hΓ dX12_tick_152 (by decide) rfl (fun u9 => ?_) (fun u9 => ?_)
          · replace u9 := bI_0.mp u9
            refine sv_bipush (v := (-2)) hΓ dX12_tick_163 (by decide) rfl ?_
            exact sv_iret hΓ hQ dX12_tick_165 (Nat.le_of_ble_eq_true rfl) (Nat.le_of_ble_eq_true rfl) (Or.inr (Or.inr ⟨a, 6, cs, ha, rfl, by omega, i_is (by have := hm8.1; have := hm8.2; omega), hl, fs1, by rw [show tkF (up2 ci 43 0 0) cs n a 6 = _ from if_neg u9], rfl, rfl⟩))
          · replace u9 := bI_ne.mp u9
            refine sv_aload_n hΓ dX12_tick_155 rfl 0 rfl rfl ?_
            refine sv_iload_n hΓ dX12_tick_156 rfl 1 rfl rfl ?_
            refine sv_callV hΓ (fun l => ct_X12_lifeEnd l a n (by omega) hn hn6) wv_X12_201 vs_X12_lifeEnd rfl m_43 rfl rfl (by decide) (Nat.le_of_ble_eq_true rfl) (Nat.le_of_ble_eq_true rfl) (Nat.le_of_ble_eq_true rfl) dX12_tick_157 rfl (fun r M' nx' p10 => ?_)
            obtain ⟨rfl, rfl, rfl⟩ := p10
            show SV E Γ 3 (mm (up2 ci 43 0 0) cs cr dy) nx 0 0 160 [(0, .ref 43), (1, .int (nI a)), (2, .int m)] [.int (leN (up2 ci 43 0 0) n a)]
            refine sv_goto (pc' := 165) hΓ dX12_tick_160 (by decide) ?_
            exact sv_iret hΓ hQ dX12_tick_165 (Nat.le_of_ble_eq_true rfl) (Nat.le_of_ble_eq_true rfl) (Or.inr (Or.inr ⟨a, 6, cs, ha, rfl, by omega, i_is (by have := hm8.1; have := hm8.2; omega), hl, fs1, by rw [show tkF (up2 ci 43 0 0) cs n a 6 = _ from if_pos u9], rfl, rfl⟩))
        · obtain rfl | rfl | rfl | rfl | rfl | rfl : k = 0 ∨ k = 1 ∨ k = 2 ∨ k = 3 ∨ k = 4 ∨ k = 5 := by omega
          · refine sv_tableIn (off := 38) (pc' := 80) hΓ dX12_tick_42 (by omega) (by omega) (by rw [u7]; rfl) (by decide) ?_
            replace u7 : m = (0 : Int32) := Int32.toInt_inj.mp (u7.trans (by decide))
            refine sv_aload_n hΓ dX12_tick_80 rfl 0 rfl rfl ?_
            refine g_X12_45_43 hΓ dX12_tick_81 rfl ?_
            refine sv_iload_n hΓ dX12_tick_84 rfl 1 rfl rfl ?_
            refine ai_55 hΓ (a) rfl (by omega) dX12_tick_85 rfl ?_
            exact sv_iret hΓ hQ dX12_tick_86 (Nat.le_of_ble_eq_true rfl) (Nat.le_of_ble_eq_true rfl) (Or.inr (Or.inr ⟨a, 0, cs, ha, rfl, by omega, u7, hl, fs1, rfl, rfl, rfl⟩))
          · refine sv_tableIn (off := 45) (pc' := 87) hΓ dX12_tick_42 (by omega) (by omega) (by rw [u7]; rfl) (by decide) ?_
            replace u7 : m = (1 : Int32) := Int32.toInt_inj.mp (u7.trans (by decide))
            refine sv_aload_n hΓ dX12_tick_87 rfl 0 rfl rfl ?_
            refine g_X12_48_43 hΓ dX12_tick_88 rfl ?_
            refine sv_iload_n hΓ dX12_tick_91 rfl 1 rfl rfl ?_
            refine ai_56 hΓ (a) rfl (by omega) dX12_tick_92 rfl ?_
            exact sv_iret hΓ hQ dX12_tick_93 (Nat.le_of_ble_eq_true rfl) (Nat.le_of_ble_eq_true rfl) (Or.inr (Or.inr ⟨a, 1, cs, ha, rfl, by omega, u7, hl, fs1, rfl, rfl, rfl⟩))
          · refine sv_tableIn (off := 52) (pc' := 94) hΓ dX12_tick_42 (by omega) (by omega) (by rw [u7]; rfl) (by decide) ?_
            replace u7 : m = (2 : Int32) := Int32.toInt_inj.mp (u7.trans (by decide))
            refine sv_aload_n hΓ dX12_tick_94 rfl 0 rfl rfl ?_
            refine sv_iload_n hΓ dX12_tick_95 rfl 1 rfl rfl ?_
            refine sv_callV hΓ (fun l => ct_X12_justBehind l a (by omega) (fun i hi => (hwf i (by omega)).o (by omega))) wv_X12_228 vs_X12_justBehind rfl m_43 rfl rfl (by decide) (Nat.le_of_ble_eq_true rfl) (Nat.le_of_ble_eq_true rfl) (Nat.le_of_ble_eq_true rfl) dX12_tick_96 rfl (fun r M' nx' p11 => ?_)
            obtain ⟨rfl, rfl, rfl⟩ := p11
            show SV E Γ 3 (mm (up2 ci 43 0 0) cs cr dy) nx 0 0 99 [(0, .ref 43), (1, .int (nI a)), (2, .int m)] [.int (jbF (up2 ci 43 0 0) cs a a 0)]
            exact sv_iret hΓ hQ dX12_tick_99 (Nat.le_of_ble_eq_true rfl) (Nat.le_of_ble_eq_true rfl) (Or.inr (Or.inr ⟨a, 2, cs, ha, rfl, by omega, u7, hl, fs1, rfl, rfl, rfl⟩))
          · refine sv_tableIn (off := 58) (pc' := 100) hΓ dX12_tick_42 (by omega) (by omega) (by rw [u7]; rfl) (by decide) ?_
            replace u7 : m = (3 : Int32) := Int32.toInt_inj.mp (u7.trans (by decide))
            refine sv_aload_n hΓ dX12_tick_100 rfl 0 rfl rfl ?_
            refine g_X12_45_43 hΓ dX12_tick_101 rfl ?_
            refine sv_iload_n hΓ dX12_tick_104 rfl 1 rfl rfl ?_
            refine ai_55 hΓ (a) rfl (by omega) dX12_tick_105 rfl ?_
            refine sv_aload_n hΓ dX12_tick_106 rfl 0 rfl rfl ?_
            refine g_X12_69_43 hΓ dX12_tick_107 rfl ?_
            refine sv_iload_n hΓ dX12_tick_110 rfl 1 rfl rfl ?_
            refine ai_63 hΓ (a) rfl (by omega) dX12_tick_111 rfl ?_
            refine sv_icmp_le (tgt := 119) hΓ dX12_tick_112 (by decide) rfl (fun u12 => ?_) (fun u12 => ?_)
            · replace u12 : ((ci 55 a) : Int32) ≤ (ci 63 a) := u12
              refine sv_iconst (v := 0) hΓ dX12_tick_119 (by decide) rfl ?_
              exact sv_iret hΓ hQ dX12_tick_120 (Nat.le_of_ble_eq_true rfl) (Nat.le_of_ble_eq_true rfl) (Or.inr (Or.inr ⟨a, 3, cs, ha, rfl, by omega, u7, hl, fs1, by rw [show tkF (up2 ci 43 0 0) cs n a 3 = _ from if_pos u12], rfl, rfl⟩))
            · replace u12 : ¬ (((ci 55 a) : Int32) ≤ (ci 63 a)) := u12
              refine sv_iconst (v := 1) hΓ dX12_tick_115 (by decide) rfl ?_
              refine sv_goto (pc' := 120) hΓ dX12_tick_116 (by decide) ?_
              exact sv_iret hΓ hQ dX12_tick_120 (Nat.le_of_ble_eq_true rfl) (Nat.le_of_ble_eq_true rfl) (Or.inr (Or.inr ⟨a, 3, cs, ha, rfl, by omega, u7, hl, fs1, by rw [show tkF (up2 ci 43 0 0) cs n a 3 = _ from if_neg u12], rfl, rfl⟩))
          · refine sv_tableIn (off := 79) (pc' := 121) hΓ dX12_tick_42 (by omega) (by omega) (by rw [u7]; rfl) (by decide) ?_
            replace u7 : m = (4 : Int32) := Int32.toInt_inj.mp (u7.trans (by decide))
            refine sv_aload_n hΓ dX12_tick_121 rfl 0 rfl rfl ?_
            refine g_X12_51_43 hΓ dX12_tick_122 rfl ?_
            refine sv_iload_n hΓ dX12_tick_125 rfl 1 rfl rfl ?_
            refine ai_57 hΓ (a) rfl (by omega) dX12_tick_126 rfl ?_
            exact sv_iret hΓ hQ dX12_tick_127 (Nat.le_of_ble_eq_true rfl) (Nat.le_of_ble_eq_true rfl) (Or.inr (Or.inr ⟨a, 4, cs, ha, rfl, by omega, u7, hl, fs1, rfl, rfl, rfl⟩))
          · refine sv_tableIn (off := 86) (pc' := 128) hΓ dX12_tick_42 (by omega) (by omega) (by rw [u7]; rfl) (by decide) ?_
            replace u7 : m = (5 : Int32) := Int32.toInt_inj.mp (u7.trans (by decide))
            refine sv_aload_n hΓ dX12_tick_128 rfl 0 rfl rfl ?_
            refine sv_iload_n hΓ dX12_tick_129 rfl 1 rfl rfl ?_
            refine sv_callV hΓ (fun l => ct_X12_isUsed l a n (by omega) hn hn6) wv_X12_213 vs_X12_isUsed rfl m_43 rfl rfl (by decide) (Nat.le_of_ble_eq_true rfl) (Nat.le_of_ble_eq_true rfl) (Nat.le_of_ble_eq_true rfl) dX12_tick_130 rfl (fun r M' nx' p13 => ?_)
            obtain ⟨rfl, rfl, rfl⟩ := p13
            show SV E Γ 3 (mm (up2 ci 43 0 0) cs cr dy) nx 0 0 133 [(0, .ref 43), (1, .int (nI a)), (2, .int m)] [.int (bI (usd (up2 ci 43 0 0) n a))]
            refine sv_if_eq (tgt := 144) hΓ dX12_tick_133 (by decide) rfl (fun u14 => ?_) (fun u14 => ?_)
            · replace u14 := bI_0.mp u14
              refine sv_bipush (v := (-2)) hΓ dX12_tick_144 (by decide) rfl ?_
              exact sv_iret hΓ hQ dX12_tick_146 (Nat.le_of_ble_eq_true rfl) (Nat.le_of_ble_eq_true rfl) (Or.inr (Or.inr ⟨a, 5, cs, ha, rfl, by omega, u7, hl, fs1, by rw [show tkF (up2 ci 43 0 0) cs n a 5 = _ from if_neg u14], rfl, rfl⟩))
            · replace u14 := bI_ne.mp u14
              refine sv_aload_n hΓ dX12_tick_136 rfl 0 rfl rfl ?_
              refine sv_iload_n hΓ dX12_tick_137 rfl 1 rfl rfl ?_
              refine sv_callV hΓ (fun l => ct_X12_lifeBegin l a (by omega)) wv_X12_198 vs_X12_lifeBegin rfl m_43 rfl rfl (by decide) (Nat.le_of_ble_eq_true rfl) (Nat.le_of_ble_eq_true rfl) (Nat.le_of_ble_eq_true rfl) dX12_tick_138 rfl (fun r M' nx' p15 => ?_)
              obtain ⟨rfl, rfl, rfl⟩ := p15
              show SV E Γ 3 (mm (up2 ci 43 0 0) cs cr dy) nx 0 0 141 [(0, .ref 43), (1, .int (nI a)), (2, .int m)] [.int ((up2 ci 43 0 0) 55 a + ln (up2 ci 43 0 0) a)]
              refine sv_goto (pc' := 146) hΓ dX12_tick_141 (by decide) ?_
              exact sv_iret hΓ hQ dX12_tick_146 (Nat.le_of_ble_eq_true rfl) (Nat.le_of_ble_eq_true rfl) (Or.inr (Or.inr ⟨a, 5, cs, ha, rfl, by omega, u7, hl, fs1, by rw [show tkF (up2 ci 43 0 0) cs n a 5 = _ from if_pos u14], rfl, rfl⟩))
      · replace u5 : ((ci 43 13) : Int32) = 0 := u5
        refine sv_bipush (v := (-3)) hΓ dX12_tick_34 (by decide) rfl ?_
        exact sv_iret hΓ hQ dX12_tick_36 (Nat.le_of_ble_eq_true rfl) (Nat.le_of_ble_eq_true rfl) (Or.inr (Or.inl ⟨⟨(AI_nI (by omega)).mpr ha, hm8⟩, u5, rfl, rfl, rfl⟩))
    · replace u4 := bI_0.mp u4
      refine sv_iconst (v := (-1)) hΓ dX12_tick_25 (by decide) rfl ?_
      exact sv_iret hΓ hQ dX12_tick_26 (Nat.le_of_ble_eq_true rfl) (Nat.le_of_ble_eq_true rfl) (Or.inl ⟨by grind, rfl, rfl, rfl⟩)
set_option maxRecDepth 100000 in
set_option maxHeartbeats 4000000 in
/-- freeTicks -/
theorem ct_X12_freeTicks {E : aG} (l : Launch) (n : Nat) {ci : Nat → Nat → Int32} {cl : Nat → Nat → Int64} {cr : Nat → Nat → Option Nat} {dy : aM} {nx : Nat} (hn : ci 43 1 = nI n) (hn6 : n ≤ 16) (hwf : ∀ i, i < n → WF ci i) : CT E l yX12_freeTicks cX12_freeTicks 3 (some .int) 4 [.ref 43] (mm ci cl cr dy) nx 0 0 (fun r M' nx' => ∃ cs c', FSI ci cl cs n ∧ smB ci c' ∧ r = some (.int (ftA (kpC ci n) cs n)) ∧ M' = mm c' cs cr dy ∧ nx = nx') := by
  refine CT_intro (by decide) (Nat.le_of_ble_eq_true rfl) (fun Γ hΓ hQ => ?_)
  replace hΓ : CK E RX12 cX12_freeTicks 3 (some .int) "freeTicks" 4 0 0 Γ := hΓ
  show SV E Γ 3 (mm ci cl cr dy) nx 0 0 0 [(0, .ref 43)] []
  refine sv_aload_n hΓ dX12_freeTicks_0 rfl 0 rfl rfl ?_
  refine sv_callV hΓ (fun l => ct_X12_findSpans l n hn hn6 hwf) wv_X12_171 vs_X12_findSpans rfl m_43 rfl rfl (by decide) (Nat.le_of_ble_eq_true rfl) (Nat.le_of_ble_eq_true rfl) (Nat.le_of_ble_eq_true rfl) dX12_freeTicks_1 rfl (fun r M' nx' p1 => ?_)
  obtain ⟨rfl, cs, rfl, fs1, rfl⟩ := p1
  show SV E Γ 3 (mm ci cs cr dy) nx 0 0 4 [(0, .ref 43)] []
  have HK : ∀ a, kpC ci a 43 1 = nI n := fun a => by rw [kpC_k ci (by decide)]; exact hn
  have HF : ∀ a, ftC (kpC ci n) cs a 43 1 = nI n := fun a => by rw [ftC_k _ cs (by decide)]; exact HK n
  have HR : ∀ a, rsC (ftC (kpC ci n) cs n) a 43 1 = nI n := fun a => by rw [rsC_k _ (by decide)]; exact HF n
  refine sv_iconst (v := 0) hΓ dX12_freeTicks_4 (by decide) rfl ?_
  refine sv_istore_n (lv' := [(1, .int 0), (0, .ref 43)]) hΓ dX12_freeTicks_5 rfl (by decide) rfl rfl ?_
  refine sv_iconst (v := 0) hΓ dX12_freeTicks_6 (by decide) rfl ?_
  refine sv_istore_n (lv' := [(2, .int 0), (1, .int 0), (0, .ref 43)]) hΓ dX12_freeTicks_7 rfl (by decide) rfl rfl ?_
  have LP8 : ∀ kq a : Nat, a + kq = n → SV E Γ 3 (mm (kpC ci a) cs cr dy) nx 0 0 8 [(2, .int (nI a)), (1, .int 0), (0, .ref 43)] [] := by
    intro kq
    induction kq with
    | zero =>
      intro a ha
      have ea : a = n := by omega
      obtain rfl : n = a := by omega
      refine sv_iload_n hΓ dX12_freeTicks_8 rfl 0 rfl rfl ?_
      refine sv_aload_n hΓ dX12_freeTicks_9 rfl 2 rfl rfl ?_
      refine g_X12_103_43 hΓ dX12_freeTicks_10 rfl ?_
      refine sv_icmp_ge (tgt := 34) hΓ dX12_freeTicks_13 (by decide) rfl (fun u2 => ?_) (fun u2 => absurd (by rw [HK]; exact nI_le (by omega) (by omega)) u2)
      replace u2 : ((kpC ci n) 43 1) ≤ ((nI n) : Int32) := u2
      refine sv_iconst (v := 0) hΓ dX12_freeTicks_34 (by decide) rfl ?_
      refine sv_istore_n (lv' := [(2, .int 0), (1, .int 0), (0, .ref 43)]) hΓ dX12_freeTicks_35 rfl (by decide) rfl rfl ?_
      have LP36 : ∀ kq b : Nat, b + kq = n → SV E Γ 3 (mm (ftC (kpC ci n) cs b) cs cr dy) nx 0 0 36 [(2, .int (nI b)), (1, .int (ftA (kpC ci n) cs b)), (0, .ref 43)] [] := by
        intro kq
        induction kq with
        | zero =>
          intro b ha
          have ea : b = n := by omega
          obtain rfl : n = b := by omega
          refine sv_iload_n hΓ dX12_freeTicks_36 rfl 0 rfl rfl ?_
          refine sv_aload_n hΓ dX12_freeTicks_37 rfl 2 rfl rfl ?_
          refine g_X12_103_43 hΓ dX12_freeTicks_38 rfl ?_
          refine sv_icmp_ge (tgt := 94) hΓ dX12_freeTicks_41 (by decide) rfl (fun u3 => ?_) (fun u3 => absurd (by rw [HF]; exact nI_le (by omega) (by omega)) u3)
          replace u3 : ((ftC (kpC ci n) cs n) 43 1) ≤ ((nI n) : Int32) := u3
          refine sv_iconst (v := 0) hΓ dX12_freeTicks_94 (by decide) rfl ?_
          refine sv_istore_n (lv' := [(2, .int 0), (1, .int (ftA (kpC ci n) cs n)), (0, .ref 43)]) hΓ dX12_freeTicks_95 rfl (by decide) rfl rfl ?_
          have LP96 : ∀ kq a : Nat, a + kq = n → SV E Γ 3 (mm (rsC (ftC (kpC ci n) cs n) a) cs cr dy) nx 0 0 96 [(2, .int (nI a)), (1, .int (ftA (kpC ci n) cs n)), (0, .ref 43)] [] := by
            intro kq
            induction kq with
            | zero =>
              intro a ha
              have ea : a = n := by omega
              obtain rfl : n = a := by omega
              refine sv_iload_n hΓ dX12_freeTicks_96 rfl 0 rfl rfl ?_
              refine sv_aload_n hΓ dX12_freeTicks_97 rfl 2 rfl rfl ?_
              refine g_X12_103_43 hΓ dX12_freeTicks_98 rfl ?_
              refine sv_icmp_ge (tgt := 122) hΓ dX12_freeTicks_101 (by decide) rfl (fun u4 => ?_) (fun u4 => absurd (by rw [HR]; exact nI_le (by omega) (by omega)) u4)
              replace u4 : ((rsC (ftC (kpC ci n) cs n) n) 43 1) ≤ ((nI n) : Int32) := u4
              refine sv_iload_n hΓ dX12_freeTicks_122 rfl 1 rfl rfl ?_
              exact sv_iret hΓ hQ dX12_freeTicks_123 (Nat.le_of_ble_eq_true rfl) (Nat.le_of_ble_eq_true rfl) ⟨cs, _, fs1, fr_sm ci cs n, rfl, rfl, rfl⟩
            | succ kq ih =>
              intro a ha
              refine sv_iload_n hΓ dX12_freeTicks_96 rfl 0 rfl rfl ?_
              refine sv_aload_n hΓ dX12_freeTicks_97 rfl 2 rfl rfl ?_
              refine g_X12_103_43 hΓ dX12_freeTicks_98 rfl ?_
              refine sv_icmp_ge (tgt := 122) hΓ dX12_freeTicks_101 (by decide) rfl (fun u5 => absurd u5 (by rw [HR]; exact nI_ge (by omega) (by omega))) (fun u5 => ?_)
              replace u5 : ¬ (((rsC (ftC (kpC ci n) cs n) a) 43 1) ≤ ((nI a) : Int32)) := u5
              refine sv_aload_n hΓ dX12_freeTicks_104 rfl 2 rfl rfl ?_
              refine g_X12_45_43 hΓ dX12_freeTicks_105 rfl ?_
              refine sv_iload_n hΓ dX12_freeTicks_108 rfl 0 rfl rfl ?_
              refine sv_aload_n hΓ dX12_freeTicks_109 rfl 2 rfl rfl ?_
              refine g_X12_72_43 hΓ dX12_freeTicks_110 rfl ?_
              refine sv_iload_n hΓ dX12_freeTicks_113 rfl 0 rfl rfl ?_
              refine ai_64 hΓ (a) rfl (by omega) dX12_freeTicks_114 rfl ?_
              refine as_55 hΓ (a) rfl (by omega) dX12_freeTicks_115 rfl ?_
              refine sv_iinc (v := nI (a + 1)) (lv' := [(2, .int (nI (a + 1))), (1, .int (ftA (kpC ci n) cs n)), (0, .ref 43)]) hΓ dX12_freeTicks_116 0 rfl (nx_inc rfl) (by decide) rfl rfl ?_
              refine sv_goto (pc' := 96) hΓ dX12_freeTicks_119 (by decide) ?_
              have q := ih (a + 1) (by omega)
              exact SV_lv [0, 1, 2] rfl q
          exact SV_lv [0, 1, 2] rfl (LP96 n 0 (by omega))
        | succ kq ih =>
          intro b ha
          refine sv_iload_n hΓ dX12_freeTicks_36 rfl 0 rfl rfl ?_
          refine sv_aload_n hΓ dX12_freeTicks_37 rfl 2 rfl rfl ?_
          refine g_X12_103_43 hΓ dX12_freeTicks_38 rfl ?_
          refine sv_icmp_ge (tgt := 94) hΓ dX12_freeTicks_41 (by decide) rfl (fun u6 => absurd u6 (by rw [HF]; exact nI_ge (by omega) (by omega))) (fun u6 => ?_)
          replace u6 : ¬ (((ftC (kpC ci n) cs b) 43 1) ≤ ((nI b) : Int32)) := u6
          refine sv_aload_n hΓ dX12_freeTicks_44 rfl 2 rfl rfl ?_
          refine g_X12_45_43 hΓ dX12_freeTicks_45 rfl ?_
          refine sv_iload_n hΓ dX12_freeTicks_48 rfl 0 rfl rfl ?_
          refine sv_aload_n hΓ dX12_freeTicks_49 rfl 2 rfl rfl ?_
          refine sv_iload_n hΓ dX12_freeTicks_50 rfl 0 rfl rfl ?_
          refine sv_callV hΓ (fun l => ct_X12_askedFor l b (by omega) (fun i hi => by rw [ftC_k _ cs (by decide), ftC_k _ cs (by decide), kpC_k ci (by decide), kpC_k ci (by decide)]; exact (hwf i (by omega)).o (by omega))) wv_X12_219 vs_X12_askedFor rfl m_43 rfl rfl (by decide) (Nat.le_of_ble_eq_true rfl) (Nat.le_of_ble_eq_true rfl) (Nat.le_of_ble_eq_true rfl) dX12_freeTicks_51 rfl (fun r M' nx' p7 => ?_)
          obtain ⟨rfl, rfl, rfl⟩ := p7
          show SV E Γ 3 (mm (ftC (kpC ci n) cs b) cs cr dy) nx 0 0 54 [(2, .int (nI b)), (1, .int (ftA (kpC ci n) cs b)), (0, .ref 43)] [.int (askF (ftC (kpC ci n) cs b) cs b b), .int (nI b), .ref 55]
          refine as_55 hΓ (b) rfl (by omega) dX12_freeTicks_54 rfl ?_
          refine sv_aload_n hΓ dX12_freeTicks_55 rfl 2 rfl rfl ?_
          refine g_X12_45_43 hΓ dX12_freeTicks_56 rfl ?_
          refine sv_iload_n hΓ dX12_freeTicks_59 rfl 0 rfl rfl ?_
          refine ai_55 hΓ (b) rfl (by omega) dX12_freeTicks_60 rfl ?_
          show SV E Γ 3 (mm (up2 (ftC (kpC ci n) cs b) 55 b (askF (ftC (kpC ci n) cs b) cs b b)) cs cr dy) nx 0 0 61 [(2, .int (nI b)), (1, .int (ftA (kpC ci n) cs b)), (0, .ref 43)] [.int ((up2 (ftC (kpC ci n) cs b) 55 b (askF (ftC (kpC ci n) cs b) cs b b)) 55 b)]
          rw [up2_s]
          refine sv_aload_n hΓ dX12_freeTicks_61 rfl 2 rfl rfl ?_
          refine sv_iload_n hΓ dX12_freeTicks_62 rfl 0 rfl rfl ?_
          refine sv_callV hΓ (fun l => ct_X12_lengthOf l b (by omega)) wv_X12_168 vs_X12_lengthOf rfl m_43 rfl rfl (by decide) (Nat.le_of_ble_eq_true rfl) (Nat.le_of_ble_eq_true rfl) (Nat.le_of_ble_eq_true rfl) dX12_freeTicks_63 rfl (fun r M' nx' p8 => ?_)
          obtain ⟨rfl, rfl, rfl⟩ := p8
          show SV E Γ 3 (mm (up2 (ftC (kpC ci n) cs b) 55 b (askF (ftC (kpC ci n) cs b) cs b b)) cs cr dy) nx 0 0 66 [(2, .int (nI b)), (1, .int (ftA (kpC ci n) cs b)), (0, .ref 43)] [.int (ln (up2 (ftC (kpC ci n) cs b) 55 b (askF (ftC (kpC ci n) cs b) cs b b)) b), .int (askF (ftC (kpC ci n) cs b) cs b b)]
          refine sv_iadd hΓ dX12_freeTicks_66 rfl ?_
          refine sv_iload_n hΓ dX12_freeTicks_67 rfl 1 rfl rfl ?_
          refine sv_icmp_le (tgt := 86) hΓ dX12_freeTicks_68 (by decide) rfl (fun u9 => ?_) (fun u9 => ?_)
          · replace u9 : (((askF (ftC (kpC ci n) cs b) cs b b) + (ln (up2 (ftC (kpC ci n) cs b) 55 b (askF (ftC (kpC ci n) cs b) cs b b)) b)) : Int32) ≤ (ftA (kpC ci n) cs b) := u9
            refine sv_iload_n hΓ dX12_freeTicks_86 rfl 1 rfl rfl ?_
            refine sv_istore_n (lv' := [(1, .int (ftA (kpC ci n) cs b)), (2, .int (nI b)), (0, .ref 43)]) hΓ dX12_freeTicks_87 rfl (by decide) rfl rfl ?_
            refine sv_iinc (v := nI (b + 1)) (lv' := [(2, .int (nI (b + 1))), (1, .int (ftA (kpC ci n) cs b)), (0, .ref 43)]) hΓ dX12_freeTicks_88 1 rfl (nx_inc rfl) (by decide) rfl rfl ?_
            refine sv_goto (pc' := 36) hΓ dX12_freeTicks_91 (by decide) ?_
            have q := ih (b + 1) (by omega)
            rw [show ftA (kpC ci n) cs (b + 1) = ftA (kpC ci n) cs b from if_pos u9] at q
            exact SV_lv [0, 1, 2] rfl q
          · replace u9 : ¬ ((((askF (ftC (kpC ci n) cs b) cs b b) + (ln (up2 (ftC (kpC ci n) cs b) 55 b (askF (ftC (kpC ci n) cs b) cs b b)) b)) : Int32) ≤ (ftA (kpC ci n) cs b)) := u9
            refine sv_aload_n hΓ dX12_freeTicks_71 rfl 2 rfl rfl ?_
            refine g_X12_45_43 hΓ dX12_freeTicks_72 rfl ?_
            refine sv_iload_n hΓ dX12_freeTicks_75 rfl 0 rfl rfl ?_
            refine ai_55 hΓ (b) rfl (by omega) dX12_freeTicks_76 rfl ?_
            show SV E Γ 3 (mm (up2 (ftC (kpC ci n) cs b) 55 b (askF (ftC (kpC ci n) cs b) cs b b)) cs cr dy) nx 0 0 77 [(2, .int (nI b)), (1, .int (ftA (kpC ci n) cs b)), (0, .ref 43)] [.int ((up2 (ftC (kpC ci n) cs b) 55 b (askF (ftC (kpC ci n) cs b) cs b b)) 55 b)]
            rw [up2_s]
            refine sv_aload_n hΓ dX12_freeTicks_77 rfl 2 rfl rfl ?_
            refine sv_iload_n hΓ dX12_freeTicks_78 rfl 0 rfl rfl ?_
            refine sv_callV hΓ (fun l => ct_X12_lengthOf l b (by omega)) wv_X12_168 vs_X12_lengthOf rfl m_43 rfl rfl (by decide) (Nat.le_of_ble_eq_true rfl) (Nat.le_of_ble_eq_true rfl) (Nat.le_of_ble_eq_true rfl) dX12_freeTicks_79 rfl (fun r M' nx' p10 => ?_)
            obtain ⟨rfl, rfl, rfl⟩ := p10
            show SV E Γ 3 (mm (up2 (ftC (kpC ci n) cs b) 55 b (askF (ftC (kpC ci n) cs b) cs b b)) cs cr dy) nx 0 0 82 [(2, .int (nI b)), (1, .int (ftA (kpC ci n) cs b)), (0, .ref 43)] [.int (ln (up2 (ftC (kpC ci n) cs b) 55 b (askF (ftC (kpC ci n) cs b) cs b b)) b), .int (askF (ftC (kpC ci n) cs b) cs b b)]
            refine sv_iadd hΓ dX12_freeTicks_82 rfl ?_
            refine sv_goto (pc' := 87) hΓ dX12_freeTicks_83 (by decide) ?_
            refine sv_istore_n (lv' := [(1, .int ((askF (ftC (kpC ci n) cs b) cs b b) + (ln (up2 (ftC (kpC ci n) cs b) 55 b (askF (ftC (kpC ci n) cs b) cs b b)) b))), (2, .int (nI b)), (0, .ref 43)]) hΓ dX12_freeTicks_87 rfl (by decide) rfl rfl ?_
            refine sv_iinc (v := nI (b + 1)) (lv' := [(2, .int (nI (b + 1))), (1, .int ((askF (ftC (kpC ci n) cs b) cs b b) + (ln (up2 (ftC (kpC ci n) cs b) 55 b (askF (ftC (kpC ci n) cs b) cs b b)) b))), (0, .ref 43)]) hΓ dX12_freeTicks_88 1 rfl (nx_inc rfl) (by decide) rfl rfl ?_
            refine sv_goto (pc' := 36) hΓ dX12_freeTicks_91 (by decide) ?_
            have q := ih (b + 1) (by omega)
            rw [show ftA (kpC ci n) cs (b + 1) = (askF (ftC (kpC ci n) cs b) cs b b) + (ln (up2 (ftC (kpC ci n) cs b) 55 b (askF (ftC (kpC ci n) cs b) cs b b)) b) from if_neg u9] at q
            exact SV_lv [0, 1, 2] rfl q
      exact SV_lv [0, 1, 2] rfl (LP36 n 0 (by omega))
    | succ kq ih =>
      intro a ha
      refine sv_iload_n hΓ dX12_freeTicks_8 rfl 0 rfl rfl ?_
      refine sv_aload_n hΓ dX12_freeTicks_9 rfl 2 rfl rfl ?_
      refine g_X12_103_43 hΓ dX12_freeTicks_10 rfl ?_
      refine sv_icmp_ge (tgt := 34) hΓ dX12_freeTicks_13 (by decide) rfl (fun u11 => absurd u11 (by rw [HK]; exact nI_ge (by omega) (by omega))) (fun u11 => ?_)
      replace u11 : ¬ (((kpC ci a) 43 1) ≤ ((nI a) : Int32)) := u11
      refine sv_aload_n hΓ dX12_freeTicks_16 rfl 2 rfl rfl ?_
      refine g_X12_72_43 hΓ dX12_freeTicks_17 rfl ?_
      refine sv_iload_n hΓ dX12_freeTicks_20 rfl 0 rfl rfl ?_
      refine sv_aload_n hΓ dX12_freeTicks_21 rfl 2 rfl rfl ?_
      refine g_X12_45_43 hΓ dX12_freeTicks_22 rfl ?_
      refine sv_iload_n hΓ dX12_freeTicks_25 rfl 0 rfl rfl ?_
      refine ai_55 hΓ (a) rfl (by omega) dX12_freeTicks_26 rfl ?_
      refine as_64 hΓ (a) rfl (by omega) dX12_freeTicks_27 rfl ?_
      refine sv_iinc (v := nI (a + 1)) (lv' := [(2, .int (nI (a + 1))), (1, .int 0), (0, .ref 43)]) hΓ dX12_freeTicks_28 0 rfl (nx_inc rfl) (by decide) rfl rfl ?_
      refine sv_goto (pc' := 8) hΓ dX12_freeTicks_31 (by decide) ?_
      have q := ih (a + 1) (by omega)
      exact SV_lv [0, 1, 2] rfl q
  exact SV_lv [0, 1, 2] rfl (LP8 n 0 (by omega))
