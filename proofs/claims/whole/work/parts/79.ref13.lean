/-! act and bound of the reference, telling when the spans were found -/
set_option maxRecDepth 100000 in
set_option maxHeartbeats 4000000 in
theorem ct_X12_act2 {E : aG} (l : Launch) (q : Int32) (m : Int32) (n : Nat) {ci : Nat → Nat → Int32} {cl : Nat → Nat → Int64} {cr : Nat → Nat → Option Nat} {dy : aM} {nx : Nat} (hn : ci 43 1 = nI n) (hn6 : n ≤ 16) (hwf : ∀ i, i < n → WF ci i) : CT E l yX12_act cX12_act 4 (some .int) 3 [.ref 43, .int q, .int m] (mm ci cl cr dy) nx 0 0 (fun r M' nx' => (¬ (AI n q ∧ II 0 8 m) ∧ r = some (.int (-1)) ∧ M' = mm (up2 ci 43 0 0) cl cr dy ∧ nx = nx') ∨ (∃ a k, a < n ∧ q = nI a ∧ k ≤ 8 ∧ m = nI k ∧ ∃ cs, ((¬ k = 7 ∧ cs = cl) ∨ FSI (up2 ci 43 0 0) cl cs n) ∧ r = some (.int (acF (up2 ci 43 0 0) cs a k)) ∧ M' = mm (up2 ci 43 0 0) cs cr dy ∧ nx = nx')) := by
  refine CT_intro (by decide) (Nat.le_of_ble_eq_true rfl) (fun Γ hΓ hQ => ?_)
  replace hΓ : CK E RX12 cX12_act 4 (some .int) "act" 3 0 0 Γ := hΓ
  show SV E Γ 4 (mm ci cl cr dy) nx 0 0 0 [(0, .ref 43), (1, .int q), (2, .int m)] []
  refine sv_aload_n hΓ dX12_act_0 rfl 0 rfl rfl ?_
  refine sv_iconst (v := 0) hΓ dX12_act_1 (by decide) rfl ?_
  refine p_X12_99_43 hΓ dX12_act_2 rfl ?_
  refine sv_aload_n hΓ dX12_act_5 rfl 0 rfl rfl ?_
  refine sv_iload_n hΓ dX12_act_6 rfl 1 rfl rfl ?_
  refine sv_callV hΓ (fun l => ct_X12_isActN l q n hn hn6) wv_X12_132 vs_X12_isAct rfl m_43 rfl rfl (by decide) (Nat.le_of_ble_eq_true rfl) (Nat.le_of_ble_eq_true rfl) (Nat.le_of_ble_eq_true rfl) dX12_act_7 rfl (fun r M' nx' p1 => ?_)
  obtain ⟨rfl, rfl, rfl⟩ := p1
  show SV E Γ 4 (mm (up2 ci 43 0 0) cl cr dy) nx 0 0 10 [(0, .ref 43), (1, .int q), (2, .int m)] [.int (bI (AI n q))]
  refine sv_if_eq (tgt := 25) hΓ dX12_act_10 (by decide) rfl (fun u2 => ?_) (fun u2 => ?_)
  · replace u2 := bI_0.mp u2
    refine sv_iconst (v := (-1)) hΓ dX12_act_25 (by decide) rfl ?_
    exact sv_iret hΓ hQ dX12_act_26 (Nat.le_of_ble_eq_true rfl) (Nat.le_of_ble_eq_true rfl) (Or.inl ⟨by grind, rfl, rfl, rfl⟩)
  · replace u2 := bI_ne.mp u2
    obtain ⟨a, ha, eqa⟩ := AI.k u2
    subst eqa
    refine sv_iload_n hΓ dX12_act_13 rfl 2 rfl rfl ?_
    refine sv_i2l hΓ dX12_act_14 rfl rfl ?_
    refine sv_lconst (v := 0) hΓ dX12_act_15 (by decide) rfl ?_
    refine sv_ldc2 hΓ dX12_act_16 tb_1129 rfl ?_
    refine sv_callS hΓ (fun l => ct_X12_isInI l m 0 8 0 8 (by decide) (by decide) rfl rfl) wv_X12_118 tb_1080 rfl rfl (by decide) (Nat.le_of_ble_eq_true rfl) (Nat.le_of_ble_eq_true rfl) (Nat.le_of_ble_eq_true rfl) dX12_act_19 rfl (fun r M' nx' p3 => ?_)
    obtain ⟨rfl, rfl, rfl⟩ := p3
    show SV E Γ 4 (mm (up2 ci 43 0 0) cl cr dy) nx 0 0 22 [(0, .ref 43), (1, .int (nI a)), (2, .int m)] [.int (bI (II 0 8 m))]
    refine sv_if_ne (tgt := 27) hΓ dX12_act_22 (by decide) rfl (fun u4 => ?_) (fun u4 => ?_)
    · replace u4 := bI_ne.mp u4
      have hm8 := u4
      refine sv_iload_n hΓ dX12_act_27 rfl 2 rfl rfl ?_
      refine sv_table (x := m) (lo := 0) (hi := 7) 7 rfl (fun u5 => ?_) (fun k hk u5 => ?_)
      · refine sv_tableOut (pc' := 137) hΓ dX12_act_28 u5 (by decide) ?_
        refine sv_aload_n hΓ dX12_act_137 rfl 0 rfl rfl ?_
        refine sv_iload_n hΓ dX12_act_138 rfl 1 rfl rfl ?_
        refine sv_callV hΓ (fun l => ct_X12_kindOf l a (by omega)) wv_X12_146 vs_X12_kindOf rfl m_43 rfl rfl (by decide) (Nat.le_of_ble_eq_true rfl) (Nat.le_of_ble_eq_true rfl) (Nat.le_of_ble_eq_true rfl) dX12_act_139 rfl (fun r M' nx' p6 => ?_)
        obtain ⟨rfl, rfl, rfl⟩ := p6
        show SV E Γ 4 (mm (up2 ci 43 0 0) cl cr dy) nx 0 0 142 [(0, .ref 43), (1, .int (nI a)), (2, .int m)] [.int (kd ((up2 ci 43 0 0) 44 a))]
        exact sv_iret hΓ hQ dX12_act_142 (Nat.le_of_ble_eq_true rfl) (Nat.le_of_ble_eq_true rfl) (Or.inr ⟨a, 8, ha, rfl, by omega, i_is (by have := hm8.1; have := hm8.2; omega), cl, Or.inl ⟨by decide, rfl⟩, rfl, rfl, rfl⟩)
      · obtain rfl | rfl | rfl | rfl | rfl | rfl | rfl | rfl : k = 0 ∨ k = 1 ∨ k = 2 ∨ k = 3 ∨ k = 4 ∨ k = 5 ∨ k = 6 ∨ k = 7 := by omega
        · refine sv_tableIn (off := 48) (pc' := 76) hΓ dX12_act_28 (by omega) (by omega) (by rw [u5]; rfl) (by decide) ?_
          replace u5 : m = (0 : Int32) := Int32.toInt_inj.mp (u5.trans (by decide))
          refine sv_aload_n hΓ dX12_act_76 rfl 0 rfl rfl ?_
          refine g_X12_7_43 hΓ dX12_act_77 rfl ?_
          refine sv_iload_n hΓ dX12_act_80 rfl 1 rfl rfl ?_
          refine ai_44 hΓ (a) rfl (by omega) dX12_act_81 rfl ?_
          exact sv_iret hΓ hQ dX12_act_82 (Nat.le_of_ble_eq_true rfl) (Nat.le_of_ble_eq_true rfl) (Or.inr ⟨a, 0, ha, rfl, by omega, u5, cl, Or.inl ⟨by decide, rfl⟩, rfl, rfl, rfl⟩)
        · refine sv_tableIn (off := 55) (pc' := 83) hΓ dX12_act_28 (by omega) (by omega) (by rw [u5]; rfl) (by decide) ?_
          replace u5 : m = (1 : Int32) := Int32.toInt_inj.mp (u5.trans (by decide))
          refine sv_aload_n hΓ dX12_act_83 rfl 0 rfl rfl ?_
          refine g_X12_13_43 hΓ dX12_act_84 rfl ?_
          refine sv_iload_n hΓ dX12_act_87 rfl 1 rfl rfl ?_
          refine ai_45 hΓ (a) rfl (by omega) dX12_act_88 rfl ?_
          exact sv_iret hΓ hQ dX12_act_89 (Nat.le_of_ble_eq_true rfl) (Nat.le_of_ble_eq_true rfl) (Or.inr ⟨a, 1, ha, rfl, by omega, u5, cl, Or.inl ⟨by decide, rfl⟩, rfl, rfl, rfl⟩)
        · refine sv_tableIn (off := 62) (pc' := 90) hΓ dX12_act_28 (by omega) (by omega) (by rw [u5]; rfl) (by decide) ?_
          replace u5 : m = (2 : Int32) := Int32.toInt_inj.mp (u5.trans (by decide))
          subst u5
          refine sv_aload_n hΓ dX12_act_90 rfl 0 rfl rfl ?_
          refine g_X12_16_43 hΓ dX12_act_91 rfl ?_
          refine sv_iconst (v := 3) hΓ dX12_act_94 (by decide) rfl ?_
          refine sv_iload_n hΓ dX12_act_95 rfl 1 rfl rfl ?_
          refine sv_imulE (v := nI (3 * a)) hΓ dX12_act_96 (nx_mul rfl rfl) rfl ?_
          refine sv_iload_n hΓ dX12_act_97 rfl 2 rfl rfl ?_
          refine sv_iaddE (v := nI (3 * a + 2)) hΓ dX12_act_98 (nx_add rfl rfl) rfl ?_
          refine sv_iconst (v := 2) hΓ dX12_act_99 (by decide) rfl ?_
          refine sv_isubE (v := nI ((3 * a + 2) - 2)) hΓ dX12_act_100 (nx_sub (a := 3 * a + 2) (b := 2) (by omega)) rfl ?_
          refine ai_46 hΓ ((3 * a + 2) - 2) rfl (by omega) dX12_act_101 rfl ?_
          refine sv_istore_n (lv' := [(3, .int (ci 46 ((3 * a + 2) - 2))), (0, .ref 43), (1, .int (nI a)), (2, .int 2)]) hΓ dX12_act_102 rfl (by decide) rfl rfl ?_
          refine sv_iload_n hΓ dX12_act_103 rfl 0 rfl rfl ?_
          refine sv_if_ge (tgt := 112) hΓ dX12_act_104 (by decide) rfl (fun u7 => ?_) (fun u7 => ?_)
          · replace u7 : 0 ≤ ((ci 46 ((3 * a + 2) - 2)) : Int32) := u7
            refine sv_iload_n hΓ dX12_act_112 rfl 0 rfl rfl ?_
            exact sv_iret hΓ hQ dX12_act_113 (Nat.le_of_ble_eq_true rfl) (Nat.le_of_ble_eq_true rfl) (Or.inr ⟨a, 2, ha, rfl, by omega, rfl, cl, Or.inl ⟨by decide, rfl⟩, by rw [show acF (up2 ci 43 0 0) cl a 2 = _ from if_pos u7]; try rfl, rfl, rfl⟩)
          · replace u7 : ¬ (0 ≤ ((ci 46 ((3 * a + 2) - 2)) : Int32)) := u7
            refine sv_bipush (v := (-2)) hΓ dX12_act_107 (by decide) rfl ?_
            refine sv_goto (pc' := 113) hΓ dX12_act_109 (by decide) ?_
            exact sv_iret hΓ hQ dX12_act_113 (Nat.le_of_ble_eq_true rfl) (Nat.le_of_ble_eq_true rfl) (Or.inr ⟨a, 2, ha, rfl, by omega, rfl, cl, Or.inl ⟨by decide, rfl⟩, by rw [show acF (up2 ci 43 0 0) cl a 2 = _ from if_neg u7]; try rfl, rfl, rfl⟩)
        · refine sv_tableIn (off := 62) (pc' := 90) hΓ dX12_act_28 (by omega) (by omega) (by rw [u5]; rfl) (by decide) ?_
          replace u5 : m = (3 : Int32) := Int32.toInt_inj.mp (u5.trans (by decide))
          subst u5
          refine sv_aload_n hΓ dX12_act_90 rfl 0 rfl rfl ?_
          refine g_X12_16_43 hΓ dX12_act_91 rfl ?_
          refine sv_iconst (v := 3) hΓ dX12_act_94 (by decide) rfl ?_
          refine sv_iload_n hΓ dX12_act_95 rfl 1 rfl rfl ?_
          refine sv_imulE (v := nI (3 * a)) hΓ dX12_act_96 (nx_mul rfl rfl) rfl ?_
          refine sv_iload_n hΓ dX12_act_97 rfl 2 rfl rfl ?_
          refine sv_iaddE (v := nI (3 * a + 3)) hΓ dX12_act_98 (nx_add rfl rfl) rfl ?_
          refine sv_iconst (v := 2) hΓ dX12_act_99 (by decide) rfl ?_
          refine sv_isubE (v := nI ((3 * a + 3) - 2)) hΓ dX12_act_100 (nx_sub (a := 3 * a + 3) (b := 2) (by omega)) rfl ?_
          refine ai_46 hΓ ((3 * a + 3) - 2) rfl (by omega) dX12_act_101 rfl ?_
          refine sv_istore_n (lv' := [(3, .int (ci 46 ((3 * a + 3) - 2))), (0, .ref 43), (1, .int (nI a)), (2, .int 3)]) hΓ dX12_act_102 rfl (by decide) rfl rfl ?_
          refine sv_iload_n hΓ dX12_act_103 rfl 0 rfl rfl ?_
          refine sv_if_ge (tgt := 112) hΓ dX12_act_104 (by decide) rfl (fun u8 => ?_) (fun u8 => ?_)
          · replace u8 : 0 ≤ ((ci 46 ((3 * a + 3) - 2)) : Int32) := u8
            refine sv_iload_n hΓ dX12_act_112 rfl 0 rfl rfl ?_
            exact sv_iret hΓ hQ dX12_act_113 (Nat.le_of_ble_eq_true rfl) (Nat.le_of_ble_eq_true rfl) (Or.inr ⟨a, 3, ha, rfl, by omega, rfl, cl, Or.inl ⟨by decide, rfl⟩, by rw [show acF (up2 ci 43 0 0) cl a 3 = _ from if_pos u8]; try rfl, rfl, rfl⟩)
          · replace u8 : ¬ (0 ≤ ((ci 46 ((3 * a + 3) - 2)) : Int32)) := u8
            refine sv_bipush (v := (-2)) hΓ dX12_act_107 (by decide) rfl ?_
            refine sv_goto (pc' := 113) hΓ dX12_act_109 (by decide) ?_
            exact sv_iret hΓ hQ dX12_act_113 (Nat.le_of_ble_eq_true rfl) (Nat.le_of_ble_eq_true rfl) (Or.inr ⟨a, 3, ha, rfl, by omega, rfl, cl, Or.inl ⟨by decide, rfl⟩, by rw [show acF (up2 ci 43 0 0) cl a 3 = _ from if_neg u8]; try rfl, rfl, rfl⟩)
        · refine sv_tableIn (off := 62) (pc' := 90) hΓ dX12_act_28 (by omega) (by omega) (by rw [u5]; rfl) (by decide) ?_
          replace u5 : m = (4 : Int32) := Int32.toInt_inj.mp (u5.trans (by decide))
          subst u5
          refine sv_aload_n hΓ dX12_act_90 rfl 0 rfl rfl ?_
          refine g_X12_16_43 hΓ dX12_act_91 rfl ?_
          refine sv_iconst (v := 3) hΓ dX12_act_94 (by decide) rfl ?_
          refine sv_iload_n hΓ dX12_act_95 rfl 1 rfl rfl ?_
          refine sv_imulE (v := nI (3 * a)) hΓ dX12_act_96 (nx_mul rfl rfl) rfl ?_
          refine sv_iload_n hΓ dX12_act_97 rfl 2 rfl rfl ?_
          refine sv_iaddE (v := nI (3 * a + 4)) hΓ dX12_act_98 (nx_add rfl rfl) rfl ?_
          refine sv_iconst (v := 2) hΓ dX12_act_99 (by decide) rfl ?_
          refine sv_isubE (v := nI ((3 * a + 4) - 2)) hΓ dX12_act_100 (nx_sub (a := 3 * a + 4) (b := 2) (by omega)) rfl ?_
          refine ai_46 hΓ ((3 * a + 4) - 2) rfl (by omega) dX12_act_101 rfl ?_
          refine sv_istore_n (lv' := [(3, .int (ci 46 ((3 * a + 4) - 2))), (0, .ref 43), (1, .int (nI a)), (2, .int 4)]) hΓ dX12_act_102 rfl (by decide) rfl rfl ?_
          refine sv_iload_n hΓ dX12_act_103 rfl 0 rfl rfl ?_
          refine sv_if_ge (tgt := 112) hΓ dX12_act_104 (by decide) rfl (fun u9 => ?_) (fun u9 => ?_)
          · replace u9 : 0 ≤ ((ci 46 ((3 * a + 4) - 2)) : Int32) := u9
            refine sv_iload_n hΓ dX12_act_112 rfl 0 rfl rfl ?_
            exact sv_iret hΓ hQ dX12_act_113 (Nat.le_of_ble_eq_true rfl) (Nat.le_of_ble_eq_true rfl) (Or.inr ⟨a, 4, ha, rfl, by omega, rfl, cl, Or.inl ⟨by decide, rfl⟩, by rw [show acF (up2 ci 43 0 0) cl a 4 = _ from if_pos u9]; try rfl, rfl, rfl⟩)
          · replace u9 : ¬ (0 ≤ ((ci 46 ((3 * a + 4) - 2)) : Int32)) := u9
            refine sv_bipush (v := (-2)) hΓ dX12_act_107 (by decide) rfl ?_
            refine sv_goto (pc' := 113) hΓ dX12_act_109 (by decide) ?_
            exact sv_iret hΓ hQ dX12_act_113 (Nat.le_of_ble_eq_true rfl) (Nat.le_of_ble_eq_true rfl) (Or.inr ⟨a, 4, ha, rfl, by omega, rfl, cl, Or.inl ⟨by decide, rfl⟩, by rw [show acF (up2 ci 43 0 0) cl a 4 = _ from if_neg u9]; try rfl, rfl, rfl⟩)
        · refine sv_tableIn (off := 86) (pc' := 114) hΓ dX12_act_28 (by omega) (by omega) (by rw [u5]; rfl) (by decide) ?_
          replace u5 : m = (5 : Int32) := Int32.toInt_inj.mp (u5.trans (by decide))
          refine sv_aload_n hΓ dX12_act_114 rfl 0 rfl rfl ?_
          refine g_X12_19_43 hΓ dX12_act_115 rfl ?_
          refine sv_iload_n hΓ dX12_act_118 rfl 1 rfl rfl ?_
          refine ai_47 hΓ (a) rfl (by omega) dX12_act_119 rfl ?_
          exact sv_iret hΓ hQ dX12_act_120 (Nat.le_of_ble_eq_true rfl) (Nat.le_of_ble_eq_true rfl) (Or.inr ⟨a, 5, ha, rfl, by omega, u5, cl, Or.inl ⟨by decide, rfl⟩, rfl, rfl, rfl⟩)
        · refine sv_tableIn (off := 93) (pc' := 121) hΓ dX12_act_28 (by omega) (by omega) (by rw [u5]; rfl) (by decide) ?_
          replace u5 : m = (6 : Int32) := Int32.toInt_inj.mp (u5.trans (by decide))
          refine sv_aload_n hΓ dX12_act_121 rfl 0 rfl rfl ?_
          refine sv_iload_n hΓ dX12_act_122 rfl 1 rfl rfl ?_
          refine sv_callV hΓ (fun l => ct_X12_lengthOf l a (by omega)) wv_X12_168 vs_X12_lengthOf rfl m_43 rfl rfl (by decide) (Nat.le_of_ble_eq_true rfl) (Nat.le_of_ble_eq_true rfl) (Nat.le_of_ble_eq_true rfl) dX12_act_123 rfl (fun r M' nx' p10 => ?_)
          obtain ⟨rfl, rfl, rfl⟩ := p10
          show SV E Γ 4 (mm (up2 ci 43 0 0) cl cr dy) nx 0 0 126 [(0, .ref 43), (1, .int (nI a)), (2, .int m)] [.int (ln (up2 ci 43 0 0) a)]
          exact sv_iret hΓ hQ dX12_act_126 (Nat.le_of_ble_eq_true rfl) (Nat.le_of_ble_eq_true rfl) (Or.inr ⟨a, 6, ha, rfl, by omega, u5, cl, Or.inl ⟨by decide, rfl⟩, rfl, rfl, rfl⟩)
        · refine sv_tableIn (off := 99) (pc' := 127) hΓ dX12_act_28 (by omega) (by omega) (by rw [u5]; rfl) (by decide) ?_
          replace u5 : m = (7 : Int32) := Int32.toInt_inj.mp (u5.trans (by decide))
          refine sv_aload_n hΓ dX12_act_127 rfl 0 rfl rfl ?_
          refine sv_callV hΓ (fun l => ct_X12_findSpans l n hn hn6 hwf) wv_X12_171 vs_X12_findSpans rfl m_43 rfl rfl (by decide) (Nat.le_of_ble_eq_true rfl) (Nat.le_of_ble_eq_true rfl) (Nat.le_of_ble_eq_true rfl) dX12_act_128 rfl (fun r M' nx' p11 => ?_)
          obtain ⟨rfl, cs, rfl, fs1, rfl⟩ := p11
          show SV E Γ 4 (mm (up2 ci 43 0 0) cs cr dy) nx 0 0 131 [(0, .ref 43), (1, .int (nI a)), (2, .int m)] []
          refine sv_aload_n hΓ dX12_act_131 rfl 0 rfl rfl ?_
          refine sv_iload_n hΓ dX12_act_132 rfl 1 rfl rfl ?_
          refine sv_callV hΓ (fun l => ct_X12_bitsOf l a (by omega) (fs1.fit ha (hwf a ha))) wv_X12_174 vs_X12_bitsOf rfl m_43 rfl rfl (by decide) (Nat.le_of_ble_eq_true rfl) (Nat.le_of_ble_eq_true rfl) (Nat.le_of_ble_eq_true rfl) dX12_act_133 rfl (fun r M' nx' p12 => ?_)
          obtain ⟨rfl, rfl, rfl⟩ := p12
          show SV E Γ 4 (mm (up2 ci 43 0 0) cs cr dy) nx 0 0 136 [(0, .ref 43), (1, .int (nI a)), (2, .int m)] [.int (nI (btF (cs 61 a) (cs 62 a) 32 1))]
          exact sv_iret hΓ hQ dX12_act_136 (Nat.le_of_ble_eq_true rfl) (Nat.le_of_ble_eq_true rfl) (Or.inr ⟨a, 7, ha, rfl, by omega, u5, cs, Or.inr fs1, rfl, rfl, rfl⟩)
    · replace u4 := bI_0.mp u4
      refine sv_iconst (v := (-1)) hΓ dX12_act_25 (by decide) rfl ?_
      exact sv_iret hΓ hQ dX12_act_26 (Nat.le_of_ble_eq_true rfl) (Nat.le_of_ble_eq_true rfl) (Or.inl ⟨by grind, rfl, rfl, rfl⟩)
set_option maxRecDepth 100000 in
set_option maxHeartbeats 4000000 in
theorem ct_X12_bound2 {E : aG} (l : Launch) (q : Int32) (n : Nat) {ci : Nat → Nat → Int32} {cl : Nat → Nat → Int64} {cr : Nat → Nat → Option Nat} {dy : aM} {nx : Nat} (hn : ci 43 1 = nI n) (hn6 : n ≤ 16) (hwf : ∀ i, i < n → WF ci i) (hpar : ∀ k, k < 4 → ∃ v, 1 ≤ v ∧ v ≤ 4 ∧ ci 49 k = nI v) : CT E l yX12_bound cX12_bound 4 (some .int) 5 [.ref 43, .int q] (mm ci cl cr dy) nx 0 0 (fun r M' nx' => (¬ II 0 5 q ∧ r = some (.int (-1)) ∧ M' = mm (up2 ci 43 0 0) cl cr dy ∧ nx = nx') ∨ (∃ k c' cs, k ≤ 5 ∧ q = nI k ∧ smB (up2 ci 43 0 0) c' ∧ ((¬ k = 0 ∧ k < 5 ∧ cs = cl) ∨ FSI (up2 ci 43 0 0) cl cs n) ∧ r = some (.int (bdF (up2 ci 43 0 0) cs n k)) ∧ M' = mm c' cs cr dy ∧ nx = nx')) := by
  refine CT_intro (by decide) (Nat.le_of_ble_eq_true rfl) (fun Γ hΓ hQ => ?_)
  replace hΓ : CK E RX12 cX12_bound 4 (some .int) "bound" 5 0 0 Γ := hΓ
  show SV E Γ 4 (mm ci cl cr dy) nx 0 0 0 [(0, .ref 43), (1, .int q)] []
  refine sv_aload_n hΓ dX12_bound_0 rfl 0 rfl rfl ?_
  refine sv_iconst (v := 0) hΓ dX12_bound_1 (by decide) rfl ?_
  refine p_X12_99_43 hΓ dX12_bound_2 rfl ?_
  refine sv_iload_n hΓ dX12_bound_5 rfl 1 rfl rfl ?_
  refine sv_i2l hΓ dX12_bound_6 rfl rfl ?_
  refine sv_lconst (v := 0) hΓ dX12_bound_7 (by decide) rfl ?_
  refine sv_ldc2 hΓ dX12_bound_8 tb_1249 rfl ?_
  refine sv_callS hΓ (fun l => ct_X12_isInI l q 0 5 0 5 (by decide) (by decide) rfl rfl) wv_X12_118 tb_1080 rfl rfl (by decide) (Nat.le_of_ble_eq_true rfl) (Nat.le_of_ble_eq_true rfl) (Nat.le_of_ble_eq_true rfl) dX12_bound_11 rfl (fun r M' nx' p1 => ?_)
  obtain ⟨rfl, rfl, rfl⟩ := p1
  show SV E Γ 4 (mm (up2 ci 43 0 0) cl cr dy) nx 0 0 14 [(0, .ref 43), (1, .int q)] [.int (bI (II 0 5 q))]
  refine sv_if_ne (tgt := 19) hΓ dX12_bound_14 (by decide) rfl (fun u2 => ?_) (fun u2 => ?_)
  · replace u2 := bI_ne.mp u2
    obtain ⟨k, hk0, hk5, eqk⟩ := II.k u2
    subst eqk
    refine sv_iload_n hΓ dX12_bound_19 rfl 1 rfl rfl ?_
    refine sv_iconst (v := 5) hΓ dX12_bound_20 (by decide) rfl ?_
    refine sv_icmp_ge (tgt := 43) hΓ dX12_bound_21 (by decide) rfl (fun u3 => ?_) (fun u3 => ?_)
    · replace u3 : 5 ≤ ((nI k) : Int32) := u3
      have hk4 : ¬ k < 5 := i_ge5 (by omega) u3
      refine sv_aload_n hΓ dX12_bound_43 rfl 0 rfl rfl ?_
      refine sv_callV hΓ (fun l => ct_X12_freeTicks l n hn hn6 hwf) wv_X12_233 vs_X12_freeTicks rfl m_43 rfl rfl (by decide) (Nat.le_of_ble_eq_true rfl) (Nat.le_of_ble_eq_true rfl) (Nat.le_of_ble_eq_true rfl) dX12_bound_44 rfl (fun r M' nx' p4 => ?_)
      rcases p4 with ⟨cs, c2, fs1, hB, rfl, rfl, rfl⟩
      show SV E Γ 4 (mm c2 cs cr dy) nx 0 0 47 [(0, .ref 43), (1, .int (nI k))] [.int (ftA (kpC (up2 ci 43 0 0) n) cs n)]
      have hn2 : c2 43 1 = nI n := by rw [hB 43 (by decide)]; exact hn
      have hpx : ∀ j, j < 4 → ¬ c2 49 j = 0 := fun j hj => by rw [hB 49 (by decide)]; obtain ⟨v, v1, v4, ev⟩ := hpar j hj; exact fun e => absurd ((nI_eq (b := 0) (by omega) (by decide)).mp (ev.symm.trans e)) (by omega)
      refine sv_istore_n (lv' := [(2, .int (ftA (kpC (up2 ci 43 0 0) n) cs n)), (0, .ref 43), (1, .int (nI k))]) hΓ dX12_bound_47 rfl (by decide) rfl rfl ?_
      refine sv_iconst (v := 0) hΓ dX12_bound_48 (by decide) rfl ?_
      refine sv_istore_n (lv' := [(3, .int 0), (2, .int (ftA (kpC (up2 ci 43 0 0) n) cs n)), (0, .ref 43), (1, .int (nI k))]) hΓ dX12_bound_49 rfl (by decide) rfl rfl ?_
      have LP50 : ∀ kq j : Nat, j + kq = 4 → SV E Γ 4 (mm c2 cs cr dy) nx 0 0 50 [(3, .int (nI j)), (2, .int (bmF c2 n (ftA (kpC (up2 ci 43 0 0) n) cs n) j)), (0, .ref 43), (1, .int (nI k))] [] := by
        intro kq
        induction kq with
        | zero =>
          intro j ha
          have ea : j = 4 := by omega
          refine sv_iload_n hΓ dX12_bound_50 rfl 0 rfl rfl ?_
          refine sv_iconst (v := 4) hΓ dX12_bound_51 (by decide) rfl ?_
          refine sv_icmp_ge (tgt := 80) hΓ dX12_bound_52 (by decide) rfl (fun u5 => ?_) (fun u5 => absurd (nI_le (a := 4) (by omega) (by omega)) u5)
          replace u5 : 4 ≤ ((nI j) : Int32) := u5
          refine sv_iload_n hΓ dX12_bound_80 rfl 1 rfl rfl ?_
          exact sv_iret hΓ hQ dX12_bound_81 (Nat.le_of_ble_eq_true rfl) (Nat.le_of_ble_eq_true rfl) (Or.inr ⟨k, c2, cs, hk5, rfl, hB, Or.inr fs1, by rw [bdF, if_neg (by omega), if_neg (by omega), show j = 4 by omega, bmF_sm hB], rfl, rfl⟩)
        | succ kq ih =>
          intro j ha
          refine sv_iload_n hΓ dX12_bound_50 rfl 0 rfl rfl ?_
          refine sv_iconst (v := 4) hΓ dX12_bound_51 (by decide) rfl ?_
          refine sv_icmp_ge (tgt := 80) hΓ dX12_bound_52 (by decide) rfl (fun u6 => absurd u6 (nI_ge (b := 4) (by omega) (by omega))) (fun u6 => ?_)
          replace u6 : ¬ (4 ≤ ((nI j) : Int32)) := u6
          have hpz := hpx j (by omega)
          refine sv_aload_n hΓ dX12_bound_55 rfl 2 rfl rfl ?_
          refine sv_iload_n hΓ dX12_bound_56 rfl 0 rfl rfl ?_
          refine sv_callV hΓ (fun l => ct_X12_filled l j n (by omega) hpz hn2 hn6) wv_X12_237 vs_X12_filled rfl m_43 rfl rfl (by decide) (Nat.le_of_ble_eq_true rfl) (Nat.le_of_ble_eq_true rfl) (Nat.le_of_ble_eq_true rfl) dX12_bound_57 rfl (fun r M' nx' p7 => ?_)
          obtain ⟨rfl, rfl, rfl⟩ := p7
          show SV E Γ 4 (mm c2 cs cr dy) nx 0 0 60 [(3, .int (nI j)), (2, .int (bmF c2 n (ftA (kpC (up2 ci 43 0 0) n) cs n) j)), (0, .ref 43), (1, .int (nI k))] [.int ((fdF c2 (nI j) n + c2 49 j - 1) / c2 49 j)]
          refine sv_iload_n hΓ dX12_bound_60 rfl 1 rfl rfl ?_
          refine sv_icmp_le (tgt := 72) hΓ dX12_bound_61 (by decide) rfl (fun u8 => ?_) (fun u8 => ?_)
          · replace u8 : (((fdF c2 (nI j) n + c2 49 j - 1) / c2 49 j) : Int32) ≤ (bmF c2 n (ftA (kpC (up2 ci 43 0 0) n) cs n) j) := u8
            refine sv_iload_n hΓ dX12_bound_72 rfl 1 rfl rfl ?_
            refine sv_istore_n (lv' := [(2, .int (bmF c2 n (ftA (kpC (up2 ci 43 0 0) n) cs n) j)), (3, .int (nI j)), (0, .ref 43), (1, .int (nI k))]) hΓ dX12_bound_73 rfl (by decide) rfl rfl ?_
            refine sv_iinc (v := nI (j + 1)) (lv' := [(3, .int (nI (j + 1))), (2, .int (bmF c2 n (ftA (kpC (up2 ci 43 0 0) n) cs n) j)), (0, .ref 43), (1, .int (nI k))]) hΓ dX12_bound_74 1 rfl (nx_inc rfl) (by decide) rfl rfl ?_
            refine sv_goto (pc' := 50) hΓ dX12_bound_77 (by decide) ?_
            have q := ih (j + 1) (by omega)
            rw [show bmF c2 n (ftA (kpC (up2 ci 43 0 0) n) cs n) (j + 1) = bmF c2 n (ftA (kpC (up2 ci 43 0 0) n) cs n) j from if_pos u8] at q
            exact SV_lv [0, 1, 2, 3] rfl q
          · replace u8 : ¬ ((((fdF c2 (nI j) n + c2 49 j - 1) / c2 49 j) : Int32) ≤ (bmF c2 n (ftA (kpC (up2 ci 43 0 0) n) cs n) j)) := u8
            refine sv_aload_n hΓ dX12_bound_64 rfl 2 rfl rfl ?_
            refine sv_iload_n hΓ dX12_bound_65 rfl 0 rfl rfl ?_
            refine sv_callV hΓ (fun l => ct_X12_filled l j n (by omega) hpz hn2 hn6) wv_X12_237 vs_X12_filled rfl m_43 rfl rfl (by decide) (Nat.le_of_ble_eq_true rfl) (Nat.le_of_ble_eq_true rfl) (Nat.le_of_ble_eq_true rfl) dX12_bound_66 rfl (fun r M' nx' p9 => ?_)
            obtain ⟨rfl, rfl, rfl⟩ := p9
            show SV E Γ 4 (mm c2 cs cr dy) nx 0 0 69 [(3, .int (nI j)), (2, .int (bmF c2 n (ftA (kpC (up2 ci 43 0 0) n) cs n) j)), (0, .ref 43), (1, .int (nI k))] [.int ((fdF c2 (nI j) n + c2 49 j - 1) / c2 49 j)]
            refine sv_goto (pc' := 73) hΓ dX12_bound_69 (by decide) ?_
            refine sv_istore_n (lv' := [(2, .int ((fdF c2 (nI j) n + c2 49 j - 1) / c2 49 j)), (3, .int (nI j)), (0, .ref 43), (1, .int (nI k))]) hΓ dX12_bound_73 rfl (by decide) rfl rfl ?_
            refine sv_iinc (v := nI (j + 1)) (lv' := [(3, .int (nI (j + 1))), (2, .int ((fdF c2 (nI j) n + c2 49 j - 1) / c2 49 j)), (0, .ref 43), (1, .int (nI k))]) hΓ dX12_bound_74 1 rfl (nx_inc rfl) (by decide) rfl rfl ?_
            refine sv_goto (pc' := 50) hΓ dX12_bound_77 (by decide) ?_
            have q := ih (j + 1) (by omega)
            rw [show bmF c2 n (ftA (kpC (up2 ci 43 0 0) n) cs n) (j + 1) = (fdF c2 (nI j) n + c2 49 j - 1) / c2 49 j from if_neg u8] at q
            exact SV_lv [0, 1, 2, 3] rfl q
      exact SV_lv [0, 1, 2, 3] rfl (LP50 4 0 (by omega))
    · replace u3 : ¬ (5 ≤ ((nI k) : Int32)) := u3
      have hk4 : k < 5 := i_lt5 (by omega) u3
      refine sv_iload_n hΓ dX12_bound_24 rfl 1 rfl rfl ?_
      refine sv_if_ne (tgt := 35) hΓ dX12_bound_25 (by decide) rfl (fun u10 => ?_) (fun u10 => ?_)
      · replace u10 : ¬ ((nI k) : Int32) = 0 := u10
        have hk0 : ¬ k = 0 := fun e => u10 (by rw [e]; rfl)
        have hpz : ¬ ci 49 (k - 1) = 0 := by obtain ⟨v, v1, v4, ev⟩ := hpar (k - 1) (by omega); rw [ev]; exact fun e => absurd ((nI_eq (b := 0) (by omega) (by decide)).mp e) (by omega)
        refine sv_aload_n hΓ dX12_bound_35 rfl 0 rfl rfl ?_
        refine sv_iload_n hΓ dX12_bound_36 rfl 1 rfl rfl ?_
        refine sv_iconst (v := 1) hΓ dX12_bound_37 (by decide) rfl ?_
        refine sv_isubE (v := nI (k - 1)) hΓ dX12_bound_38 (nx_sub (b := 1) (by omega)) rfl ?_
        refine sv_callV hΓ (fun l => ct_X12_filled l (k - 1) n (by omega) hpz hn hn6) wv_X12_237 vs_X12_filled rfl m_43 rfl rfl (by decide) (Nat.le_of_ble_eq_true rfl) (Nat.le_of_ble_eq_true rfl) (Nat.le_of_ble_eq_true rfl) dX12_bound_39 rfl (fun r M' nx' p11 => ?_)
        obtain ⟨rfl, rfl, rfl⟩ := p11
        show SV E Γ 4 (mm (up2 ci 43 0 0) cl cr dy) nx 0 0 42 [(0, .ref 43), (1, .int (nI k))] [.int ((fdF (up2 ci 43 0 0) (nI (k - 1)) n + (up2 ci 43 0 0) 49 (k - 1) - 1) / (up2 ci 43 0 0) 49 (k - 1))]
        exact sv_iret hΓ hQ dX12_bound_42 (Nat.le_of_ble_eq_true rfl) (Nat.le_of_ble_eq_true rfl) (Or.inr ⟨k, _, cl, hk5, rfl, fun _ _ => rfl, Or.inl ⟨hk0, hk4, rfl⟩, by rw [bdF, if_neg hk0, if_pos hk4], rfl, rfl⟩)
      · replace u10 : ((nI k) : Int32) = 0 := u10
        refine sv_aload_n hΓ dX12_bound_28 rfl 0 rfl rfl ?_
        refine sv_callV hΓ (fun l => ct_X12_freeTicks l n hn hn6 hwf) wv_X12_233 vs_X12_freeTicks rfl m_43 rfl rfl (by decide) (Nat.le_of_ble_eq_true rfl) (Nat.le_of_ble_eq_true rfl) (Nat.le_of_ble_eq_true rfl) dX12_bound_29 rfl (fun r M' nx' p12 => ?_)
        rcases p12 with ⟨cs, c2, fs1, hB, rfl, rfl, rfl⟩
        show SV E Γ 4 (mm c2 cs cr dy) nx 0 0 32 [(0, .ref 43), (1, .int (nI k))] [.int (ftA (kpC (up2 ci 43 0 0) n) cs n)]
        refine sv_goto (pc' := 42) hΓ dX12_bound_32 (by decide) ?_
        exact sv_iret hΓ hQ dX12_bound_42 (Nat.le_of_ble_eq_true rfl) (Nat.le_of_ble_eq_true rfl) (Or.inr ⟨k, c2, cs, hk5, rfl, hB, Or.inr fs1, by rw [bdF, if_pos (k0 (by omega) u10)], rfl, rfl⟩)
  · replace u2 := bI_0.mp u2
    refine sv_iconst (v := (-1)) hΓ dX12_bound_17 (by decide) rfl ?_
    exact sv_iret hΓ hQ dX12_bound_18 (Nat.le_of_ble_eq_true rfl) (Nat.le_of_ble_eq_true rfl) (Or.inl ⟨u2, rfl, rfl, rfl⟩)
set_option maxRecDepth 100000 in
set_option maxHeartbeats 4000000 in
theorem ct_X12_copy2 {E : aG} (l : Launch) (d : Int32) (i : Int32) (u : Int32) (j : Int32) (m : Int32) {ci : Nat → Nat → Int32} {cl : Nat → Nat → Int64} {cr : Nat → Nat → Option Nat} {dy : aM} {nx : Nat} (hsz : ∀ e, e < 8 → ∃ v, v ≤ 60 ∧ ci 68 e = nI v) : CT E l yX12_copy cX12_copy 7 (some .int) 1 [.ref 43, .int d, .int i, .int u, .int j, .int m] (mm ci cl cr dy) nx 0 0 (fun r M' nx' => (¬ (AI 8 d ∧ AI 8 u) ∧ r = some (.int (-1)) ∧ M' = mm (up2 ci 43 0 0) cl cr dy ∧ nx = nx') ∨ (∃ e f, e < 8 ∧ f < 8 ∧ d = nI e ∧ u = nI f ∧ ((((up2 ci 43 0 0) 67 e = 0 ∨ (up2 ci 43 0 0) 67 f = 0) ∧ r = some (.int (-11)) ∧ M' = mm (up2 ci 43 0 0) cl cr dy ∧ nx = nx') ∨ (¬ ((up2 ci 43 0 0) 67 e = 0 ∨ (up2 ci 43 0 0) 67 f = 0) ∧ ((((up2 ci 43 0 0) 67 e < 3 ∨ ¬ (up2 ci 43 0 0) 67 e = (up2 ci 43 0 0) 67 f) ∧ r = some (.int (-12)) ∧ M' = mm (up2 ci 43 0 0) cl cr dy ∧ nx = nx') ∨ (¬ ((up2 ci 43 0 0) 67 e < 3 ∨ ¬ (up2 ci 43 0 0) 67 e = (up2 ci 43 0 0) 67 f) ∧ ((¬ (HP (up2 ci 43 0 0) e i m ∧ HP (up2 ci 43 0 0) f j m) ∧ r = some (.int (-13)) ∧ M' = mm (up2 ci 43 0 0) cl cr dy ∧ nx = nx') ∨ (HP (up2 ci 43 0 0) e i m ∧ HP (up2 ci 43 0 0) f j m ∧ ∃ a c b v y, v ≤ 60 ∧ y ≤ 60 ∧ (up2 ci 43 0 0) 68 e = nI v ∧ (up2 ci 43 0 0) 68 f = nI y ∧ a + b ≤ v ∧ c + b ≤ y ∧ i = nI a ∧ j = nI c ∧ m = nI b ∧ r = some (.int (nI b)) ∧ M' = mm (up2 ci 43 0 0) (rwC (bwC cl (60 * e + a) b) (60 * f + c) (fun i => (bwC cl (60 * e + a) b) 72 i) b) cr dy ∧ nx = nx')))))))) := by
  refine CT_intro (by decide) (Nat.le_of_ble_eq_true rfl) (fun Γ hΓ hQ => ?_)
  replace hΓ : CK E RX12 cX12_copy 7 (some .int) "copy" 1 0 0 Γ := hΓ
  show SV E Γ 7 (mm ci cl cr dy) nx 0 0 0 [(0, .ref 43), (1, .int d), (2, .int i), (3, .int u), (4, .int j), (5, .int m)] []
  refine sv_aload_n hΓ dX12_copy_0 rfl 0 rfl rfl ?_
  refine sv_iconst (v := 0) hΓ dX12_copy_1 (by decide) rfl ?_
  refine p_X12_99_43 hΓ dX12_copy_2 rfl ?_
  generalize hc0 : up2 ci 43 0 0 = c0 at hQ ⊢
  replace hsz : ∀ e, e < 8 → ∃ v, v ≤ 60 ∧ c0 68 e = nI v := by rw [← hc0]; exact hsz
  refine sv_iload_n hΓ dX12_copy_5 rfl 1 rfl rfl ?_
  refine sv_callS hΓ (fun l => ct_X12_isShelfI l d ) wv_X12_272 tb_1323 rfl rfl (by decide) (Nat.le_of_ble_eq_true rfl) (Nat.le_of_ble_eq_true rfl) (Nat.le_of_ble_eq_true rfl) dX12_copy_6 rfl (fun r M' nx' p1 => ?_)
  obtain ⟨rfl, rfl, rfl⟩ := p1
  show SV E Γ 7 (mm c0 cl cr dy) nx 0 0 9 [(0, .ref 43), (1, .int d), (2, .int i), (3, .int u), (4, .int j), (5, .int m)] [.int (bI (AI 8 d))]
  refine sv_if_eq (tgt := 19) hΓ dX12_copy_9 (by decide) rfl (fun u2 => ?_) (fun u2 => ?_)
  · replace u2 := bI_0.mp u2
    refine sv_iconst (v := (-1)) hΓ dX12_copy_19 (by decide) rfl ?_
    exact sv_iret hΓ hQ dX12_copy_20 (Nat.le_of_ble_eq_true rfl) (Nat.le_of_ble_eq_true rfl) (Or.inl ⟨by grind, rfl, rfl, rfl⟩)
  · replace u2 := bI_ne.mp u2
    refine sv_iload_n hΓ dX12_copy_12 rfl 3 rfl rfl ?_
    refine sv_callS hΓ (fun l => ct_X12_isShelfI l u ) wv_X12_272 tb_1323 rfl rfl (by decide) (Nat.le_of_ble_eq_true rfl) (Nat.le_of_ble_eq_true rfl) (Nat.le_of_ble_eq_true rfl) dX12_copy_13 rfl (fun r M' nx' p3 => ?_)
    obtain ⟨rfl, rfl, rfl⟩ := p3
    show SV E Γ 7 (mm c0 cl cr dy) nx 0 0 16 [(0, .ref 43), (1, .int d), (2, .int i), (3, .int u), (4, .int j), (5, .int m)] [.int (bI (AI 8 u))]
    refine sv_if_ne (tgt := 21) hΓ dX12_copy_16 (by decide) rfl (fun u4 => ?_) (fun u4 => ?_)
    · replace u4 := bI_ne.mp u4
      obtain ⟨e, he, ed⟩ := AI.k u2
      subst ed
      obtain ⟨f, hf, ef⟩ := AI.k u4
      subst ef
      obtain ⟨v, hv6, hv⟩ := hsz e he
      obtain ⟨y, hy6, hy⟩ := hsz f hf
      refine sv_aload_n hΓ dX12_copy_21 rfl 0 rfl rfl ?_
      refine g_X12_81_43 hΓ dX12_copy_22 rfl ?_
      refine sv_iload_n hΓ dX12_copy_25 rfl 1 rfl rfl ?_
      refine ai_67 hΓ (e) rfl (by omega) dX12_copy_26 rfl ?_
      refine sv_if_eq (tgt := 39) hΓ dX12_copy_27 (by decide) rfl (fun u5 => ?_) (fun u5 => ?_)
      · replace u5 : ((c0 67 e) : Int32) = 0 := u5
        refine sv_bipush (v := (-11)) hΓ dX12_copy_39 (by decide) rfl ?_
        exact sv_iret hΓ hQ dX12_copy_41 (Nat.le_of_ble_eq_true rfl) (Nat.le_of_ble_eq_true rfl) (Or.inr ⟨e, f, he, hf, rfl, rfl, Or.inl ⟨by grind, rfl, rfl, rfl⟩⟩)
      · replace u5 : ¬ (((c0 67 e) : Int32) = 0) := u5
        refine sv_aload_n hΓ dX12_copy_30 rfl 0 rfl rfl ?_
        refine g_X12_81_43 hΓ dX12_copy_31 rfl ?_
        refine sv_iload_n hΓ dX12_copy_34 rfl 3 rfl rfl ?_
        refine ai_67 hΓ (f) rfl (by omega) dX12_copy_35 rfl ?_
        refine sv_if_ne (tgt := 42) hΓ dX12_copy_36 (by decide) rfl (fun u6 => ?_) (fun u6 => ?_)
        · replace u6 : ¬ ((c0 67 f) : Int32) = 0 := u6
          have h11 : ¬ (c0 67 e = 0 ∨ c0 67 f = 0) := by grind
          refine sv_aload_n hΓ dX12_copy_42 rfl 0 rfl rfl ?_
          refine g_X12_81_43 hΓ dX12_copy_43 rfl ?_
          refine sv_iload_n hΓ dX12_copy_46 rfl 1 rfl rfl ?_
          refine ai_67 hΓ (e) rfl (by omega) dX12_copy_47 rfl ?_
          refine sv_iconst (v := 3) hΓ dX12_copy_48 (by decide) rfl ?_
          refine sv_icmp_lt (tgt := 67) hΓ dX12_copy_49 (by decide) rfl (fun u7 => ?_) (fun u7 => ?_)
          · replace u7 : ((c0 67 e) : Int32) < 3 := u7
            refine sv_bipush (v := (-12)) hΓ dX12_copy_67 (by decide) rfl ?_
            exact sv_iret hΓ hQ dX12_copy_69 (Nat.le_of_ble_eq_true rfl) (Nat.le_of_ble_eq_true rfl) (Or.inr ⟨e, f, he, hf, rfl, rfl, Or.inr ⟨by grind, Or.inl ⟨by grind, rfl, rfl, rfl⟩⟩⟩)
          · replace u7 : ¬ (((c0 67 e) : Int32) < 3) := u7
            refine sv_aload_n hΓ dX12_copy_52 rfl 0 rfl rfl ?_
            refine g_X12_81_43 hΓ dX12_copy_53 rfl ?_
            refine sv_iload_n hΓ dX12_copy_56 rfl 1 rfl rfl ?_
            refine ai_67 hΓ (e) rfl (by omega) dX12_copy_57 rfl ?_
            refine sv_aload_n hΓ dX12_copy_58 rfl 0 rfl rfl ?_
            refine g_X12_81_43 hΓ dX12_copy_59 rfl ?_
            refine sv_iload_n hΓ dX12_copy_62 rfl 3 rfl rfl ?_
            refine ai_67 hΓ (f) rfl (by omega) dX12_copy_63 rfl ?_
            refine sv_icmp_eq (tgt := 70) hΓ dX12_copy_64 (by decide) rfl (fun u8 => ?_) (fun u8 => ?_)
            · replace u8 : ((c0 67 e) : Int32) = (c0 67 f) := u8
              have h12 : ¬ (c0 67 e < 3 ∨ ¬ c0 67 e = c0 67 f) := by grind
              refine sv_aload_n hΓ dX12_copy_70 rfl 0 rfl rfl ?_
              refine sv_iload_n hΓ dX12_copy_71 rfl 1 rfl rfl ?_
              refine sv_iload_n hΓ dX12_copy_72 rfl 2 rfl rfl ?_
              refine sv_iload hΓ dX12_copy_73 5 rfl rfl ?_
              refine sv_callV hΓ (fun l => ct_X12_hasPlaces l e i m (by omega)) wv_X12_278 vs_X12_hasPlaces rfl m_43 rfl rfl (by decide) (Nat.le_of_ble_eq_true rfl) (Nat.le_of_ble_eq_true rfl) (Nat.le_of_ble_eq_true rfl) dX12_copy_75 rfl (fun r M' nx' p9 => ?_)
              obtain ⟨rfl, rfl, rfl⟩ := p9
              show SV E Γ 7 (mm c0 cl cr dy) nx 0 0 78 [(0, .ref 43), (1, .int (nI e)), (2, .int i), (3, .int (nI f)), (4, .int j), (5, .int m)] [.int (bI (¬ m < 0 ∧ ¬ i < 0 ∧ ¬ c0 68 e < i ∧ ¬ c0 68 e - i < m))]
              refine sv_if_eq (tgt := 93) hΓ dX12_copy_78 (by decide) rfl (fun u10 => ?_) (fun u10 => ?_)
              · replace u10 := bI_0.mp u10
                refine sv_bipush (v := (-13)) hΓ dX12_copy_93 (by decide) rfl ?_
                exact sv_iret hΓ hQ dX12_copy_95 (Nat.le_of_ble_eq_true rfl) (Nat.le_of_ble_eq_true rfl) (Or.inr ⟨e, f, he, hf, rfl, rfl, Or.inr ⟨by grind, Or.inr ⟨by grind, Or.inl ⟨by grind, rfl, rfl, rfl⟩⟩⟩⟩)
              · replace u10 := bI_ne.mp u10
                refine sv_aload_n hΓ dX12_copy_81 rfl 0 rfl rfl ?_
                refine sv_iload_n hΓ dX12_copy_82 rfl 3 rfl rfl ?_
                refine sv_iload hΓ dX12_copy_83 4 rfl rfl ?_
                refine sv_iload hΓ dX12_copy_85 5 rfl rfl ?_
                refine sv_callV hΓ (fun l => ct_X12_hasPlaces l f j m (by omega)) wv_X12_278 vs_X12_hasPlaces rfl m_43 rfl rfl (by decide) (Nat.le_of_ble_eq_true rfl) (Nat.le_of_ble_eq_true rfl) (Nat.le_of_ble_eq_true rfl) dX12_copy_87 rfl (fun r M' nx' p11 => ?_)
                obtain ⟨rfl, rfl, rfl⟩ := p11
                show SV E Γ 7 (mm c0 cl cr dy) nx 0 0 90 [(0, .ref 43), (1, .int (nI e)), (2, .int i), (3, .int (nI f)), (4, .int j), (5, .int m)] [.int (bI (¬ m < 0 ∧ ¬ j < 0 ∧ ¬ c0 68 f < j ∧ ¬ c0 68 f - j < m))]
                refine sv_if_ne (tgt := 96) hΓ dX12_copy_90 (by decide) rfl (fun u12 => ?_) (fun u12 => ?_)
                · replace u12 := bI_ne.mp u12
                  have hp1 := u10
                  have hp2 := u12
                  obtain ⟨a, b, ei, em, hab⟩ := hp_k hv hv6 u10
                  obtain ⟨c, b2, ej, em2, hcb⟩ := hp_k hy hy6 u12
                  obtain rfl : b = b2 := (nI_eq (by omega) (by omega)).mp (em.symm.trans em2)
                  subst ei
                  subst ej
                  subst em
                  refine sv_iconst (v := 0) hΓ dX12_copy_96 (by decide) rfl ?_
                  refine sv_istore (lv' := [(6, .int 0), (0, .ref 43), (1, .int (nI e)), (2, .int (nI a)), (3, .int (nI f)), (4, .int (nI c)), (5, .int (nI b))]) hΓ dX12_copy_97 (by decide) rfl rfl ?_
                  have LP99 : ∀ kq x : Nat, x + kq = b → SV E Γ 7 (mm c0 (bwC cl (60 * e + a) x) cr dy) nx 0 0 99 [(6, .int (nI x)), (0, .ref 43), (1, .int (nI e)), (2, .int (nI a)), (3, .int (nI f)), (4, .int (nI c)), (5, .int (nI b))] [] := by
                    intro kq
                    induction kq with
                    | zero =>
                      intro x ha
                      have ea : x = b := by omega
                      obtain rfl : b = x := by omega
                      refine sv_iload hΓ dX12_copy_99 0 rfl rfl ?_
                      refine sv_iload hΓ dX12_copy_101 6 rfl rfl ?_
                      refine sv_icmp_ge (tgt := 133) hΓ dX12_copy_103 (by decide) rfl (fun u13 => ?_) (fun u13 => absurd (nI_le (by omega) (by omega)) u13)
                      replace u13 : (nI b) ≤ ((nI b) : Int32) := u13
                      refine sv_iconst (v := 0) hΓ dX12_copy_133 (by decide) rfl ?_
                      refine sv_istore (lv' := [(6, .int 0), (0, .ref 43), (1, .int (nI e)), (2, .int (nI a)), (3, .int (nI f)), (4, .int (nI c)), (5, .int (nI b))]) hΓ dX12_copy_134 (by decide) rfl rfl ?_
                      have LP136 : ∀ kq x : Nat, x + kq = b → SV E Γ 7 (mm c0 (rwC (bwC cl (60 * e + a) b) (60 * f + c) (fun i => (bwC cl (60 * e + a) b) 72 i) x) cr dy) nx 0 0 136 [(6, .int (nI x)), (0, .ref 43), (1, .int (nI e)), (2, .int (nI a)), (3, .int (nI f)), (4, .int (nI c)), (5, .int (nI b))] [] := by
                        intro kq
                        induction kq with
                        | zero =>
                          intro x ha
                          have ea : x = b := by omega
                          obtain rfl : b = x := by omega
                          refine sv_iload hΓ dX12_copy_136 0 rfl rfl ?_
                          refine sv_iload hΓ dX12_copy_138 6 rfl rfl ?_
                          refine sv_icmp_ge (tgt := 171) hΓ dX12_copy_140 (by decide) rfl (fun u14 => ?_) (fun u14 => absurd (nI_le (by omega) (by omega)) u14)
                          replace u14 : (nI b) ≤ ((nI b) : Int32) := u14
                          refine sv_iload hΓ dX12_copy_171 6 rfl rfl ?_
                          exact sv_iret hΓ hQ dX12_copy_173 (Nat.le_of_ble_eq_true rfl) (Nat.le_of_ble_eq_true rfl) (Or.inr ⟨e, f, he, hf, rfl, rfl, Or.inr ⟨h11, Or.inr ⟨h12, Or.inr ⟨hp1, hp2, a, c, b, v, y, hv6, hy6, hv, hy, by omega, by omega, rfl, rfl, rfl, rfl, rfl, rfl⟩⟩⟩⟩)
                        | succ kq ih =>
                          intro x ha
                          refine sv_iload hΓ dX12_copy_136 0 rfl rfl ?_
                          refine sv_iload hΓ dX12_copy_138 6 rfl rfl ?_
                          refine sv_icmp_ge (tgt := 171) hΓ dX12_copy_140 (by decide) rfl (fun u15 => absurd u15 (nI_ge (by omega) (by omega))) (fun u15 => ?_)
                          replace u15 : ¬ ((nI b) ≤ ((nI x) : Int32)) := u15
                          refine sv_aload_n hΓ dX12_copy_143 rfl 1 rfl rfl ?_
                          refine g_X12_93_43 hΓ dX12_copy_144 rfl ?_
                          refine sv_bipush (v := 60) hΓ dX12_copy_147 (by decide) rfl ?_
                          refine sv_iload_n hΓ dX12_copy_149 rfl 4 rfl rfl ?_
                          refine sv_imulE (v := nI (60 * f)) hΓ dX12_copy_150 (nx_mul rfl rfl) rfl ?_
                          refine sv_iload hΓ dX12_copy_151 5 rfl rfl ?_
                          refine sv_iaddE (v := nI (60 * f + c)) hΓ dX12_copy_153 (nx_add rfl rfl) rfl ?_
                          refine sv_iload hΓ dX12_copy_154 0 rfl rfl ?_
                          refine sv_iaddE (v := nI (60 * f + c + x)) hΓ dX12_copy_156 (nx_add rfl rfl) rfl ?_
                          refine sv_aload_n hΓ dX12_copy_157 rfl 1 rfl rfl ?_
                          refine g_X12_96_43 hΓ dX12_copy_158 rfl ?_
                          refine sv_iload hΓ dX12_copy_161 0 rfl rfl ?_
                          refine al_72 hΓ (x) rfl (by omega) dX12_copy_163 rfl ?_
                          refine at_71 hΓ (60 * f + c + x) rfl (by omega) dX12_copy_164 rfl ?_
                          refine sv_iinc (v := nI (x + 1)) (lv' := [(6, .int (nI (x + 1))), (0, .ref 43), (1, .int (nI e)), (2, .int (nI a)), (3, .int (nI f)), (4, .int (nI c)), (5, .int (nI b))]) hΓ dX12_copy_165 0 rfl (nx_inc rfl) (by decide) rfl rfl ?_
                          refine sv_goto (pc' := 136) hΓ dX12_copy_168 (by decide) ?_
                          have q := ih (x + 1) (by omega)
                          rw [show rwC (bwC cl (60 * e + a) b) (60 * f + c) (fun i => (bwC cl (60 * e + a) b) 72 i) (x + 1) = up2 (rwC (bwC cl (60 * e + a) b) (60 * f + c) (fun i => (bwC cl (60 * e + a) b) 72 i) x) 71 (60 * f + c + x) ((rwC (bwC cl (60 * e + a) b) (60 * f + c) (fun i => (bwC cl (60 * e + a) b) 72 i) x) 72 x) from by show up2 _ _ _ _ = _; rw [rwC_k (bwC cl (60 * e + a) b) _ _ (show ¬ 72 = 71 by decide)]] at q
                          exact SV_lv [0, 1, 2, 3, 4, 5, 6] rfl q
                      exact SV_lv [0, 1, 2, 3, 4, 5, 6] rfl (LP136 b 0 (by omega))
                    | succ kq ih =>
                      intro x ha
                      refine sv_iload hΓ dX12_copy_99 0 rfl rfl ?_
                      refine sv_iload hΓ dX12_copy_101 6 rfl rfl ?_
                      refine sv_icmp_ge (tgt := 133) hΓ dX12_copy_103 (by decide) rfl (fun u16 => absurd u16 (nI_ge (by omega) (by omega))) (fun u16 => ?_)
                      replace u16 : ¬ ((nI b) ≤ ((nI x) : Int32)) := u16
                      refine sv_aload_n hΓ dX12_copy_106 rfl 1 rfl rfl ?_
                      refine g_X12_96_43 hΓ dX12_copy_107 rfl ?_
                      refine sv_iload hΓ dX12_copy_110 0 rfl rfl ?_
                      refine sv_aload_n hΓ dX12_copy_112 rfl 1 rfl rfl ?_
                      refine g_X12_93_43 hΓ dX12_copy_113 rfl ?_
                      refine sv_bipush (v := 60) hΓ dX12_copy_116 (by decide) rfl ?_
                      refine sv_iload_n hΓ dX12_copy_118 rfl 2 rfl rfl ?_
                      refine sv_imulE (v := nI (60 * e)) hΓ dX12_copy_119 (nx_mul rfl rfl) rfl ?_
                      refine sv_iload_n hΓ dX12_copy_120 rfl 3 rfl rfl ?_
                      refine sv_iaddE (v := nI (60 * e + a)) hΓ dX12_copy_121 (nx_add rfl rfl) rfl ?_
                      refine sv_iload hΓ dX12_copy_122 0 rfl rfl ?_
                      refine sv_iaddE (v := nI (60 * e + a + x)) hΓ dX12_copy_124 (nx_add rfl rfl) rfl ?_
                      refine al_71 hΓ (60 * e + a + x) rfl (by omega) dX12_copy_125 rfl ?_
                      refine at_72 hΓ (x) rfl (by omega) dX12_copy_126 rfl ?_
                      refine sv_iinc (v := nI (x + 1)) (lv' := [(6, .int (nI (x + 1))), (0, .ref 43), (1, .int (nI e)), (2, .int (nI a)), (3, .int (nI f)), (4, .int (nI c)), (5, .int (nI b))]) hΓ dX12_copy_127 0 rfl (nx_inc rfl) (by decide) rfl rfl ?_
                      refine sv_goto (pc' := 99) hΓ dX12_copy_130 (by decide) ?_
                      have q := ih (x + 1) (by omega)
                      exact SV_lv [0, 1, 2, 3, 4, 5, 6] rfl q
                  exact SV_lv [0, 1, 2, 3, 4, 5, 6] rfl (LP99 b 0 (by omega))
                · replace u12 := bI_0.mp u12
                  refine sv_bipush (v := (-13)) hΓ dX12_copy_93 (by decide) rfl ?_
                  exact sv_iret hΓ hQ dX12_copy_95 (Nat.le_of_ble_eq_true rfl) (Nat.le_of_ble_eq_true rfl) (Or.inr ⟨e, f, he, hf, rfl, rfl, Or.inr ⟨by grind, Or.inr ⟨by grind, Or.inl ⟨by grind, rfl, rfl, rfl⟩⟩⟩⟩)
            · replace u8 : ¬ (((c0 67 e) : Int32) = (c0 67 f)) := u8
              refine sv_bipush (v := (-12)) hΓ dX12_copy_67 (by decide) rfl ?_
              exact sv_iret hΓ hQ dX12_copy_69 (Nat.le_of_ble_eq_true rfl) (Nat.le_of_ble_eq_true rfl) (Or.inr ⟨e, f, he, hf, rfl, rfl, Or.inr ⟨by grind, Or.inl ⟨by grind, rfl, rfl, rfl⟩⟩⟩)
        · replace u6 : ((c0 67 f) : Int32) = 0 := u6
          refine sv_bipush (v := (-11)) hΓ dX12_copy_39 (by decide) rfl ?_
          exact sv_iret hΓ hQ dX12_copy_41 (Nat.le_of_ble_eq_true rfl) (Nat.le_of_ble_eq_true rfl) (Or.inr ⟨e, f, he, hf, rfl, rfl, Or.inl ⟨by grind, rfl, rfl, rfl⟩⟩)
    · replace u4 := bI_0.mp u4
      refine sv_iconst (v := (-1)) hΓ dX12_copy_19 (by decide) rfl ?_
      exact sv_iret hΓ hQ dX12_copy_20 (Nat.le_of_ble_eq_true rfl) (Nat.le_of_ble_eq_true rfl) (Or.inl ⟨by grind, rfl, rfl, rfl⟩)
