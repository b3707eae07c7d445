set_option maxRecDepth 100000 in
set_option maxHeartbeats 4000000 in
/-- findRegisters -/
theorem ct_X12_findRegisters {E : aG} (l : Launch) (n : Nat) (T : Nat) {ci : Nat → Nat → Int32} {cl : Nat → Nat → Int64} {cr : Nat → Nat → Option Nat} {dy : aM} {nx : Nat} (hn : ci 43 1 = nI n) (hn6 : n ≤ 16) (hT : ci 43 16 = nI T) (hT2 : T ≤ 1000) : CT E l yX12_findRegisters cX12_findRegisters 3 none 5 [.ref 43] (mm ci cl cr dy) nx 0 0 (fun r M' nx' => r = none ∧ M' = mm (rou (clrC (up2 ci 43 18 0) n) n (T + 1)) cl cr dy ∧ nx = nx') := by
  refine CT_intro (by decide) (Nat.le_of_ble_eq_true rfl) (fun Γ hΓ hQ => ?_)
  replace hΓ : CK E RX12 cX12_findRegisters 3 none "findRegisters" 5 0 0 Γ := hΓ
  show SV E Γ 3 (mm ci cl cr dy) nx 0 0 0 [(0, .ref 43)] []
  refine sv_aload_n hΓ dX12_findRegisters_0 rfl 0 rfl rfl ?_
  refine sv_iconst (v := 0) hΓ dX12_findRegisters_1 (by decide) rfl ?_
  refine p_X12_207_43 hΓ dX12_findRegisters_2 rfl ?_
  have HC : ∀ a, clrC (up2 ci 43 18 0) a 43 1 = nI n := fun a => ((clr_sm _ a).2 1 (by decide)).trans hn
  refine sv_iconst (v := 0) hΓ dX12_findRegisters_5 (by decide) rfl ?_
  refine sv_istore_n (lv' := [(1, .int 0), (0, .ref 43)]) hΓ dX12_findRegisters_6 rfl (by decide) rfl rfl ?_
  have LP7 : ∀ kq a : Nat, a + kq = n → SV E Γ 3 (mm (clrC (up2 ci 43 18 0) a) cl cr dy) nx 0 0 7 [(1, .int (nI a)), (0, .ref 43)] [] := by
    intro kq
    induction kq with
    | zero =>
      intro a ha
      have ea : a = n := by omega
      obtain rfl : n = a := by omega
      refine sv_iload_n hΓ dX12_findRegisters_7 rfl 0 rfl rfl ?_
      refine sv_aload_n hΓ dX12_findRegisters_8 rfl 1 rfl rfl ?_
      refine g_X12_103_43 hΓ dX12_findRegisters_9 rfl ?_
      refine sv_icmp_ge (tgt := 29) hΓ dX12_findRegisters_12 (by decide) rfl (fun u1 => ?_) (fun u1 => absurd (by rw [HC]; exact nI_le (by omega) (by omega)) u1)
      replace u1 : ((clrC (up2 ci 43 18 0) n) 43 1) ≤ ((nI n) : Int32) := u1
      obtain ⟨c1, hc1⟩ : ∃ z, z = clrC (up2 ci 43 18 0) n := ⟨_, rfl⟩
      rw [← hc1]
      have HT : ∀ t, rou c1 n t 43 16 = nI T := fun t => by rw [(rou_sm c1 n t).2 16 (by decide), hc1, (clr_sm _ n).2 16 (by decide)]; exact hT
      have HN : ∀ t a, rin (rou c1 n t) n (nI t) a 43 1 = nI n := fun t a => by rw [(rin_sm _ n _ a).2 1 (by decide), (rou_sm c1 n t).2 1 (by decide), hc1]; exact HC n
      have HR : ∀ t a, a ≤ n → REG (rin (rou c1 n t) n (nI t) a) n := fun t a h => REG.rin hn6 (REG.rou hn6 (by rw [hc1]; exact clr_REG _ n) t) a h
      refine sv_iconst (v := 0) hΓ dX12_findRegisters_29 (by decide) rfl ?_
      refine sv_istore_n (lv' := [(1, .int 0), (0, .ref 43)]) hΓ dX12_findRegisters_30 rfl (by decide) rfl rfl ?_
      have LP31 : ∀ kq t : Nat, t + kq = T + 1 → SV E Γ 3 (mm (rou c1 n t) cl cr dy) nx 0 0 31 [(1, .int (nI t)), (0, .ref 43)] [] := by
        intro kq
        induction kq with
        | zero =>
          intro t ha
          have ea : t = T + 1 := by omega
          refine sv_iload_n hΓ dX12_findRegisters_31 rfl 0 rfl rfl ?_
          refine sv_aload_n hΓ dX12_findRegisters_32 rfl 1 rfl rfl ?_
          refine g_X12_210_43 hΓ dX12_findRegisters_33 rfl ?_
          refine sv_icmp_gt (tgt := 121) hΓ dX12_findRegisters_36 (by decide) rfl (fun u2 => ?_) (fun u2 => absurd (by rw [HT]; exact nI_lt (by omega) (by omega)) u2)
          replace u2 : ((rou c1 n t) 43 16) < ((nI t) : Int32) := u2
          exact sv_vret hΓ hQ dX12_findRegisters_121 (Nat.le_of_ble_eq_true rfl) (Nat.le_of_ble_eq_true rfl) ⟨rfl, by rw [hc1, ea], rfl⟩
        | succ kq ih =>
          intro t ha
          refine sv_iload_n hΓ dX12_findRegisters_31 rfl 0 rfl rfl ?_
          refine sv_aload_n hΓ dX12_findRegisters_32 rfl 1 rfl rfl ?_
          refine g_X12_210_43 hΓ dX12_findRegisters_33 rfl ?_
          refine sv_icmp_gt (tgt := 121) hΓ dX12_findRegisters_36 (by decide) rfl (fun u3 => absurd u3 (by rw [HT]; exact nI_nlt (by omega) (by omega))) (fun u3 => ?_)
          replace u3 : ¬ (((rou c1 n t) 43 16) < ((nI t) : Int32)) := u3
          refine sv_iconst (v := 0) hΓ dX12_findRegisters_39 (by decide) rfl ?_
          refine sv_istore_n (lv' := [(2, .int 0), (1, .int (nI t)), (0, .ref 43)]) hΓ dX12_findRegisters_40 rfl (by decide) rfl rfl ?_
          have LP41 : ∀ kq a : Nat, a + kq = n → SV E Γ 3 (mm (rin (rou c1 n t) n (nI t) a) cl cr dy) nx 0 0 41 [(2, .int (nI a)), (1, .int (nI t)), (0, .ref 43)] [] := by
            intro kq
            induction kq with
            | zero =>
              intro a ha
              have ea : a = n := by omega
              obtain rfl : n = a := by omega
              refine sv_iload_n hΓ dX12_findRegisters_41 rfl 0 rfl rfl ?_
              refine sv_aload_n hΓ dX12_findRegisters_42 rfl 2 rfl rfl ?_
              refine g_X12_103_43 hΓ dX12_findRegisters_43 rfl ?_
              refine sv_icmp_ge (tgt := 115) hΓ dX12_findRegisters_46 (by decide) rfl (fun u4 => ?_) (fun u4 => absurd (by rw [HN]; exact nI_le (by omega) (by omega)) u4)
              replace u4 : ((rin (rou c1 n t) n (nI t) n) 43 1) ≤ ((nI n) : Int32) := u4
              refine sv_iinc (v := nI (t + 1)) (lv' := [(1, .int (nI (t + 1))), (2, .int (nI n)), (0, .ref 43)]) hΓ dX12_findRegisters_115 1 rfl (nx_inc rfl) (by decide) rfl rfl ?_
              refine sv_goto (pc' := 31) hΓ dX12_findRegisters_118 (by decide) ?_
              have q := ih (t + 1) (by omega)
              exact SV_lv [0, 2] rfl q
            | succ kq ih =>
              intro a ha
              refine sv_iload_n hΓ dX12_findRegisters_41 rfl 0 rfl rfl ?_
              refine sv_aload_n hΓ dX12_findRegisters_42 rfl 2 rfl rfl ?_
              refine g_X12_103_43 hΓ dX12_findRegisters_43 rfl ?_
              refine sv_icmp_ge (tgt := 115) hΓ dX12_findRegisters_46 (by decide) rfl (fun u5 => absurd u5 (by rw [HN]; exact nI_ge (by omega) (by omega))) (fun u5 => ?_)
              replace u5 : ¬ (((rin (rou c1 n t) n (nI t) a) 43 1) ≤ ((nI a) : Int32)) := u5
              refine sv_aload_n hΓ dX12_findRegisters_49 rfl 2 rfl rfl ?_
              refine sv_iload_n hΓ dX12_findRegisters_50 rfl 0 rfl rfl ?_
              refine sv_callV hΓ (fun l => ct_X12_isUsed l a n (by omega) (HN t a) (by omega)) wv_X12_213 vs_X12_isUsed rfl m_43 rfl rfl (by decide) (Nat.le_of_ble_eq_true rfl) (Nat.le_of_ble_eq_true rfl) (Nat.le_of_ble_eq_true rfl) dX12_findRegisters_51 rfl (fun r M' nx' p6 => ?_)
              obtain ⟨rfl, rfl, rfl⟩ := p6
              show SV E Γ 3 (mm (rin (rou c1 n t) n (nI t) a) cl cr dy) nx 0 0 54 [(2, .int (nI a)), (1, .int (nI t)), (0, .ref 43)] [.int (bI (usd (rin (rou c1 n t) n (nI t) a) n a))]
              refine sv_if_eq (tgt := 109) hΓ dX12_findRegisters_54 (by decide) rfl (fun u7 => ?_) (fun u7 => ?_)
              · replace u7 := bI_0.mp u7
                refine sv_iinc (v := nI (a + 1)) (lv' := [(2, .int (nI (a + 1))), (1, .int (nI t)), (0, .ref 43)]) hΓ dX12_findRegisters_109 0 rfl (nx_inc rfl) (by decide) rfl rfl ?_
                refine sv_goto (pc' := 41) hΓ dX12_findRegisters_112 (by decide) ?_
                have q := ih (a + 1) (by omega)
                rw [show rin (rou c1 n t) n (nI t) (a + 1) = rin (rou c1 n t) n (nI t) a from by show rst (rin (rou c1 n t) n (nI t) a) n (nI t) a = _; unfold rst; rw [if_neg u7]] at q
                exact SV_lv [0, 1, 2] rfl q
              · replace u7 := bI_ne.mp u7
                refine sv_aload_n hΓ dX12_findRegisters_57 rfl 2 rfl rfl ?_
                refine sv_iload_n hΓ dX12_findRegisters_58 rfl 0 rfl rfl ?_
                refine sv_callV hΓ (fun l => ct_X12_lifeBegin l a (by omega)) wv_X12_198 vs_X12_lifeBegin rfl m_43 rfl rfl (by decide) (Nat.le_of_ble_eq_true rfl) (Nat.le_of_ble_eq_true rfl) (Nat.le_of_ble_eq_true rfl) dX12_findRegisters_59 rfl (fun r M' nx' p8 => ?_)
                obtain ⟨rfl, rfl, rfl⟩ := p8
                show SV E Γ 3 (mm (rin (rou c1 n t) n (nI t) a) cl cr dy) nx 0 0 62 [(2, .int (nI a)), (1, .int (nI t)), (0, .ref 43)] [.int ((rin (rou c1 n t) n (nI t) a) 55 a + ln (rin (rou c1 n t) n (nI t) a) a)]
                refine sv_iload_n hΓ dX12_findRegisters_62 rfl 1 rfl rfl ?_
                refine sv_icmp_ne (tgt := 109) hΓ dX12_findRegisters_63 (by decide) rfl (fun u9 => ?_) (fun u9 => ?_)
                · replace u9 : ¬ (((rin (rou c1 n t) n (nI t) a) 55 a + ln (rin (rou c1 n t) n (nI t) a) a) : Int32) = (nI t) := u9
                  refine sv_iinc (v := nI (a + 1)) (lv' := [(2, .int (nI (a + 1))), (1, .int (nI t)), (0, .ref 43)]) hΓ dX12_findRegisters_109 0 rfl (nx_inc rfl) (by decide) rfl rfl ?_
                  refine sv_goto (pc' := 41) hΓ dX12_findRegisters_112 (by decide) ?_
                  have q := ih (a + 1) (by omega)
                  rw [show rin (rou c1 n t) n (nI t) (a + 1) = rin (rou c1 n t) n (nI t) a from by show rst (rin (rou c1 n t) n (nI t) a) n (nI t) a = _; unfold rst; rw [if_pos u7, if_neg u9]] at q
                  exact SV_lv [0, 1, 2] rfl q
                · replace u9 : (((rin (rou c1 n t) n (nI t) a) 55 a + ln (rin (rou c1 n t) n (nI t) a) a) : Int32) = (nI t) := u9
                  refine sv_aload_n hΓ dX12_findRegisters_66 rfl 2 rfl rfl ?_
                  refine g_X12_51_43 hΓ dX12_findRegisters_67 rfl ?_
                  refine sv_iload_n hΓ dX12_findRegisters_70 rfl 0 rfl rfl ?_
                  refine sv_aload_n hΓ dX12_findRegisters_71 rfl 2 rfl rfl ?_
                  refine sv_iload_n hΓ dX12_findRegisters_72 rfl 0 rfl rfl ?_
                  refine sv_callV hΓ (fun l => ct_X12_freeRegister l a n (by omega) (HN t a) (by omega) ((HR t a (by omega)).free)) wv_X12_216 vs_X12_freeRegister rfl m_43 rfl rfl (by decide) (Nat.le_of_ble_eq_true rfl) (Nat.le_of_ble_eq_true rfl) (Nat.le_of_ble_eq_true rfl) dX12_findRegisters_73 rfl (fun r M' nx' p10 => ?_)
                  obtain ⟨rfl, rfl, rfl⟩ := p10
                  show SV E Γ 3 (mm (rin (rou c1 n t) n (nI t) a) cl cr dy) nx 0 0 76 [(2, .int (nI a)), (1, .int (nI t)), (0, .ref 43)] [.int (nI (rgF (rin (rou c1 n t) n (nI t) a) n a 17 0)), .int (nI a), .ref 57]
                  refine as_57 hΓ (a) rfl (by omega) dX12_findRegisters_76 rfl ?_
                  refine sv_aload_n hΓ dX12_findRegisters_77 rfl 2 rfl rfl ?_
                  refine sv_aload_n hΓ dX12_findRegisters_78 rfl 2 rfl rfl ?_
                  refine g_X12_51_43 hΓ dX12_findRegisters_79 rfl ?_
                  refine sv_iload_n hΓ dX12_findRegisters_82 rfl 0 rfl rfl ?_
                  refine ai_57 hΓ (a) rfl (by omega) dX12_findRegisters_83 rfl ?_
                  show SV E Γ 3 (mm (up2 (rin (rou c1 n t) n (nI t) a) 57 a (nI (rgF (rin (rou c1 n t) n (nI t) a) n a 17 0))) cl cr dy) nx 0 0 84 [(2, .int (nI a)), (1, .int (nI t)), (0, .ref 43)] [.int ((up2 (rin (rou c1 n t) n (nI t) a) 57 a (nI (rgF (rin (rou c1 n t) n (nI t) a) n a 17 0))) 57 a), .ref 43]
                  rw [up2_s]
                  refine sv_aload_n hΓ dX12_findRegisters_84 rfl 2 rfl rfl ?_
                  refine g_X12_207_43 hΓ dX12_findRegisters_85 rfl ?_
                  refine sv_icmp_lt (tgt := 102) hΓ dX12_findRegisters_88 (by decide) rfl (fun u11 => ?_) (fun u11 => ?_)
                  · replace u11 : ((nI (rgF (rin (rou c1 n t) n (nI t) a) n a 17 0)) : Int32) < ((rin (rou c1 n t) n (nI t) a) 43 18) := u11
                    refine sv_aload_n hΓ dX12_findRegisters_102 rfl 2 rfl rfl ?_
                    refine g_X12_207_43 hΓ dX12_findRegisters_103 rfl ?_
                    refine p_X12_207_43 hΓ dX12_findRegisters_106 rfl ?_
                    refine sv_iinc (v := nI (a + 1)) (lv' := [(2, .int (nI (a + 1))), (1, .int (nI t)), (0, .ref 43)]) hΓ dX12_findRegisters_109 0 rfl (nx_inc rfl) (by decide) rfl rfl ?_
                    refine sv_goto (pc' := 41) hΓ dX12_findRegisters_112 (by decide) ?_
                    have q := ih (a + 1) (by omega)
                    rw [show rin (rou c1 n t) n (nI t) (a + 1) = up2 (up2 (rin (rou c1 n t) n (nI t) a) 57 a (nI (rgF (rin (rou c1 n t) n (nI t) a) n a 17 0))) 43 18 ((rin (rou c1 n t) n (nI t) a) 43 18) from by show rst (rin (rou c1 n t) n (nI t) a) n (nI t) a = _; unfold rst; rw [if_pos u7, if_pos u9]; rw [if_pos u11]] at q
                    exact SV_lv [0, 1, 2] rfl q
                  · replace u11 : ¬ (((nI (rgF (rin (rou c1 n t) n (nI t) a) n a 17 0)) : Int32) < ((rin (rou c1 n t) n (nI t) a) 43 18)) := u11
                    refine sv_aload_n hΓ dX12_findRegisters_91 rfl 2 rfl rfl ?_
                    refine g_X12_51_43 hΓ dX12_findRegisters_92 rfl ?_
                    refine sv_iload_n hΓ dX12_findRegisters_95 rfl 0 rfl rfl ?_
                    refine ai_57 hΓ (a) rfl (by omega) dX12_findRegisters_96 rfl ?_
                    show SV E Γ 3 (mm (up2 (rin (rou c1 n t) n (nI t) a) 57 a (nI (rgF (rin (rou c1 n t) n (nI t) a) n a 17 0))) cl cr dy) nx 0 0 97 [(2, .int (nI a)), (1, .int (nI t)), (0, .ref 43)] [.int ((up2 (rin (rou c1 n t) n (nI t) a) 57 a (nI (rgF (rin (rou c1 n t) n (nI t) a) n a 17 0))) 57 a), .ref 43]
                    rw [up2_s]
                    refine sv_iconst (v := 1) hΓ dX12_findRegisters_97 (by decide) rfl ?_
                    refine sv_iaddE (v := nI ((rgF (rin (rou c1 n t) n (nI t) a) n a 17 0) + 1)) hΓ dX12_findRegisters_98 (nx_add rfl rfl) rfl ?_
                    refine sv_goto (pc' := 106) hΓ dX12_findRegisters_99 (by decide) ?_
                    refine p_X12_207_43 hΓ dX12_findRegisters_106 rfl ?_
                    refine sv_iinc (v := nI (a + 1)) (lv' := [(2, .int (nI (a + 1))), (1, .int (nI t)), (0, .ref 43)]) hΓ dX12_findRegisters_109 0 rfl (nx_inc rfl) (by decide) rfl rfl ?_
                    refine sv_goto (pc' := 41) hΓ dX12_findRegisters_112 (by decide) ?_
                    have q := ih (a + 1) (by omega)
                    rw [show rin (rou c1 n t) n (nI t) (a + 1) = up2 (up2 (rin (rou c1 n t) n (nI t) a) 57 a (nI (rgF (rin (rou c1 n t) n (nI t) a) n a 17 0))) 43 18 (nI ((rgF (rin (rou c1 n t) n (nI t) a) n a 17 0) + 1)) from by show rst (rin (rou c1 n t) n (nI t) a) n (nI t) a = _; unfold rst; rw [if_pos u7, if_pos u9]; rw [if_neg u11]] at q
                    exact SV_lv [0, 1, 2] rfl q
          exact SV_lv [0, 1, 2] rfl (LP41 n 0 (by omega))
      exact SV_lv [0, 1] rfl (LP31 (T + 1) 0 (by omega))
    | succ kq ih =>
      intro a ha
      refine sv_iload_n hΓ dX12_findRegisters_7 rfl 0 rfl rfl ?_
      refine sv_aload_n hΓ dX12_findRegisters_8 rfl 1 rfl rfl ?_
      refine g_X12_103_43 hΓ dX12_findRegisters_9 rfl ?_
      refine sv_icmp_ge (tgt := 29) hΓ dX12_findRegisters_12 (by decide) rfl (fun u12 => absurd u12 (by rw [HC]; exact nI_ge (by omega) (by omega))) (fun u12 => ?_)
      replace u12 : ¬ (((clrC (up2 ci 43 18 0) a) 43 1) ≤ ((nI a) : Int32)) := u12
      refine sv_aload_n hΓ dX12_findRegisters_15 rfl 1 rfl rfl ?_
      refine g_X12_51_43 hΓ dX12_findRegisters_16 rfl ?_
      refine sv_iload_n hΓ dX12_findRegisters_19 rfl 0 rfl rfl ?_
      refine sv_bipush (v := (-2)) hΓ dX12_findRegisters_20 (by decide) rfl ?_
      refine as_57 hΓ (a) rfl (by omega) dX12_findRegisters_22 rfl ?_
      refine sv_iinc (v := nI (a + 1)) (lv' := [(1, .int (nI (a + 1))), (0, .ref 43)]) hΓ dX12_findRegisters_23 0 rfl (nx_inc rfl) (by decide) rfl rfl ?_
      refine sv_goto (pc' := 7) hΓ dX12_findRegisters_26 (by decide) ?_
      have q := ih (a + 1) (by omega)
      exact SV_lv [0, 1] rfl q
  exact SV_lv [0, 1] rfl (LP7 n 0 (by omega))
