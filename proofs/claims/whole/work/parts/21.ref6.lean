set_option maxRecDepth 100000 in
set_option maxHeartbeats 4000000 in
/-- lay -/
theorem ct_X12_lay {E : aG} (l : Launch) (n : Nat) {ci : Nat → Nat → Int32} {cl : Nat → Nat → Int64} {cr : Nat → Nat → Option Nat} {dy : aM} {nx : Nat} (hn : ci 43 1 = nI n) (hn6 : n ≤ 16) (hwf : ∀ i, i < n → WF ci i) (hpar : ∀ k, k < 4 → ∃ v, v ≤ 4 ∧ ci 49 k = nI v) (hfi : ∀ cs, FSI (up2 ci 43 0 0) cl cs n → ∀ b, b < n → ¬ kd (ci 44 b) < 0 → ∀ np, ci 49 (kd (ci 44 b)).toNatClampNeg = nI np → 0 ≤ fpF (ly1 (layC (up2 (up2 ci 43 0 0) 43 16 0) cs b) cs b) b (askF (layC (up2 (up2 ci 43 0 0) 43 16 0) cs b) cs b b + nI 200) np 0) (hTT : ∀ cs, FSI (up2 ci 43 0 0) cl cs n → ∃ T, T ≤ 1000 ∧ layC (up2 (up2 ci 43 0 0) 43 16 0) cs n 43 16 = nI T) : CT E l yX12_lay cX12_lay 3 (some .int) 6 [.ref 43] (mm ci cl cr dy) nx 0 0 (fun r M' nx' => (n = 0 ∧ r = some (.int (-2)) ∧ M' = mm (up2 ci 43 0 0) cl cr dy ∧ nx = nx') ∨ (¬ n = 0 ∧ ∃ cs T, FSI (up2 ci 43 0 0) cl cs n ∧ T ≤ 1000 ∧ layC (up2 (up2 ci 43 0 0) 43 16 0) cs n 43 16 = nI T ∧ r = some (.int (nI T)) ∧ M' = mm (up2 (rou (clrC (up2 (layC (up2 (up2 ci 43 0 0) 43 16 0) cs n) 43 18 0) n) n (T + 1)) 43 13 1) cs cr dy ∧ nx = nx')) := by
  refine CT_intro (by decide) (Nat.le_of_ble_eq_true rfl) (fun Γ hΓ hQ => ?_)
  replace hΓ : CK E RX12 cX12_lay 3 (some .int) "lay" 6 0 0 Γ := hΓ
  show SV E Γ 3 (mm ci cl cr dy) nx 0 0 0 [(0, .ref 43)] []
  refine sv_aload_n hΓ dX12_lay_0 rfl 0 rfl rfl ?_
  refine sv_iconst (v := 0) hΓ dX12_lay_1 (by decide) rfl ?_
  refine p_X12_99_43 hΓ dX12_lay_2 rfl ?_
  refine sv_aload_n hΓ dX12_lay_5 rfl 0 rfl rfl ?_
  refine g_X12_103_43 hΓ dX12_lay_6 rfl ?_
  refine sv_if_ne (tgt := 15) hΓ dX12_lay_9 (by decide) rfl (fun u1 => ?_) (fun u1 => ?_)
  · replace u1 : ¬ ((ci 43 1) : Int32) = 0 := u1
    refine sv_aload_n hΓ dX12_lay_15 rfl 0 rfl rfl ?_
    refine sv_callV hΓ (fun l => ct_X12_findSpans l n hn (by omega) hwf) wv_X12_171 vs_X12_findSpans rfl m_43 rfl rfl (by decide) (Nat.le_of_ble_eq_true rfl) (Nat.le_of_ble_eq_true rfl) (Nat.le_of_ble_eq_true rfl) dX12_lay_16 rfl (fun r M' nx' p2 => ?_)
    obtain ⟨rfl, cs, rfl, fs1, rfl⟩ := p2
    show SV E Γ 3 (mm (up2 ci 43 0 0) cs cr dy) nx 0 0 19 [(0, .ref 43)] []
    refine sv_aload_n hΓ dX12_lay_19 rfl 0 rfl rfl ?_
    refine sv_iconst (v := 0) hΓ dX12_lay_20 (by decide) rfl ?_
    refine p_X12_210_43 hΓ dX12_lay_21 rfl ?_
    obtain ⟨c0, hc0⟩ : ∃ z, z = up2 (up2 ci 43 0 0) 43 16 0 := ⟨_, rfl⟩
    rw [← hc0]
    have HL : ∀ b, smL c0 (layC c0 cs b) := fun b => lay_sm c0 cs b
    have HN : ∀ b, layC c0 cs b 43 1 = nI n := fun b => by rw [(HL b).2 1 (by decide), hc0]; exact hn
    have HW : ∀ b i, i < n → WF (layC c0 cs b) i := fun b i hi => (HL b).WF (by rw [hc0]; exact hwf i hi)
    have hfi := hfi cs fs1
    obtain ⟨T, hT2, hT⟩ := hTT cs fs1
    rw [← hc0] at hT hfi
    refine sv_iconst (v := 0) hΓ dX12_lay_24 (by decide) rfl ?_
    refine sv_istore_n (lv' := [(1, .int 0), (0, .ref 43)]) hΓ dX12_lay_25 rfl (by decide) rfl rfl ?_
    have LP26 : ∀ kq b : Nat, b + kq = n → SV E Γ 3 (mm (layC c0 cs b) cs cr dy) nx 0 0 26 [(1, .int (nI b)), (0, .ref 43)] [] := by
      intro kq
      induction kq with
      | zero =>
        intro b ha
        have ea : b = n := by omega
        obtain rfl : n = b := by omega
        refine sv_iload_n hΓ dX12_lay_26 rfl 0 rfl rfl ?_
        refine sv_aload_n hΓ dX12_lay_27 rfl 1 rfl rfl ?_
        refine g_X12_103_43 hΓ dX12_lay_28 rfl ?_
        refine sv_icmp_ge (tgt := 140) hΓ dX12_lay_31 (by decide) rfl (fun u3 => ?_) (fun u3 => absurd (by rw [HN]; exact nI_le (by omega) (by omega)) u3)
        replace u3 : ((layC c0 cs n) 43 1) ≤ ((nI n) : Int32) := u3
        refine sv_aload_n hΓ dX12_lay_140 rfl 1 rfl rfl ?_
        refine sv_callV hΓ (fun l => ct_X12_findRegisters l n T (HN n) (by omega) hT hT2) wv_X12_225 vs_X12_findRegisters rfl m_43 rfl rfl (by decide) (Nat.le_of_ble_eq_true rfl) (Nat.le_of_ble_eq_true rfl) (Nat.le_of_ble_eq_true rfl) dX12_lay_141 rfl (fun r M' nx' p4 => ?_)
        obtain ⟨rfl, rfl, rfl⟩ := p4
        show SV E Γ 3 (mm (rou (clrC (up2 (layC c0 cs n) 43 18 0) n) n (T + 1)) cs cr dy) nx 0 0 144 [(1, .int (nI n)), (0, .ref 43)] []
        refine sv_aload_n hΓ dX12_lay_144 rfl 1 rfl rfl ?_
        refine sv_iconst (v := 1) hΓ dX12_lay_145 (by decide) rfl ?_
        refine p_X12_106_43 hΓ ⟨rfl, rfl⟩ dX12_lay_146 rfl ?_
        refine sv_aload_n hΓ dX12_lay_149 rfl 1 rfl rfl ?_
        refine g_X12_210_43 hΓ dX12_lay_150 rfl ?_
        exact sv_iret hΓ hQ dX12_lay_153 (Nat.le_of_ble_eq_true rfl) (Nat.le_of_ble_eq_true rfl) (Or.inr ⟨fun e => u1 (by rw [hn, e]; exact nI_0), cs, T, fs1, hT2, by rw [← hc0]; exact hT, by rw [up2_j _ _ _ (by decide : (16 : Nat) ≠ 13), (rou_sm _ n _).2 16 (by decide), (clr_sm _ n).2 16 (by decide)]; exact congrArg (fun z => some (Value.int z)) hT, by rw [hc0], rfl⟩)
      | succ kq ih =>
        intro b ha
        refine sv_iload_n hΓ dX12_lay_26 rfl 0 rfl rfl ?_
        refine sv_aload_n hΓ dX12_lay_27 rfl 1 rfl rfl ?_
        refine g_X12_103_43 hΓ dX12_lay_28 rfl ?_
        refine sv_icmp_ge (tgt := 140) hΓ dX12_lay_31 (by decide) rfl (fun u5 => absurd u5 (by rw [HN]; exact nI_ge (by omega) (by omega))) (fun u5 => ?_)
        replace u5 : ¬ (((layC c0 cs b) 43 1) ≤ ((nI b) : Int32)) := u5
        refine sv_aload_n hΓ dX12_lay_34 rfl 1 rfl rfl ?_
        refine g_X12_69_43 hΓ dX12_lay_35 rfl ?_
        refine sv_iload_n hΓ dX12_lay_38 rfl 0 rfl rfl ?_
        refine sv_aload_n hΓ dX12_lay_39 rfl 1 rfl rfl ?_
        refine sv_iload_n hΓ dX12_lay_40 rfl 0 rfl rfl ?_
        refine sv_callV hΓ (fun l => ct_X12_askedFor l b (by omega) (fun i hi => (HW b i (by omega)).o (by omega))) wv_X12_219 vs_X12_askedFor rfl m_43 rfl rfl (by decide) (Nat.le_of_ble_eq_true rfl) (Nat.le_of_ble_eq_true rfl) (Nat.le_of_ble_eq_true rfl) dX12_lay_41 rfl (fun r M' nx' p6 => ?_)
        obtain ⟨rfl, rfl, rfl⟩ := p6
        show SV E Γ 3 (mm (layC c0 cs b) cs cr dy) nx 0 0 44 [(1, .int (nI b)), (0, .ref 43)] [.int (askF (layC c0 cs b) cs b b), .int (nI b), .ref 63]
        refine as_63 hΓ (b) rfl (by omega) dX12_lay_44 rfl ?_
        refine sv_aload_n hΓ dX12_lay_45 rfl 1 rfl rfl ?_
        refine g_X12_69_43 hΓ dX12_lay_46 rfl ?_
        refine sv_iload_n hΓ dX12_lay_49 rfl 0 rfl rfl ?_
        refine ai_63 hΓ (b) rfl (by omega) dX12_lay_50 rfl ?_
        show SV E Γ 3 (mm (up2 (layC c0 cs b) 63 b (askF (layC c0 cs b) cs b b)) cs cr dy) nx 0 0 51 [(1, .int (nI b)), (0, .ref 43)] [.int ((up2 (layC c0 cs b) 63 b (askF (layC c0 cs b) cs b b)) 63 b)]
        rw [up2_s]
        refine sv_istore_n (lv' := [(2, .int (askF (layC c0 cs b) cs b b)), (1, .int (nI b)), (0, .ref 43)]) hΓ dX12_lay_51 rfl (by decide) rfl rfl ?_
        refine sv_aload_n hΓ dX12_lay_52 rfl 2 rfl rfl ?_
        refine g_X12_48_43 hΓ dX12_lay_53 rfl ?_
        refine sv_iload_n hΓ dX12_lay_56 rfl 1 rfl rfl ?_
        refine sv_bipush (v := (-2)) hΓ dX12_lay_57 (by decide) rfl ?_
        refine as_56 hΓ (b) rfl (by omega) dX12_lay_59 rfl ?_
        obtain ⟨c1, hc1⟩ : ∃ z, z = ly1 (layC c0 cs b) cs b := ⟨_, rfl⟩
        rw [show up2 (up2 (layC c0 cs b) 63 b (askF (layC c0 cs b) cs b b)) 56 b ((-2)) = c1 from hc1.symm]
        have e4 : c1 44 b = ci 44 b := by rw [hc1, (ly1_sm _ cs b).1 44 (by decide) (by decide) (by decide) (by decide), (HL b).1 44 (by decide) (by decide) (by decide) (by decide), hc0]; rfl
        have e9 : c1 49 = ci 49 := by rw [hc1, (ly1_sm _ cs b).1 49 (by decide) (by decide) (by decide) (by decide), (HL b).1 49 (by decide) (by decide) (by decide) (by decide), hc0]; rfl
        have hb6 : b < 16 := by omega
        have J95 : SV E Γ 3 (mm (ly2 (layC c0 cs b) cs b) cs cr dy) nx 0 0 95 [(2, .int (lyT (layC c0 cs b) cs b)), (1, .int (nI b)), (0, .ref 43)] [] := by
          refine sv_aload_n hΓ dX12_lay_95 rfl 2 rfl rfl ?_
          refine g_X12_45_43 hΓ dX12_lay_96 rfl ?_
          refine sv_iload_n hΓ dX12_lay_99 rfl 1 rfl rfl ?_
          refine sv_iload_n hΓ dX12_lay_100 rfl 0 rfl rfl ?_
          refine as_55 hΓ (b) rfl (by omega) dX12_lay_101 rfl ?_
          refine sv_aload_n hΓ dX12_lay_102 rfl 2 rfl rfl ?_
          refine sv_iload_n hΓ dX12_lay_103 rfl 0 rfl rfl ?_
          refine sv_aload_n hΓ dX12_lay_104 rfl 2 rfl rfl ?_
          refine sv_iload_n hΓ dX12_lay_105 rfl 1 rfl rfl ?_
          refine sv_callV hΓ (fun l => ct_X12_lengthOf l b (by omega)) wv_X12_168 vs_X12_lengthOf rfl m_43 rfl rfl (by decide) (Nat.le_of_ble_eq_true rfl) (Nat.le_of_ble_eq_true rfl) (Nat.le_of_ble_eq_true rfl) dX12_lay_106 rfl (fun r M' nx' p7 => ?_)
          obtain ⟨rfl, rfl, rfl⟩ := p7
          show SV E Γ 3 (mm (up2 (ly2 (layC c0 cs b) cs b) 55 b (lyT (layC c0 cs b) cs b)) cs cr dy) nx 0 0 109 [(2, .int (lyT (layC c0 cs b) cs b)), (1, .int (nI b)), (0, .ref 43)] [.int (ln (up2 (ly2 (layC c0 cs b) cs b) 55 b (lyT (layC c0 cs b) cs b)) b), .int (lyT (layC c0 cs b) cs b), .ref 43]
          refine sv_iadd hΓ dX12_lay_109 rfl ?_
          refine sv_aload_n hΓ dX12_lay_110 rfl 2 rfl rfl ?_
          refine g_X12_210_43 hΓ dX12_lay_111 rfl ?_
          refine sv_icmp_le (tgt := 127) hΓ dX12_lay_114 (by decide) rfl (fun u8 => ?_) (fun u8 => ?_)
          · replace u8 : (((lyT (layC c0 cs b) cs b) + (ln (up2 (ly2 (layC c0 cs b) cs b) 55 b (lyT (layC c0 cs b) cs b)) b)) : Int32) ≤ ((ly2 (layC c0 cs b) cs b) 43 16) := u8
            refine sv_aload_n hΓ dX12_lay_127 rfl 2 rfl rfl ?_
            refine g_X12_210_43 hΓ dX12_lay_128 rfl ?_
            refine p_X12_210_43 hΓ dX12_lay_131 rfl ?_
            refine sv_iinc (v := nI (b + 1)) (lv' := [(1, .int (nI (b + 1))), (2, .int (lyT (layC c0 cs b) cs b)), (0, .ref 43)]) hΓ dX12_lay_134 1 rfl (nx_inc rfl) (by decide) rfl rfl ?_
            refine sv_goto (pc' := 26) hΓ dX12_lay_137 (by decide) ?_
            have q := ih (b + 1) (by omega)
            rw [show layC c0 cs (b + 1) = up2 (up2 (ly2 (layC c0 cs b) cs b) 55 b (lyT (layC c0 cs b) cs b)) 43 16 ((ly2 (layC c0 cs b) cs b) 43 16) from by show lyS (layC c0 cs b) cs b = _; unfold lyS; rw [if_pos u8]] at q
            exact SV_lv [0, 2] rfl q
          · replace u8 : ¬ ((((lyT (layC c0 cs b) cs b) + (ln (up2 (ly2 (layC c0 cs b) cs b) 55 b (lyT (layC c0 cs b) cs b)) b)) : Int32) ≤ ((ly2 (layC c0 cs b) cs b) 43 16)) := u8
            refine sv_iload_n hΓ dX12_lay_117 rfl 0 rfl rfl ?_
            refine sv_aload_n hΓ dX12_lay_118 rfl 2 rfl rfl ?_
            refine sv_iload_n hΓ dX12_lay_119 rfl 1 rfl rfl ?_
            refine sv_callV hΓ (fun l => ct_X12_lengthOf l b (by omega)) wv_X12_168 vs_X12_lengthOf rfl m_43 rfl rfl (by decide) (Nat.le_of_ble_eq_true rfl) (Nat.le_of_ble_eq_true rfl) (Nat.le_of_ble_eq_true rfl) dX12_lay_120 rfl (fun r M' nx' p9 => ?_)
            obtain ⟨rfl, rfl, rfl⟩ := p9
            show SV E Γ 3 (mm (up2 (ly2 (layC c0 cs b) cs b) 55 b (lyT (layC c0 cs b) cs b)) cs cr dy) nx 0 0 123 [(2, .int (lyT (layC c0 cs b) cs b)), (1, .int (nI b)), (0, .ref 43)] [.int (ln (up2 (ly2 (layC c0 cs b) cs b) 55 b (lyT (layC c0 cs b) cs b)) b), .int (lyT (layC c0 cs b) cs b), .ref 43]
            refine sv_iadd hΓ dX12_lay_123 rfl ?_
            refine sv_goto (pc' := 131) hΓ dX12_lay_124 (by decide) ?_
            refine p_X12_210_43 hΓ dX12_lay_131 rfl ?_
            refine sv_iinc (v := nI (b + 1)) (lv' := [(1, .int (nI (b + 1))), (2, .int (lyT (layC c0 cs b) cs b)), (0, .ref 43)]) hΓ dX12_lay_134 1 rfl (nx_inc rfl) (by decide) rfl rfl ?_
            refine sv_goto (pc' := 26) hΓ dX12_lay_137 (by decide) ?_
            have q := ih (b + 1) (by omega)
            rw [show layC c0 cs (b + 1) = up2 (up2 (ly2 (layC c0 cs b) cs b) 55 b (lyT (layC c0 cs b) cs b)) 43 16 ((lyT (layC c0 cs b) cs b) + (ln (up2 (ly2 (layC c0 cs b) cs b) 55 b (lyT (layC c0 cs b) cs b)) b)) from by show lyS (layC c0 cs b) cs b = _; unfold lyS; rw [if_neg u8]] at q
            exact SV_lv [0, 2] rfl q
        refine sv_aload_n hΓ dX12_lay_60 rfl 2 rfl rfl ?_
        refine sv_iload_n hΓ dX12_lay_61 rfl 1 rfl rfl ?_
        refine sv_callV hΓ (fun l => ct_X12_kindOf l b (by omega)) wv_X12_146 vs_X12_kindOf rfl m_43 rfl rfl (by decide) (Nat.le_of_ble_eq_true rfl) (Nat.le_of_ble_eq_true rfl) (Nat.le_of_ble_eq_true rfl) dX12_lay_62 rfl (fun r M' nx' p10 => ?_)
        obtain ⟨rfl, rfl, rfl⟩ := p10
        show SV E Γ 3 (mm c1 cs cr dy) nx 0 0 65 [(2, .int (askF (layC c0 cs b) cs b b)), (1, .int (nI b)), (0, .ref 43)] [.int (kd (c1 44 b))]
        refine sv_if_lt (tgt := 95) hΓ dX12_lay_65 (by decide) rfl (fun u11 => ?_) (fun u11 => ?_)
        · replace u11 : ((kd (c1 44 b)) : Int32) < 0 := u11
          rw [show lyT (layC c0 cs b) cs b = askF (layC c0 cs b) cs b b from by rw [hc1] at u11; exact if_pos u11, show ly2 (layC c0 cs b) cs b = c1 from by rw [hc1] at u11 ⊢; exact if_pos u11] at J95
          exact SV_lv [0, 1, 2] rfl J95
        · replace u11 : ¬ (((kd (c1 44 b)) : Int32) < 0) := u11
          have hk0 := u11
          obtain ⟨k, hk, ek⟩ := kd_in _ u11
          obtain ⟨np, hp4, hp⟩ := hpar k hk
          have hp0 : c1 49 k = nI np := by rw [e9]; exact hp
          have hfin := hfi b (by omega) (by rw [← e4]; exact hk0) np (by rw [← e4, ek, nI_clamp (by omega)]; exact hp)
          rw [← hc1] at hfin
          have LP68 : ∀ kq m : Nat, m + kq = 200 → sr c1 b np (kq + 1) (askF (layC c0 cs b) cs b b + nI m) = sr c1 b np 201 (askF (layC c0 cs b) cs b b) → SV E Γ 3 (mm c1 cs cr dy) nx 0 0 68 [(2, .int (askF (layC c0 cs b) cs b b + nI m)), (1, .int (nI b)), (0, .ref 43)] [] := by
            intro kq
            induction kq with
            | zero =>
              intro m ha
              have ea : m = 200 := by omega
              intro hf
              refine sv_aload_n hΓ dX12_lay_68 rfl 2 rfl rfl ?_
              refine sv_iload_n hΓ dX12_lay_69 rfl 1 rfl rfl ?_
              refine sv_iload_n hΓ dX12_lay_70 rfl 0 rfl rfl ?_
              refine sv_callV hΓ (fun l => ct_X12_freePart l b (askF (layC c0 cs b) cs b b + nI m) k np (by omega) ek hk hp0 (by omega)) wv_X12_222 vs_X12_freePart rfl m_43 rfl rfl (by decide) (Nat.le_of_ble_eq_true rfl) (Nat.le_of_ble_eq_true rfl) (Nat.le_of_ble_eq_true rfl) dX12_lay_71 rfl (fun r M' nx' p12 => ?_)
              obtain ⟨rfl, rfl, rfl⟩ := p12
              show SV E Γ 3 (mm c1 cs cr dy) nx 0 0 74 [(2, .int (askF (layC c0 cs b) cs b b + nI m)), (1, .int (nI b)), (0, .ref 43)] [.int (fpF c1 b (askF (layC c0 cs b) cs b b + nI m) np 0)]
              refine sv_if_ge (tgt := 83) hΓ dX12_lay_74 (by decide) rfl (fun u13 => ?_) (fun u13 => ?_)
              · replace u13 : 0 ≤ ((fpF c1 b (askF (layC c0 cs b) cs b b + nI m) np 0) : Int32) := u13
                have et : askF (layC c0 cs b) cs b b + nI m = sr c1 b np 201 (askF (layC c0 cs b) cs b b) := by rw [← hf]; exact (if_pos u13).symm
                rw [et]
                refine sv_aload_n hΓ dX12_lay_83 rfl 2 rfl rfl ?_
                refine g_X12_48_43 hΓ dX12_lay_84 rfl ?_
                refine sv_iload_n hΓ dX12_lay_87 rfl 1 rfl rfl ?_
                refine sv_aload_n hΓ dX12_lay_88 rfl 2 rfl rfl ?_
                refine sv_iload_n hΓ dX12_lay_89 rfl 1 rfl rfl ?_
                refine sv_iload_n hΓ dX12_lay_90 rfl 0 rfl rfl ?_
                refine sv_callV hΓ (fun l => ct_X12_freePart l b (sr c1 b np 201 (askF (layC c0 cs b) cs b b)) k np (by omega) ek hk hp0 (by omega)) wv_X12_222 vs_X12_freePart rfl m_43 rfl rfl (by decide) (Nat.le_of_ble_eq_true rfl) (Nat.le_of_ble_eq_true rfl) (Nat.le_of_ble_eq_true rfl) dX12_lay_91 rfl (fun r M' nx' p14 => ?_)
                obtain ⟨rfl, rfl, rfl⟩ := p14
                show SV E Γ 3 (mm c1 cs cr dy) nx 0 0 94 [(2, .int (sr c1 b np 201 (askF (layC c0 cs b) cs b b))), (1, .int (nI b)), (0, .ref 43)] [.int (fpF c1 b (sr c1 b np 201 (askF (layC c0 cs b) cs b b)) np 0), .int (nI b), .ref 56]
                refine as_56 hΓ (b) rfl (by omega) dX12_lay_94 rfl ?_
                have eT : lyT (layC c0 cs b) cs b = sr c1 b np 201 (askF (layC c0 cs b) cs b b) := by rw [hc1] at ek hk0 hp0 ⊢; unfold lyT; rw [if_neg hk0, npF, ek, nI_clamp (by omega), hp0, nI_clamp (by omega)]
                have eM : ly2 (layC c0 cs b) cs b = up2 c1 56 b (fpF c1 b (sr c1 b np 201 (askF (layC c0 cs b) cs b b)) np 0) := by rw [← eT]; rw [hc1] at ek hk0 hp0 ⊢; unfold ly2; rw [if_neg hk0, npF, ek, nI_clamp (by omega), hp0, nI_clamp (by omega)]
                rw [eT, eM] at J95
                exact SV_lv [0, 1, 2] rfl J95
              · replace u13 : ¬ (0 ≤ ((fpF c1 b (askF (layC c0 cs b) cs b b + nI m) np 0) : Int32)) := u13
                refine sv_iinc (v := (askF (layC c0 cs b) cs b b + nI m) + 1) (lv' := [(2, .int ((askF (layC c0 cs b) cs b b + nI m) + 1)), (1, .int (nI b)), (0, .ref 43)]) hΓ dX12_lay_77 0 rfl (rfl) (by decide) rfl rfl ?_
                refine sv_goto (pc' := 68) hΓ dX12_lay_80 (by decide) ?_
                exact absurd (by rw [show m = 200 by omega]; exact hfin) u13
            | succ kq ihw =>
              intro m ha
              intro hf
              refine sv_aload_n hΓ dX12_lay_68 rfl 2 rfl rfl ?_
              refine sv_iload_n hΓ dX12_lay_69 rfl 1 rfl rfl ?_
              refine sv_iload_n hΓ dX12_lay_70 rfl 0 rfl rfl ?_
              refine sv_callV hΓ (fun l => ct_X12_freePart l b (askF (layC c0 cs b) cs b b + nI m) k np (by omega) ek hk hp0 (by omega)) wv_X12_222 vs_X12_freePart rfl m_43 rfl rfl (by decide) (Nat.le_of_ble_eq_true rfl) (Nat.le_of_ble_eq_true rfl) (Nat.le_of_ble_eq_true rfl) dX12_lay_71 rfl (fun r M' nx' p15 => ?_)
              obtain ⟨rfl, rfl, rfl⟩ := p15
              show SV E Γ 3 (mm c1 cs cr dy) nx 0 0 74 [(2, .int (askF (layC c0 cs b) cs b b + nI m)), (1, .int (nI b)), (0, .ref 43)] [.int (fpF c1 b (askF (layC c0 cs b) cs b b + nI m) np 0)]
              refine sv_if_ge (tgt := 83) hΓ dX12_lay_74 (by decide) rfl (fun u16 => ?_) (fun u16 => ?_)
              · replace u16 : 0 ≤ ((fpF c1 b (askF (layC c0 cs b) cs b b + nI m) np 0) : Int32) := u16
                have et : askF (layC c0 cs b) cs b b + nI m = sr c1 b np 201 (askF (layC c0 cs b) cs b b) := by rw [← hf]; exact (if_pos u16).symm
                rw [et]
                refine sv_aload_n hΓ dX12_lay_83 rfl 2 rfl rfl ?_
                refine g_X12_48_43 hΓ dX12_lay_84 rfl ?_
                refine sv_iload_n hΓ dX12_lay_87 rfl 1 rfl rfl ?_
                refine sv_aload_n hΓ dX12_lay_88 rfl 2 rfl rfl ?_
                refine sv_iload_n hΓ dX12_lay_89 rfl 1 rfl rfl ?_
                refine sv_iload_n hΓ dX12_lay_90 rfl 0 rfl rfl ?_
                refine sv_callV hΓ (fun l => ct_X12_freePart l b (sr c1 b np 201 (askF (layC c0 cs b) cs b b)) k np (by omega) ek hk hp0 (by omega)) wv_X12_222 vs_X12_freePart rfl m_43 rfl rfl (by decide) (Nat.le_of_ble_eq_true rfl) (Nat.le_of_ble_eq_true rfl) (Nat.le_of_ble_eq_true rfl) dX12_lay_91 rfl (fun r M' nx' p17 => ?_)
                obtain ⟨rfl, rfl, rfl⟩ := p17
                show SV E Γ 3 (mm c1 cs cr dy) nx 0 0 94 [(2, .int (sr c1 b np 201 (askF (layC c0 cs b) cs b b))), (1, .int (nI b)), (0, .ref 43)] [.int (fpF c1 b (sr c1 b np 201 (askF (layC c0 cs b) cs b b)) np 0), .int (nI b), .ref 56]
                refine as_56 hΓ (b) rfl (by omega) dX12_lay_94 rfl ?_
                have eT : lyT (layC c0 cs b) cs b = sr c1 b np 201 (askF (layC c0 cs b) cs b b) := by rw [hc1] at ek hk0 hp0 ⊢; unfold lyT; rw [if_neg hk0, npF, ek, nI_clamp (by omega), hp0, nI_clamp (by omega)]
                have eM : ly2 (layC c0 cs b) cs b = up2 c1 56 b (fpF c1 b (sr c1 b np 201 (askF (layC c0 cs b) cs b b)) np 0) := by rw [← eT]; rw [hc1] at ek hk0 hp0 ⊢; unfold ly2; rw [if_neg hk0, npF, ek, nI_clamp (by omega), hp0, nI_clamp (by omega)]
                rw [eT, eM] at J95
                exact SV_lv [0, 1, 2] rfl J95
              · replace u16 : ¬ (0 ≤ ((fpF c1 b (askF (layC c0 cs b) cs b b + nI m) np 0) : Int32)) := u16
                refine sv_iinc (v := (askF (layC c0 cs b) cs b b + nI m) + 1) (lv' := [(2, .int ((askF (layC c0 cs b) cs b b + nI m) + 1)), (1, .int (nI b)), (0, .ref 43)]) hΓ dX12_lay_77 0 rfl (rfl) (by decide) rfl rfl ?_
                refine sv_goto (pc' := 68) hΓ dX12_lay_80 (by decide) ?_
                have q := ihw (m + 1) (by omega) (by rw [← hf, ← i32_s]; exact (if_neg u16).symm)
                rw [← i32_s] at q
                exact SV_lv [0, 1, 2] rfl q
          have q := LP68 200 0 (by omega) (by rw [nI_add0])
          rw [nI_add0] at q
          exact SV_lv [0, 1, 2] rfl q
    exact SV_lv [0, 1] rfl (LP26 n 0 (by omega))
  · replace u1 : ((ci 43 1) : Int32) = 0 := u1
    refine sv_bipush (v := (-2)) hΓ dX12_lay_12 (by decide) rfl ?_
    exact sv_iret hΓ hQ dX12_lay_14 (Nat.le_of_ble_eq_true rfl) (Nat.le_of_ble_eq_true rfl) (Or.inl ⟨by rw [hn] at u1; exact (nI_eq (by omega) (by omega)).mp (u1.trans nI_0.symm), rfl, rfl, rfl⟩)
