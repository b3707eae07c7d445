/-- behind a run: endTick too -/
theorem RO_11 {c : aI} {l : aL} {g : Nat → Nat} {ci ci' : aI} {cl cl' : aL} {i : Nat} {v : Int32} (h : RO c l g ci ci' cl cl' i) : RO c l g ci (up2 ci' 18 11 v) cl cl' i := by
  obtain ⟨⟨⟨m1, m2, m3⟩, m4, m5⟩, hF⟩ := h
  refine ⟨⟨⟨?_, ?_, ?_⟩, fun p hp => ⟨?_, ?_⟩, m5⟩, hF.i (Or.inl rfl)⟩
  · rw [up2_j _ _ _ (by decide)]; exact m1
  · rw [up2_j _ _ _ (by decide)]; exact m2
  · rw [up2_j _ _ _ (by decide)]; exact m3
  · rw [up2_k _ _ _ (by decide)]; exact (m4 p hp).1
  · rw [up2_k _ _ _ (by omega)]; exact (m4 p hp).2
set_option maxRecDepth 100000 in
set_option maxHeartbeats 1000000 in
/-- begin -/
theorem ct_X3_begin {E : aG} (l : Launch) (c : aI) (nu : Nat → Int64) (lg : aL) (n : Nat) (a : Nat) {ci : Nat → Nat → Int32} {cl : Nat → Nat → Int64} {cr : Nat → Nat → Option Nat} {dy : aM} {nx : Nat} (hB : BK c nu ci cr dy n) (hM : MR c lg ci cl) (hF : FD c lg ci cl) (hT : TR cr) (ha : a < n) (hp : PRE c a) (hrx : RX c a) (hC : c 44 a = 0 → SL c nu a = lg 48 a) (hNW : NW E) : CT E l yX3_begin cX3_begin 3 none 3 [.ref 18, .int (nI a)] (mm ci cl cr dy) nx 0 0 (fun r M' nx' => r = none ∧ ∃ ci' cl', BG (c, lg) a ci ci' cl cl' ∧ M' = mm ci' cl' cr dy ∧ nx = nx') := by
  refine CT_intro (by decide) (Nat.le_of_ble_eq_true rfl) (fun Γ hΓ hQ => ?_)
  replace hΓ : CK E RX3 cX3_begin 3 none "begin" 3 0 0 Γ := hΓ
  have hB0 := hB
  obtain ⟨hAC, hST, hn6, hn, hwf, hwp, hln⟩ := hB
  obtain ⟨c1, hc1⟩ : ∃ c1 : aI, c1 = up2 c 43 22 (c 43 22 + 1) := ⟨_, rfl⟩
  have sm1 : sm c c1 := by rw [hc1]; exact sm.up (by decide)
  have hM1 : MR c1 lg (up2 ci 18 10 (ci 18 10 + 1)) cl := by rw [hc1]; exact MR_b hM
  have hPR : PRE c1 a := by rw [hc1]; exact hp
  have hF1 : FD c1 lg (up2 ci 18 10 (ci 18 10 + 1)) cl := fun p hp => ⟨by rw [hc1, up2_k _ _ _ (by omega : 26 + 2 * (2 * p) ≠ 18), up2_k _ _ _ (by decide : (52 : Nat) ≠ 43)]; exact (hF p hp).1, (hF p hp).2⟩
  have hrx1 : RX c1 a := by rw [hc1]; exact hrx
  have hC1 : c1 44 a = 0 → SL c1 nu a = lg 48 a := by rw [sm1.1, SL_c sm1.1 sm1.2.1 sm1.2.2.1]; exact hC
  have ewh : whF c1 lg a = whF c lg a := by rw [hc1]; rfl
  have egv : gvF c1 lg a = gvF c lg a := by rw [hc1]; rfl
  show SV E Γ 3 (mm ci cl cr dy) nx 0 0 0 [(0, .ref 18), (1, .int (nI a))] []
  refine sv_aload_n hΓ dX3_begin_0 rfl 0 rfl rfl ?_
  refine g_X3_50_18 hΓ dX3_begin_1 rfl ?_
  refine sv_iload_n hΓ dX3_begin_4 rfl 1 rfl rfl ?_
  obtain ⟨kg1, sg1, hrg1, hAg1⟩ := hAC a (by omega)
  refine sv_callV hΓ (fun l => ct_X1_get l a kg1 (by omega) hrg1) wv_X3_93 vs_X1_get rfl m_2 rfl rfl (by decide) (Nat.le_of_ble_eq_true rfl) (Nat.le_of_ble_eq_true rfl) (Nat.le_of_ble_eq_true rfl) dX3_begin_5 rfl (fun r M' nx' p2 => ?_)
  obtain ⟨rfl, rfl, rfl⟩ := p2
  show SV E Γ 3 (mm ci cl cr dy) nx 0 0 8 [(0, .ref 18), (1, .int (nI a))] [.ref kg1]
  refine sv_astore_n (lv' := [(2, .ref kg1), (0, .ref 18), (1, .int (nI a))]) hΓ dX3_begin_8 rfl (by decide) rfl rfl ?_
  refine sv_aload_n hΓ dX3_begin_9 rfl 1 rfl rfl ?_
  refine sv_dup hΓ dX3_begin_10 rfl rfl ?_
  refine g_X3_44_18 hΓ dX3_begin_11 rfl ?_
  refine sv_iconst (v := 1) hΓ dX3_begin_14 (by decide) rfl ?_
  refine sv_iadd hΓ dX3_begin_15 rfl ?_
  refine p_X3_44_18 hΓ dX3_begin_16 rfl ?_
  refine sv_aload_n hΓ dX3_begin_19 rfl 1 rfl rfl ?_
  refine sv_aload_n hΓ dX3_begin_20 rfl 0 rfl rfl ?_
  refine sv_callV hΓ (fun l => ct_X3_failsNow l c1 nu lg a kg1 sg1 (sm1.AT hAg1) hM1 hF1 hT (sm1.WF (hwf a (by omega))) (by omega) hPR hNW) wv_X3_97 vs_X3_failsNow rfl m_18 rfl rfl (by decide) (Nat.le_of_ble_eq_true rfl) (Nat.le_of_ble_eq_true rfl) (Nat.le_of_ble_eq_true rfl) dX3_begin_21 rfl (fun r M' nx' p3 => ?_)
  obtain ⟨rfl, rfl, rfl⟩ := p3
  show SV E Γ 3 (mm (up2 ci 18 10 ((ci 18 10) + 1)) cl cr dy) nx 0 0 24 [(2, .ref kg1), (0, .ref 18), (1, .int (nI a))] [.int (bI (¬ whF c1 lg a = 0))]
  rw [ewh]
  refine sv_if_eq (tgt := 41) hΓ dX3_begin_24 (by decide) rfl (fun u4 => ?_) (fun u4 => ?_)
  · replace u4 := bI_0.mp u4
    have h0 : whF c lg a = 0 := Decidable.not_not.mp u4
    obtain ⟨p, hp1⟩ := ex_p (hwf a (by omega))
    obtain ⟨pu, hpu⟩ := ex_pu hp hp1
    obtain ⟨x, j, hxj⟩ := ex_xj (by omega) (hwf a (by omega)) h0
    refine sv_aload_n hΓ dX3_begin_41 rfl 1 rfl rfl ?_
    refine g_X3_34_18 hΓ dX3_begin_42 rfl ?_
    refine sv_iload_n hΓ dX3_begin_45 rfl 2 rfl rfl ?_
    refine sv_aload_n hΓ dX3_begin_46 rfl 1 rfl rfl ?_
    refine sv_aload_n hΓ dX3_begin_47 rfl 0 rfl rfl ?_
    refine sv_callV hΓ (fun l => ct_X3_result l c1 nu lg a kg1 sg1 (sm1.AT hAg1) hM1 hF1 hT (sm1.WF (hwf a (by omega))) (by omega) hPR hNW hrx1 hC1 (ewh.trans h0)) wv_X3_105 vs_X3_result rfl m_18 rfl rfl (by decide) (Nat.le_of_ble_eq_true rfl) (Nat.le_of_ble_eq_true rfl) (Nat.le_of_ble_eq_true rfl) dX3_begin_48 rfl (fun r M' nx' p5 => ?_)
    obtain ⟨rfl, rfl, rfl⟩ := p5
    show SV E Γ 3 (mm (up2 ci 18 10 ((ci 18 10) + 1)) cl cr dy) nx 0 0 51 [(2, .ref kg1), (0, .ref 18), (1, .int (nI a))] [.long (gvF c1 lg a), .int (nI a), .ref 25]
    rw [egv]
    refine sv_aload_n hΓ dX3_begin_51 rfl 0 rfl rfl ?_
    refine gt_X3_109 hΓ hAg1.m rfl dX3_begin_52 rfl ?_
    refine sv_callSN hΓ (fun l => ct_X11_cut l (gvF c lg a) (c 45 a) ) hNW.2.2.2.2.1 tb_259 rfl rfl (by decide) (Nat.le_of_ble_eq_true rfl) (Nat.le_of_ble_eq_true rfl) (Nat.le_of_ble_eq_true rfl) dX3_begin_55 rfl (fun r M' nx' p6 => ?_)
    obtain ⟨rfl, rfl, rfl⟩ := p6
    show SV E Γ 3 (mm (up2 ci 18 10 ((ci 18 10) + 1)) cl cr dy) nx 0 0 58 [(2, .ref kg1), (0, .ref 18), (1, .int (nI a))] [.long (cutF (gvF c lg a) (c 45 a)), .int (nI a), .ref 25]
    refine at_25 hΓ (a) rfl (by omega) dX3_begin_58 rfl ?_
    refine sv_aload_n hΓ dX3_begin_59 rfl 1 rfl rfl ?_
    refine sv_aload_n hΓ dX3_begin_60 rfl 0 rfl rfl ?_
    refine sv_aload_n hΓ dX3_begin_61 rfl 1 rfl rfl ?_
    refine g_X3_34_18 hΓ dX3_begin_62 rfl ?_
    refine sv_iload_n hΓ dX3_begin_65 rfl 2 rfl rfl ?_
    refine al_25 hΓ (a) rfl (by omega) dX3_begin_66 rfl ?_
    show SV E Γ 3 (mm (up2 ci 18 10 ((ci 18 10) + 1)) (up2 cl 25 a (cutF (gvF c lg a) (c 45 a))) cr dy) nx 0 0 67 [(2, .ref kg1), (0, .ref 18), (1, .int (nI a))] [.long ((up2 cl 25 a (cutF (gvF c lg a) (c 45 a))) 25 a), .ref kg1, .ref 18]
    rw [up2_s]
    refine sv_callV hΓ (fun l => ct_X3_passOutside l c nu a kg1 sg1 (cutF (gvF c lg a) (c 45 a)) p pu x j hAg1 hNW hT hp1 (fun e => ⟨oC_x (hxj e).1.1 (by have := (hxj e).1.2; omega), by have := (hxj e).1.2; omega, (up2_j _ _ _ (by have := (hxj e).1.2; omega)).trans ((hM.2.2.2.1 x (by have := (hxj e).1.2; omega)).trans (hxj e).2.1), (hxj e).2.2⟩) (fun e => ⟨(congrFun (up2_k _ _ _ (by omega)) 1).trans ((hM.2.1 p (hp1 (Or.inr e)).2).2.trans (hpu e).1), (hpu e).2⟩)) wv_X3_116 vs_X3_passOutside rfl m_18 rfl rfl (by decide) (Nat.le_of_ble_eq_true rfl) (Nat.le_of_ble_eq_true rfl) (Nat.le_of_ble_eq_true rfl) dX3_begin_67 rfl (fun r M' nx' p7 => ?_)
    rcases p7 with ⟨hq1, rfl, rfl, rfl⟩ | ⟨hq9, rfl, rfl, rfl⟩ | ⟨hq10, rfl, rfl, rfl⟩ | ⟨hn1, hn9, hn10, rfl, rfl, rfl⟩
    · show SV E Γ 3 (mm (up2 (up2 ci 18 10 ((ci 18 10) + 1)) 23 p ((up2 ci 18 10 ((ci 18 10) + 1)) 23 p + 1)) (up2 cl 25 a (cutF (gvF c lg a) (c 45 a))) cr dy) nx 0 0 70 [(2, .ref kg1), (0, .ref 18), (1, .int (nI a))] []
      exact sv_vret hΓ hQ dX3_begin_70 (Nat.le_of_ble_eq_true rfl) (Nat.le_of_ble_eq_true rfl) ⟨rfl, _, _, BG_1 h0 hM hq1 (hp1 (Or.inl hq1)).1 (hp1 (Or.inl hq1)).2, rfl, rfl⟩
    · show SV E Γ 3 (mm (up2 ci 18 10 ((ci 18 10) + 1)) (up2 (up2 cl 25 a (cutF (gvF c lg a) (c 45 a))) 22 j (nmF c lg a)) cr dy) nx 0 0 70 [(2, .ref kg1), (0, .ref 18), (1, .int (nI a))] []
      exact sv_vret hΓ hQ dX3_begin_70 (Nat.le_of_ble_eq_true rfl) (Nat.le_of_ble_eq_true rfl) ⟨rfl, _, _, BG_9 (by omega) h0 hM hq9 (hxj hq9).1.1 (hxj hq9).1.2 (hxj hq9).2.1 (hxj hq9).2.2, rfl, rfl⟩
    · show SV E Γ 3 (mm (up2 (up2 ci 18 10 ((ci 18 10) + 1)) (26 + 2 * (2 * p + 1)) 1 (nI (pu + 1))) (up2 (up2 cl 25 a (cutF (gvF c lg a) (c 45 a))) (27 + 2 * (2 * p + 1)) pu (nmF c lg a)) cr dy) nx 0 0 70 [(2, .ref kg1), (0, .ref 18), (1, .int (nI a))] []
      exact sv_vret hΓ hQ dX3_begin_70 (Nat.le_of_ble_eq_true rfl) (Nat.le_of_ble_eq_true rfl) ⟨rfl, _, _, BG_10 h0 hM hq10 (hp1 (Or.inr hq10)).1 (hp1 (Or.inr hq10)).2 (hpu hq10).1 (hpu hq10).2, rfl, rfl⟩
    · show SV E Γ 3 (mm (up2 ci 18 10 ((ci 18 10) + 1)) (up2 cl 25 a (cutF (gvF c lg a) (c 45 a))) cr dy) nx 0 0 70 [(2, .ref kg1), (0, .ref 18), (1, .int (nI a))] []
      exact sv_vret hΓ hQ dX3_begin_70 (Nat.le_of_ble_eq_true rfl) (Nat.le_of_ble_eq_true rfl) ⟨rfl, _, _, BG_o h0 hM hn1 hn9 hn10, rfl, rfl⟩
  · replace u4 := bI_ne.mp u4
    refine sv_aload_n hΓ dX3_begin_27 rfl 1 rfl rfl ?_
    refine sv_aload_n hΓ dX3_begin_28 rfl 0 rfl rfl ?_
    refine sv_callV hΓ (fun l => ct_X0_failure l c nu a kg1 sg1 hAg1) wv_X3_101 vs_X0_failure rfl hAg1.m rfl rfl (by decide) (Nat.le_of_ble_eq_true rfl) (Nat.le_of_ble_eq_true rfl) (Nat.le_of_ble_eq_true rfl) dX3_begin_29 rfl (fun r M' nx' p8 => ?_)
    obtain ⟨rfl, rfl, rfl⟩ := p8
    show SV E Γ 3 (mm (up2 ci 18 10 ((ci 18 10) + 1)) cl cr dy) nx 0 0 32 [(2, .ref kg1), (0, .ref 18), (1, .int (nI a))] [.int (flF (c 44 a)), .ref 18]
    refine p_X3_37_18 hΓ dX3_begin_32 rfl ?_
    refine sv_aload_n hΓ dX3_begin_35 rfl 1 rfl rfl ?_
    refine sv_iload_n hΓ dX3_begin_36 rfl 2 rfl rfl ?_
    refine p_X3_41_18 hΓ dX3_begin_37 rfl ?_
    exact sv_vret hΓ hQ dX3_begin_40 (Nat.le_of_ble_eq_true rfl) (Nat.le_of_ble_eq_true rfl) ⟨rfl, _, _, BG_f u4 hM, rfl, rfl⟩
set_option maxRecDepth 100000 in
set_option maxHeartbeats 1000000 in
/-- reset -/
theorem ct_X3_reset {E : aG} (l : Launch) (c : aI) (lg : aL) {ci : Nat → Nat → Int32} {cl : Nat → Nat → Int64} {cr : Nat → Nat → Option Nat} {dy : aM} {nx : Nat} (hN : NP lg cl) (h54 : ∀ i, i < 16 → cl 21 i = lg 54 i) (hT : TR cr) : CT E l yX3_reset cX3_reset 2 none 1 [.ref 18] (mm ci cl cr dy) nx 0 0 (fun r M' nx' => r = none ∧ ∃ ci' cl', (MR (rs0 c lg).1 (rs0 c lg).2 ci' cl' ∧ MF ci ci' cl cl') ∧ M' = mm ci' cl' cr dy ∧ nx = nx') := by
  refine CT_intro (by decide) (Nat.le_of_ble_eq_true rfl) (fun Γ hΓ hQ => ?_)
  replace hΓ : CK E RX3 cX3_reset 2 none "reset" 1 0 0 Γ := hΓ
  show SV E Γ 2 (mm ci cl cr dy) nx 0 0 0 [(0, .ref 18)] []
  refine sv_aload_n hΓ dX3_reset_0 rfl 0 rfl rfl ?_
  refine g_X3_20_18 hΓ dX3_reset_1 rfl ?_
  refine sv_iconst (v := 0) hΓ dX3_reset_4 (by decide) rfl ?_
  refine sv_aload_n hΓ dX3_reset_5 rfl 0 rfl rfl ?_
  refine g_X3_24_18 hΓ dX3_reset_6 rfl ?_
  refine sv_iconst (v := 0) hΓ dX3_reset_9 (by decide) rfl ?_
  refine sv_bipush (v := 16) hΓ dX3_reset_10 (by decide) rfl ?_
  refine sv_copyl hΓ ⟨tb_659, tb_661, tb_660, tb_19⟩ m_21 m_22 (by decide) (by decide) (by decide) (by decide) (by decide) (by decide) (Nat.le_of_ble_eq_true rfl) dX3_reset_12 rfl ?_
  refine SV_eq (M' := mm ci (up1 cl 22 (va_cpy (cl 21) (cl 22) 0 0 16)) cr dy) (mm_L 21 rfl rfl) ?_
  show SV E Γ 2 (mm ci (up1 cl 22 (va_cpy (cl 21) (cl 22) 0 0 16)) cr dy) nx 0 0 15 [(0, .ref 18)] []
  refine sv_iconst (v := 0) hΓ dX3_reset_15 (by decide) rfl ?_
  refine sv_istore_n (lv' := [(1, .int 0), (0, .ref 18)]) hΓ dX3_reset_16 rfl (by decide) rfl rfl ?_
  have LP17 : ∀ kq p : Nat, p + kq = 4 → ∀ ci', RSI ci ci' p → SV E Γ 2 (mm ci' (up1 cl 22 (va_cpy (cl 21) (cl 22) 0 0 16)) cr dy) nx 0 0 17 [(1, .int (nI p)), (0, .ref 18)] [] := by
    intro kq
    induction kq with
    | zero =>
      intro p ha
      have ea : p = 4 := by omega
      intro ci' hI
      refine sv_iload_n hΓ dX3_reset_17 rfl 0 rfl rfl ?_
      refine sv_iconst (v := 4) hΓ dX3_reset_18 (by decide) rfl ?_
      refine sv_icmp_ge (tgt := 44) hΓ dX3_reset_19 (by decide) rfl (fun u1 => ?_) (fun u1 => absurd (nI_le (a := 4) (by omega) (by omega)) u1)
      replace u1 : 4 ≤ ((nI p) : Int32) := u1
      refine sv_aload_n hΓ dX3_reset_44 rfl 1 rfl rfl ?_
      refine sv_iconst (v := 0) hΓ dX3_reset_45 (by decide) rfl ?_
      refine p_X3_37_18 hΓ dX3_reset_46 rfl ?_
      refine sv_aload_n hΓ dX3_reset_49 rfl 1 rfl rfl ?_
      refine sv_bipush (v := (-2)) hΓ dX3_reset_50 (by decide) rfl ?_
      refine p_X3_41_18 hΓ dX3_reset_52 rfl ?_
      refine sv_aload_n hΓ dX3_reset_55 rfl 1 rfl rfl ?_
      refine sv_iconst (v := 0) hΓ dX3_reset_56 (by decide) rfl ?_
      refine p_X3_44_18 hΓ dX3_reset_57 rfl ?_
      exact sv_vret hΓ hQ dX3_reset_60 (Nat.le_of_ble_eq_true rfl) (Nat.le_of_ble_eq_true rfl) ⟨rfl, _, _, RS_e hN h54 (ea ▸ hI), rfl, rfl⟩
    | succ kq ih =>
      intro p ha
      intro ci' hI
      refine sv_iload_n hΓ dX3_reset_17 rfl 0 rfl rfl ?_
      refine sv_iconst (v := 4) hΓ dX3_reset_18 (by decide) rfl ?_
      refine sv_icmp_ge (tgt := 44) hΓ dX3_reset_19 (by decide) rfl (fun u2 => absurd u2 (nI_ge (b := 4) (by omega) (by omega))) (fun u2 => ?_)
      replace u2 : ¬ (4 ≤ ((nI p) : Int32)) := u2
      refine sv_aload_n hΓ dX3_reset_22 rfl 1 rfl rfl ?_
      refine g_X3_27_18 hΓ dX3_reset_23 rfl ?_
      refine sv_iload_n hΓ dX3_reset_26 rfl 0 rfl rfl ?_
      refine sv_iconst (v := 0) hΓ dX3_reset_27 (by decide) rfl ?_
      refine as_23 hΓ (p) rfl (by omega) dX3_reset_28 rfl ?_
      refine sv_aload_n hΓ dX3_reset_29 rfl 1 rfl rfl ?_
      refine g_X3_17_18 hΓ dX3_reset_30 rfl ?_
      refine sv_iload_n hΓ dX3_reset_33 rfl 0 rfl rfl ?_
      refine ar_20 hΓ (p) rfl (by omega) dX3_reset_34 (v := .ref (26 + 2 * (2 * p + 1))) (rf_some (hT p (by omega)).2) rfl ?_
      refine sv_callV hΓ (fun l => ct_X10_clear l (2 * p + 1) (by omega)) wv_X3_90 vs_X10_clear rfl (m_tp (q := 2 * p + 1) (by omega)) rfl rfl (by decide) (Nat.le_of_ble_eq_true rfl) (Nat.le_of_ble_eq_true rfl) (Nat.le_of_ble_eq_true rfl) dX3_reset_35 rfl (fun r M' nx' p3 => ?_)
      obtain ⟨rfl, rfl, rfl⟩ := p3
      show SV E Γ 2 (mm (up2 (up2 ci' 23 p 0) (26 + 2 * (2 * p + 1)) 1 0) (up1 cl 22 (va_cpy (cl 21) (cl 22) 0 0 16)) cr dy) nx 0 0 38 [(1, .int (nI p)), (0, .ref 18)] []
      refine sv_iinc (v := nI (p + 1)) (lv' := [(1, .int (nI (p + 1))), (0, .ref 18)]) hΓ dX3_reset_38 0 rfl (nx_inc rfl) (by decide) rfl rfl ?_
      refine sv_goto (pc' := 17) hΓ dX3_reset_41 (by decide) ?_
      exact SV_lv [0, 1] rfl (ih (p + 1) (by omega) _ (RSI_s (by omega) hI))
  exact SV_lv [0, 1] rfl (LP17 4 0 (by omega) _ RSI_0)
set_option maxRecDepth 100000 in
set_option maxHeartbeats 1000000 in
/-- runInOrder -/
theorem ct_X3_runInOrderL {E : aG} (l : Launch) (c : aI) (nu : Nat → Int64) (lg : aL) (n : Nat) (g : Nat → Nat) {ci : Nat → Nat → Int32} {cl : Nat → Nat → Int64} {cr : Nat → Nat → Option Nat} {dy : aM} {nx : Nat} (hG : RG c nu lg ci cl cr dy n) (ho : ∀ i, i < n → ci 13 i = nI (g i)) (hg : ∀ i, i < n → g i < n) (hinj : ∀ i j, i < j → j < n → ¬ g i = g j) (hNW : NW E) : CT E l yX3_runInOrder cX3_runInOrder 4 none 4 [.ref 18, .ref 13] (mm ci cl cr dy) nx 0 0 (fun r M' nx' => r = none ∧ ∃ ci' cl', RO c lg g ci ci' cl cl' n ∧ M' = mm ci' cl' cr dy ∧ nx = nx') := by
  refine CT_intro (by decide) (Nat.le_of_ble_eq_true rfl) (fun Γ hΓ hQ => ?_)
  replace hΓ : CK E RX3 cX3_runInOrder 4 none "runInOrder" 4 0 0 Γ := hΓ
  have hn6 := hG.1.2.2.1
  show SV E Γ 4 (mm ci cl cr dy) nx 0 0 0 [(0, .ref 18), (1, .ref 13)] []
  refine sv_aload_n hΓ dX3_runInOrder_0 rfl 0 rfl rfl ?_
  refine sv_callV hΓ (fun l => ct_X3_reset l c lg hG.2.2.2.1 hG.2.2.2.2.1 hG.2.2.1) wv_X3_72 vs_X3_reset rfl m_18 rfl rfl (by decide) (Nat.le_of_ble_eq_true rfl) (Nat.le_of_ble_eq_true rfl) (Nat.le_of_ble_eq_true rfl) dX3_runInOrder_1 rfl (fun r M' nx' p1 => ?_)
  obtain ⟨rfl, c1, l1, hR0, rfl, rfl⟩ := p1
  show SV E Γ 4 (mm c1 l1 cr dy) nx 0 0 4 [(0, .ref 18), (1, .ref 13)] []
  refine sv_iconst (v := 0) hΓ dX3_runInOrder_4 (by decide) rfl ?_
  refine sv_istore_n (lv' := [(2, .int 0), (0, .ref 18), (1, .ref 13)]) hΓ dX3_runInOrder_5 rfl (by decide) rfl rfl ?_
  have LP6 : ∀ kq i : Nat, i + kq = n → ∀ ci' cl', RO c lg g ci ci' cl cl' i → SV E Γ 4 (mm ci' cl' cr dy) nx 0 0 6 [(2, .int (nI i)), (0, .ref 18), (1, .ref 13)] [] := by
    intro kq
    induction kq with
    | zero =>
      intro i ha
      have ea : i = n := by omega
      intro ci' cl' hR
      have hnb : ci' 2 1 = nI n := by rw [hR.2.1 2 (by decide) (by decide) (by decide) (by decide) (by decide) (by decide)]; exact hG.1.2.2.2.1
      refine sv_iload_n hΓ dX3_runInOrder_6 rfl 0 rfl rfl ?_
      refine sv_aload_n hΓ dX3_runInOrder_7 rfl 1 rfl rfl ?_
      refine g_X3_50_18 hΓ dX3_runInOrder_8 rfl ?_
      refine sv_callV hΓ (fun l => ct_X1_sizeN l n hnb) wv_X3_75 vs_X1_size rfl m_2 rfl rfl (by decide) (Nat.le_of_ble_eq_true rfl) (Nat.le_of_ble_eq_true rfl) (Nat.le_of_ble_eq_true rfl) dX3_runInOrder_11 rfl (fun r M' nx' p2 => ?_)
      obtain ⟨rfl, rfl, rfl⟩ := p2
      show SV E Γ 4 (mm ci' cl' cr dy) nx 0 0 14 [(2, .int (nI i)), (0, .ref 18), (1, .ref 13)] [.int (nI n), .int (nI i)]
      refine sv_icmp_ge (tgt := 49) hΓ dX3_runInOrder_14 (by decide) rfl (fun u3 => ?_) (fun u3 => absurd (nI_le (by omega) (by omega)) u3)
      replace u3 : (nI n) ≤ ((nI i) : Int32) := u3
      exact sv_vret hΓ hQ dX3_runInOrder_49 (Nat.le_of_ble_eq_true rfl) (Nat.le_of_ble_eq_true rfl) ⟨rfl, ci', cl', ea ▸ hR, rfl, rfl⟩
    | succ kq ih =>
      intro i ha
      intro ci' cl' hR
      have hnb : ci' 2 1 = nI n := by rw [hR.2.1 2 (by decide) (by decide) (by decide) (by decide) (by decide) (by decide)]; exact hG.1.2.2.2.1
      have hAt := RG_at hG hg (by omega : i ≤ n) hR
      have e21 : ci' 18 9 = (fG g (rs0 c lg) i).1 43 21 := hR.1.1.2.1
      have eoi : ci' 13 i = nI (g i) := by rw [hR.2.1 13 (by decide) (by decide) (by decide) (by decide) (by decide) (by decide)]; exact ho i (by omega)
      refine sv_iload_n hΓ dX3_runInOrder_6 rfl 0 rfl rfl ?_
      refine sv_aload_n hΓ dX3_runInOrder_7 rfl 1 rfl rfl ?_
      refine g_X3_50_18 hΓ dX3_runInOrder_8 rfl ?_
      refine sv_callV hΓ (fun l => ct_X1_sizeN l n hnb) wv_X3_75 vs_X1_size rfl m_2 rfl rfl (by decide) (Nat.le_of_ble_eq_true rfl) (Nat.le_of_ble_eq_true rfl) (Nat.le_of_ble_eq_true rfl) dX3_runInOrder_11 rfl (fun r M' nx' p4 => ?_)
      obtain ⟨rfl, rfl, rfl⟩ := p4
      show SV E Γ 4 (mm ci' cl' cr dy) nx 0 0 14 [(2, .int (nI i)), (0, .ref 18), (1, .ref 13)] [.int (nI n), .int (nI i)]
      refine sv_icmp_ge (tgt := 49) hΓ dX3_runInOrder_14 (by decide) rfl (fun u5 => absurd u5 (nI_ge (by omega) (by omega))) (fun u5 => ?_)
      replace u5 : ¬ ((nI n) ≤ ((nI i) : Int32)) := u5
      refine sv_aload_n hΓ dX3_runInOrder_17 rfl 2 rfl rfl ?_
      refine sv_iload_n hΓ dX3_runInOrder_18 rfl 0 rfl rfl ?_
      refine ai_13 hΓ (i) rfl (by omega) dX3_runInOrder_19 rfl ?_
      rw [eoi]
      refine sv_istore_n (lv' := [(3, .int (nI (g i))), (2, .int (nI i)), (0, .ref 18), (1, .ref 13)]) hΓ dX3_runInOrder_20 rfl (by decide) rfl rfl ?_
      refine sv_aload_n hΓ dX3_runInOrder_21 rfl 2 rfl rfl ?_
      refine g_X3_41_18 hΓ dX3_runInOrder_22 rfl ?_
      refine sv_bipush (v := (-2)) hΓ dX3_runInOrder_25 (by decide) rfl ?_
      refine sv_icmp_eq (tgt := 38) hΓ dX3_runInOrder_27 (by decide) rfl (fun u6 => ?_) (fun u6 => ?_)
      · replace u6 : ((ci' 18 9) : Int32) = ((-2)) := u6
        refine sv_aload_n hΓ dX3_runInOrder_38 rfl 2 rfl rfl ?_
        refine sv_iload_n hΓ dX3_runInOrder_39 rfl 0 rfl rfl ?_
        refine sv_callV hΓ (fun l => ct_X3_begin l ((fG g (rs0 c lg) i).1) nu ((fG g (rs0 c lg) i).2) n (g i) hAt.2.1 hR.1 hAt.2.2.1 hG.2.2.1 (hg i (by omega)) (RV_pre hAt.1 (by omega) (rs0_WF (hG.1.2.2.2.2.1 _ (hg i (by omega))))) (hAt.2.2.2.1 _ (hg i (by omega))) (hAt.2.2.2.2 _ (hg i (by omega))) hNW) wv_X3_81 vs_X3_begin rfl m_18 rfl rfl (by decide) (Nat.le_of_ble_eq_true rfl) (Nat.le_of_ble_eq_true rfl) (Nat.le_of_ble_eq_true rfl) dX3_runInOrder_40 rfl (fun r M' nx' p7 => ?_)
        obtain ⟨rfl, c2, l2, hBG, rfl, rfl⟩ := p7
        show SV E Γ 4 (mm c2 l2 cr dy) nx 0 0 43 [(3, .int (nI (g i))), (2, .int (nI i)), (0, .ref 18), (1, .ref 13)] []
        refine sv_iinc (v := nI (i + 1)) (lv' := [(2, .int (nI (i + 1))), (3, .int (nI (g i))), (0, .ref 18), (1, .ref 13)]) hΓ dX3_runInOrder_43 1 rfl (nx_inc rfl) (by decide) rfl rfl ?_
        refine sv_goto (pc' := 6) hΓ dX3_runInOrder_46 (by decide) ?_
        exact SV_lv [0, 2, 3] rfl (ih (i + 1) (by omega) _ _ (RO_b hR (stp_b (Or.inl (by rw [← e21]; exact u6))) hBG))
      · replace u6 : ¬ (((ci' 18 9) : Int32) = ((-2))) := u6
        refine sv_iload_n hΓ dX3_runInOrder_30 rfl 0 rfl rfl ?_
        refine sv_aload_n hΓ dX3_runInOrder_31 rfl 2 rfl rfl ?_
        refine g_X3_41_18 hΓ dX3_runInOrder_32 rfl ?_
        refine sv_icmp_ge (tgt := 43) hΓ dX3_runInOrder_35 (by decide) rfl (fun u8 => ?_) (fun u8 => ?_)
        · replace u8 : (ci' 18 9) ≤ ((nI (g i)) : Int32) := u8
          refine sv_iinc (v := nI (i + 1)) (lv' := [(2, .int (nI (i + 1))), (3, .int (nI (g i))), (0, .ref 18), (1, .ref 13)]) hΓ dX3_runInOrder_43 1 rfl (nx_inc rfl) (by decide) rfl rfl ?_
          refine sv_goto (pc' := 6) hΓ dX3_runInOrder_46 (by decide) ?_
          exact SV_lv [0, 2, 3] rfl (ih (i + 1) (by omega) _ _ (RO_n hR (stp_n hn6 (by omega) hg hinj (fG_FI rfl i) (by rw [← e21]; exact u6) (by rw [← e21]; exact u8))))
        · replace u8 : ¬ ((ci' 18 9) ≤ ((nI (g i)) : Int32)) := u8
          refine sv_aload_n hΓ dX3_runInOrder_38 rfl 2 rfl rfl ?_
          refine sv_iload_n hΓ dX3_runInOrder_39 rfl 0 rfl rfl ?_
          refine sv_callV hΓ (fun l => ct_X3_begin l ((fG g (rs0 c lg) i).1) nu ((fG g (rs0 c lg) i).2) n (g i) hAt.2.1 hR.1 hAt.2.2.1 hG.2.2.1 (hg i (by omega)) (RV_pre hAt.1 (by omega) (rs0_WF (hG.1.2.2.2.2.1 _ (hg i (by omega))))) (hAt.2.2.2.1 _ (hg i (by omega))) (hAt.2.2.2.2 _ (hg i (by omega))) hNW) wv_X3_81 vs_X3_begin rfl m_18 rfl rfl (by decide) (Nat.le_of_ble_eq_true rfl) (Nat.le_of_ble_eq_true rfl) (Nat.le_of_ble_eq_true rfl) dX3_runInOrder_40 rfl (fun r M' nx' p9 => ?_)
          obtain ⟨rfl, c2, l2, hBG, rfl, rfl⟩ := p9
          show SV E Γ 4 (mm c2 l2 cr dy) nx 0 0 43 [(3, .int (nI (g i))), (2, .int (nI i)), (0, .ref 18), (1, .ref 13)] []
          refine sv_iinc (v := nI (i + 1)) (lv' := [(2, .int (nI (i + 1))), (3, .int (nI (g i))), (0, .ref 18), (1, .ref 13)]) hΓ dX3_runInOrder_43 1 rfl (nx_inc rfl) (by decide) rfl rfl ?_
          refine sv_goto (pc' := 6) hΓ dX3_runInOrder_46 (by decide) ?_
          exact SV_lv [0, 2, 3] rfl (ih (i + 1) (by omega) _ _ (RO_b hR (stp_b (Or.inr (by rw [← e21]; exact u8))) hBG))
  exact SV_lv [0, 1, 2] rfl (LP6 n 0 (by omega) _ _ hR0)
set_option maxRecDepth 100000 in
set_option maxHeartbeats 1000000 in
/-- runInOrder -/
theorem ct_X3_runInOrderP {E : aG} (l : Launch) (c : aI) (nu : Nat → Int64) (lg : aL) (n : Nat) (g : Nat → Nat) {ci : Nat → Nat → Int32} {cl : Nat → Nat → Int64} {cr : Nat → Nat → Option Nat} {dy : aM} {nx : Nat} (hG : RG c nu lg ci cl cr dy n) (ho : ∀ i, i < n → ci 24 i = nI (g i)) (hg : ∀ i, i < n → g i < n) (hinj : ∀ i j, i < j → j < n → ¬ g i = g j) (hNW : NW E) : CT E l yX3_runInOrder cX3_runInOrder 4 none 4 [.ref 18, .ref 24] (mm ci cl cr dy) nx 0 0 (fun r M' nx' => r = none ∧ ∃ ci' cl', RO c lg g ci ci' cl cl' n ∧ M' = mm ci' cl' cr dy ∧ nx = nx') := by
  refine CT_intro (by decide) (Nat.le_of_ble_eq_true rfl) (fun Γ hΓ hQ => ?_)
  replace hΓ : CK E RX3 cX3_runInOrder 4 none "runInOrder" 4 0 0 Γ := hΓ
  have hn6 := hG.1.2.2.1
  show SV E Γ 4 (mm ci cl cr dy) nx 0 0 0 [(0, .ref 18), (1, .ref 24)] []
  refine sv_aload_n hΓ dX3_runInOrder_0 rfl 0 rfl rfl ?_
  refine sv_callV hΓ (fun l => ct_X3_reset l c lg hG.2.2.2.1 hG.2.2.2.2.1 hG.2.2.1) wv_X3_72 vs_X3_reset rfl m_18 rfl rfl (by decide) (Nat.le_of_ble_eq_true rfl) (Nat.le_of_ble_eq_true rfl) (Nat.le_of_ble_eq_true rfl) dX3_runInOrder_1 rfl (fun r M' nx' p1 => ?_)
  obtain ⟨rfl, c1, l1, hR0, rfl, rfl⟩ := p1
  show SV E Γ 4 (mm c1 l1 cr dy) nx 0 0 4 [(0, .ref 18), (1, .ref 24)] []
  refine sv_iconst (v := 0) hΓ dX3_runInOrder_4 (by decide) rfl ?_
  refine sv_istore_n (lv' := [(2, .int 0), (0, .ref 18), (1, .ref 24)]) hΓ dX3_runInOrder_5 rfl (by decide) rfl rfl ?_
  have LP6 : ∀ kq i : Nat, i + kq = n → ∀ ci' cl', RO c lg g ci ci' cl cl' i → SV E Γ 4 (mm ci' cl' cr dy) nx 0 0 6 [(2, .int (nI i)), (0, .ref 18), (1, .ref 24)] [] := by
    intro kq
    induction kq with
    | zero =>
      intro i ha
      have ea : i = n := by omega
      intro ci' cl' hR
      have hnb : ci' 2 1 = nI n := by rw [hR.2.1 2 (by decide) (by decide) (by decide) (by decide) (by decide) (by decide)]; exact hG.1.2.2.2.1
      refine sv_iload_n hΓ dX3_runInOrder_6 rfl 0 rfl rfl ?_
      refine sv_aload_n hΓ dX3_runInOrder_7 rfl 1 rfl rfl ?_
      refine g_X3_50_18 hΓ dX3_runInOrder_8 rfl ?_
      refine sv_callV hΓ (fun l => ct_X1_sizeN l n hnb) wv_X3_75 vs_X1_size rfl m_2 rfl rfl (by decide) (Nat.le_of_ble_eq_true rfl) (Nat.le_of_ble_eq_true rfl) (Nat.le_of_ble_eq_true rfl) dX3_runInOrder_11 rfl (fun r M' nx' p2 => ?_)
      obtain ⟨rfl, rfl, rfl⟩ := p2
      show SV E Γ 4 (mm ci' cl' cr dy) nx 0 0 14 [(2, .int (nI i)), (0, .ref 18), (1, .ref 24)] [.int (nI n), .int (nI i)]
      refine sv_icmp_ge (tgt := 49) hΓ dX3_runInOrder_14 (by decide) rfl (fun u3 => ?_) (fun u3 => absurd (nI_le (by omega) (by omega)) u3)
      replace u3 : (nI n) ≤ ((nI i) : Int32) := u3
      exact sv_vret hΓ hQ dX3_runInOrder_49 (Nat.le_of_ble_eq_true rfl) (Nat.le_of_ble_eq_true rfl) ⟨rfl, ci', cl', ea ▸ hR, rfl, rfl⟩
    | succ kq ih =>
      intro i ha
      intro ci' cl' hR
      have hnb : ci' 2 1 = nI n := by rw [hR.2.1 2 (by decide) (by decide) (by decide) (by decide) (by decide) (by decide)]; exact hG.1.2.2.2.1
      have hAt := RG_at hG hg (by omega : i ≤ n) hR
      have e21 : ci' 18 9 = (fG g (rs0 c lg) i).1 43 21 := hR.1.1.2.1
      have eoi : ci' 24 i = nI (g i) := by rw [hR.2.1 24 (by decide) (by decide) (by decide) (by decide) (by decide) (by decide)]; exact ho i (by omega)
      refine sv_iload_n hΓ dX3_runInOrder_6 rfl 0 rfl rfl ?_
      refine sv_aload_n hΓ dX3_runInOrder_7 rfl 1 rfl rfl ?_
      refine g_X3_50_18 hΓ dX3_runInOrder_8 rfl ?_
      refine sv_callV hΓ (fun l => ct_X1_sizeN l n hnb) wv_X3_75 vs_X1_size rfl m_2 rfl rfl (by decide) (Nat.le_of_ble_eq_true rfl) (Nat.le_of_ble_eq_true rfl) (Nat.le_of_ble_eq_true rfl) dX3_runInOrder_11 rfl (fun r M' nx' p4 => ?_)
      obtain ⟨rfl, rfl, rfl⟩ := p4
      show SV E Γ 4 (mm ci' cl' cr dy) nx 0 0 14 [(2, .int (nI i)), (0, .ref 18), (1, .ref 24)] [.int (nI n), .int (nI i)]
      refine sv_icmp_ge (tgt := 49) hΓ dX3_runInOrder_14 (by decide) rfl (fun u5 => absurd u5 (nI_ge (by omega) (by omega))) (fun u5 => ?_)
      replace u5 : ¬ ((nI n) ≤ ((nI i) : Int32)) := u5
      refine sv_aload_n hΓ dX3_runInOrder_17 rfl 2 rfl rfl ?_
      refine sv_iload_n hΓ dX3_runInOrder_18 rfl 0 rfl rfl ?_
      refine ai_24 hΓ (i) rfl (by omega) dX3_runInOrder_19 rfl ?_
      rw [eoi]
      refine sv_istore_n (lv' := [(3, .int (nI (g i))), (2, .int (nI i)), (0, .ref 18), (1, .ref 24)]) hΓ dX3_runInOrder_20 rfl (by decide) rfl rfl ?_
      refine sv_aload_n hΓ dX3_runInOrder_21 rfl 2 rfl rfl ?_
      refine g_X3_41_18 hΓ dX3_runInOrder_22 rfl ?_
      refine sv_bipush (v := (-2)) hΓ dX3_runInOrder_25 (by decide) rfl ?_
      refine sv_icmp_eq (tgt := 38) hΓ dX3_runInOrder_27 (by decide) rfl (fun u6 => ?_) (fun u6 => ?_)
      · replace u6 : ((ci' 18 9) : Int32) = ((-2)) := u6
        refine sv_aload_n hΓ dX3_runInOrder_38 rfl 2 rfl rfl ?_
        refine sv_iload_n hΓ dX3_runInOrder_39 rfl 0 rfl rfl ?_
        refine sv_callV hΓ (fun l => ct_X3_begin l ((fG g (rs0 c lg) i).1) nu ((fG g (rs0 c lg) i).2) n (g i) hAt.2.1 hR.1 hAt.2.2.1 hG.2.2.1 (hg i (by omega)) (RV_pre hAt.1 (by omega) (rs0_WF (hG.1.2.2.2.2.1 _ (hg i (by omega))))) (hAt.2.2.2.1 _ (hg i (by omega))) (hAt.2.2.2.2 _ (hg i (by omega))) hNW) wv_X3_81 vs_X3_begin rfl m_18 rfl rfl (by decide) (Nat.le_of_ble_eq_true rfl) (Nat.le_of_ble_eq_true rfl) (Nat.le_of_ble_eq_true rfl) dX3_runInOrder_40 rfl (fun r M' nx' p7 => ?_)
        obtain ⟨rfl, c2, l2, hBG, rfl, rfl⟩ := p7
        show SV E Γ 4 (mm c2 l2 cr dy) nx 0 0 43 [(3, .int (nI (g i))), (2, .int (nI i)), (0, .ref 18), (1, .ref 24)] []
        refine sv_iinc (v := nI (i + 1)) (lv' := [(2, .int (nI (i + 1))), (3, .int (nI (g i))), (0, .ref 18), (1, .ref 24)]) hΓ dX3_runInOrder_43 1 rfl (nx_inc rfl) (by decide) rfl rfl ?_
        refine sv_goto (pc' := 6) hΓ dX3_runInOrder_46 (by decide) ?_
        exact SV_lv [0, 2, 3] rfl (ih (i + 1) (by omega) _ _ (RO_b hR (stp_b (Or.inl (by rw [← e21]; exact u6))) hBG))
      · replace u6 : ¬ (((ci' 18 9) : Int32) = ((-2))) := u6
        refine sv_iload_n hΓ dX3_runInOrder_30 rfl 0 rfl rfl ?_
        refine sv_aload_n hΓ dX3_runInOrder_31 rfl 2 rfl rfl ?_
        refine g_X3_41_18 hΓ dX3_runInOrder_32 rfl ?_
        refine sv_icmp_ge (tgt := 43) hΓ dX3_runInOrder_35 (by decide) rfl (fun u8 => ?_) (fun u8 => ?_)
        · replace u8 : (ci' 18 9) ≤ ((nI (g i)) : Int32) := u8
          refine sv_iinc (v := nI (i + 1)) (lv' := [(2, .int (nI (i + 1))), (3, .int (nI (g i))), (0, .ref 18), (1, .ref 24)]) hΓ dX3_runInOrder_43 1 rfl (nx_inc rfl) (by decide) rfl rfl ?_
          refine sv_goto (pc' := 6) hΓ dX3_runInOrder_46 (by decide) ?_
          exact SV_lv [0, 2, 3] rfl (ih (i + 1) (by omega) _ _ (RO_n hR (stp_n hn6 (by omega) hg hinj (fG_FI rfl i) (by rw [← e21]; exact u6) (by rw [← e21]; exact u8))))
        · replace u8 : ¬ ((ci' 18 9) ≤ ((nI (g i)) : Int32)) := u8
          refine sv_aload_n hΓ dX3_runInOrder_38 rfl 2 rfl rfl ?_
          refine sv_iload_n hΓ dX3_runInOrder_39 rfl 0 rfl rfl ?_
          refine sv_callV hΓ (fun l => ct_X3_begin l ((fG g (rs0 c lg) i).1) nu ((fG g (rs0 c lg) i).2) n (g i) hAt.2.1 hR.1 hAt.2.2.1 hG.2.2.1 (hg i (by omega)) (RV_pre hAt.1 (by omega) (rs0_WF (hG.1.2.2.2.2.1 _ (hg i (by omega))))) (hAt.2.2.2.1 _ (hg i (by omega))) (hAt.2.2.2.2 _ (hg i (by omega))) hNW) wv_X3_81 vs_X3_begin rfl m_18 rfl rfl (by decide) (Nat.le_of_ble_eq_true rfl) (Nat.le_of_ble_eq_true rfl) (Nat.le_of_ble_eq_true rfl) dX3_runInOrder_40 rfl (fun r M' nx' p9 => ?_)
          obtain ⟨rfl, c2, l2, hBG, rfl, rfl⟩ := p9
          show SV E Γ 4 (mm c2 l2 cr dy) nx 0 0 43 [(3, .int (nI (g i))), (2, .int (nI i)), (0, .ref 18), (1, .ref 24)] []
          refine sv_iinc (v := nI (i + 1)) (lv' := [(2, .int (nI (i + 1))), (3, .int (nI (g i))), (0, .ref 18), (1, .ref 24)]) hΓ dX3_runInOrder_43 1 rfl (nx_inc rfl) (by decide) rfl rfl ?_
          refine sv_goto (pc' := 6) hΓ dX3_runInOrder_46 (by decide) ?_
          exact SV_lv [0, 2, 3] rfl (ih (i + 1) (by omega) _ _ (RO_b hR (stp_b (Or.inr (by rw [← e21]; exact u8))) hBG))
  exact SV_lv [0, 1, 2] rfl (LP6 n 0 (by omega) _ _ hR0)
set_option maxRecDepth 100000 in
set_option maxHeartbeats 1000000 in
/-- runPlain -/
theorem ct_X3_runPlain {E : aG} (l : Launch) (c : aI) (nu : Nat → Int64) (lg : aL) (n : Nat) {ci : Nat → Nat → Int32} {cl : Nat → Nat → Int64} {cr : Nat → Nat → Option Nat} {dy : aM} {nx : Nat} (hG : RG c nu lg ci cl cr dy n) (ho : ∀ i, i < n → ci 24 i = nI i) (hNW : NW E) : CT E l yX3_runPlain cX3_runPlain 1 none 5 [.ref 18] (mm ci cl cr dy) nx 0 0 (fun r M' nx' => r = none ∧ ∃ ci' cl', RO c lg (fun i => i) ci ci' cl cl' n ∧ ci' 18 11 = 0 ∧ M' = mm ci' cl' cr dy ∧ nx = nx') := by
  refine CT_intro (by decide) (Nat.le_of_ble_eq_true rfl) (fun Γ hΓ hQ => ?_)
  replace hΓ : CK E RX3 cX3_runPlain 1 none "runPlain" 5 0 0 Γ := hΓ
  show SV E Γ 1 (mm ci cl cr dy) nx 0 0 0 [(0, .ref 18)] []
  refine sv_aload_n hΓ dX3_runPlain_0 rfl 0 rfl rfl ?_
  refine sv_aload_n hΓ dX3_runPlain_1 rfl 0 rfl rfl ?_
  refine g_X3_31_18 hΓ dX3_runPlain_2 rfl ?_
  refine sv_callV hΓ (fun l => ct_X3_runInOrderP l c nu lg n ((fun i => i)) hG ho (fun i hi => hi) (fun i j h1 h2 => by omega) hNW) wv_X3_57 vs_X3_runInOrder rfl m_18 rfl rfl (by decide) (Nat.le_of_ble_eq_true rfl) (Nat.le_of_ble_eq_true rfl) (Nat.le_of_ble_eq_true rfl) dX3_runPlain_5 rfl (fun r M' nx' p1 => ?_)
  obtain ⟨rfl, c1, l1, hR, rfl, rfl⟩ := p1
  show SV E Γ 1 (mm c1 l1 cr dy) nx 0 0 8 [(0, .ref 18)] []
  refine sv_aload_n hΓ dX3_runPlain_8 rfl 0 rfl rfl ?_
  refine sv_iconst (v := 0) hΓ dX3_runPlain_9 (by decide) rfl ?_
  refine p_X3_47_18 hΓ dX3_runPlain_10 rfl ?_
  exact sv_vret hΓ hQ dX3_runPlain_13 (Nat.le_of_ble_eq_true rfl) (Nat.le_of_ble_eq_true rfl) ⟨rfl, _, _, RO_11 hR, up2_s _ _ _ _, rfl, rfl⟩
set_option maxRecDepth 100000 in
set_option maxHeartbeats 1000000 in
/-- runLaid -/
theorem ct_X3_runLaid {E : aG} (l : Launch) (c : aI) (nu : Nat → Int64) (lg : aL) (n : Nat) (g : Nat → Nat) {ci : Nat → Nat → Int32} {cl : Nat → Nat → Int64} {cr : Nat → Nat → Option Nat} {dy : aM} {nx : Nat} (hG : RG c nu lg ci cl cr dy n) (hO : OA ci g n) (hNW : NW E) : CT E l yX3_runLaid cX3_runLaid 2 none 5 [.ref 18, .ref 10] (mm ci cl cr dy) nx 0 0 (fun r M' nx' => r = none ∧ ∃ ci' cl', RO c lg g ci ci' cl cl' n ∧ ci' 18 11 = (if ci' 18 9 = -2 then ci 10 6 else ci 11 (ci' 18 9).toNatClampNeg) ∧ M' = mm ci' cl' cr dy ∧ nx = nx') := by
  refine CT_intro (by decide) (Nat.le_of_ble_eq_true rfl) (fun Γ hΓ hQ => ?_)
  replace hΓ : CK E RX3 cX3_runLaid 2 none "runLaid" 5 0 0 Γ := hΓ
  have hn6 := hG.1.2.2.1
  have hg := hO.1.1
  show SV E Γ 2 (mm ci cl cr dy) nx 0 0 0 [(0, .ref 18), (1, .ref 10)] []
  refine sv_aload_n hΓ dX3_runLaid_0 rfl 0 rfl rfl ?_
  refine sv_aload_n hΓ dX3_runLaid_1 rfl 1 rfl rfl ?_
  refine g_X3_61_10 hΓ dX3_runLaid_2 rfl ?_
  refine sv_callV hΓ (fun l => ct_X3_runInOrderL l c nu lg n g hG hO.2 hg (fun i j h1 h2 e => (e ▸ hO.1.2.1 i j h1 h2 : LX _ _ _).ir) hNW) wv_X3_57 vs_X3_runInOrder rfl m_18 rfl rfl (by decide) (Nat.le_of_ble_eq_true rfl) (Nat.le_of_ble_eq_true rfl) (Nat.le_of_ble_eq_true rfl) dX3_runLaid_5 rfl (fun r M' nx' p1 => ?_)
  obtain ⟨rfl, c1, l1, hR, rfl, rfl⟩ := p1
  show SV E Γ 2 (mm c1 l1 cr dy) nx 0 0 8 [(0, .ref 18), (1, .ref 10)] []
  refine sv_aload_n hΓ dX3_runLaid_8 rfl 0 rfl rfl ?_
  refine sv_aload_n hΓ dX3_runLaid_9 rfl 0 rfl rfl ?_
  refine g_X3_41_18 hΓ dX3_runLaid_10 rfl ?_
  refine sv_bipush (v := (-2)) hΓ dX3_runLaid_13 (by decide) rfl ?_
  refine sv_icmp_ne (tgt := 25) hΓ dX3_runLaid_15 (by decide) rfl (fun u2 => ?_) (fun u2 => ?_)
  · replace u2 : ¬ ((c1 18 9) : Int32) = ((-2)) := u2
    obtain ⟨f, hf, ef⟩ : ∃ f, f < n ∧ c1 18 9 = nI f := by
      have q := (RG_at hG hg (Nat.le_refl n) hR).1.2.2.2.2
      rw [← hR.1.1.2.1] at q
      exact q.resolve_left u2
    refine sv_aload_n hΓ dX3_runLaid_25 rfl 1 rfl rfl ?_
    refine g_X3_69_10 hΓ dX3_runLaid_26 rfl ?_
    refine sv_aload_n hΓ dX3_runLaid_29 rfl 0 rfl rfl ?_
    refine g_X3_41_18 hΓ dX3_runLaid_30 rfl ?_
    refine ai_11 hΓ (f) ef (by omega) dX3_runLaid_33 rfl ?_
    refine p_X3_47_18 hΓ dX3_runLaid_34 rfl ?_
    exact sv_vret hΓ hQ dX3_runLaid_37 (Nat.le_of_ble_eq_true rfl) (Nat.le_of_ble_eq_true rfl) ⟨rfl, _, _, RO_11 hR, by rw [up2_s, up2_j _ _ _ (by decide), if_neg u2, ef, nI_clamp (by omega), hR.2.1 11 (by decide) (by decide) (by decide) (by decide) (by decide) (by decide)], rfl, rfl⟩
  · replace u2 : ((c1 18 9) : Int32) = ((-2)) := u2
    refine sv_aload_n hΓ dX3_runLaid_18 rfl 1 rfl rfl ?_
    refine g_X3_66_10 hΓ dX3_runLaid_19 rfl ?_
    refine sv_goto (pc' := 34) hΓ dX3_runLaid_22 (by decide) ?_
    refine p_X3_47_18 hΓ dX3_runLaid_34 rfl ?_
    exact sv_vret hΓ hQ dX3_runLaid_37 (Nat.le_of_ble_eq_true rfl) (Nat.le_of_ble_eq_true rfl) ⟨rfl, _, _, RO_11 hR, by rw [up2_s, up2_j _ _ _ (by decide), if_pos u2, hR.2.1 10 (by decide) (by decide) (by decide) (by decide) (by decide) (by decide)], rfl, rfl⟩
