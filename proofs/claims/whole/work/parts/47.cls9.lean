theorem tpn_e {p : Nat} : tpn (2 * p) = 20 := by unfold tpn; rw [if_pos (by omega)]
theorem tpn_o {p : Nat} : tpn (2 * p + 1) = 16 := by unfold tpn; rw [if_neg (by omega)]
theorem fn_8' {c : aI} {l : aL} {a x : Nat} (h1 : c 44 a = 8 ∨ c 44 a = 9) (hx : c 46 (3 * a + 0) = nI x) (h4 : x < 16) : whF c l a = if ¬ (¬ l 65 x < 0 ∧ ¬ 15 < l 65 x) then 2 else 0 := by
  rw [fn_8 h1 hx h4]
  by_cases h : ¬ l 65 x < 0 ∧ ¬ 15 < l 65 x
  · rw [if_pos h, if_neg (not_not_intro h)]
  · rw [if_neg h, if_pos h]
/-- operands lie among the ACTS -/
def RX (c : aI) (a : Nat) : Prop := ∀ w, w < 3 → 0 ≤ c 46 (3 * a + w) → ∃ x, x < 16 ∧ c 46 (3 * a + w) = nI x
theorem RX.i {c : aI} {a w : Nat} (h : RX c a) (hw : w < 3) (hn : ¬ oC c a w = -2) : ∃ x, x < 16 ∧ oC c a w = nI x := by
  obtain ⟨x, hx, e⟩ := h w hw (Int32.not_lt.mp (fun q => hn (oC_m2.mpr q)))
  exact ⟨x, hx, oC_x e hx⟩
def xvF (c : aI) (cl : aL) (a w : Nat) : Int64 := if oC c a w = -2 then 0 else cl 25 (oC c a w).toNatClampNeg
theorem xv_e {c : aI} {l cl : aL} {a w x : Nat} (h : NP l cl) (hx : c 46 (3 * a + w) = nI x) (h6 : x < 16) : xvF c cl a w = vA c l a w := by
  unfold xvF vA
  rw [oC_x hx h6, if_neg (nn_2 (nI_nn (by omega))), hx, nI_clamp (by omega)]
  exact h.1 x h6
theorem op10 {c : aI} {a : Nat} (h : WF c a) (ho : (c 44 a).toInt < 0 ∨ 9 < (c 44 a).toInt) : c 44 a = 10 := by
  obtain ⟨⟨o, h1, e⟩, -⟩ := h
  rw [e, nI_toInt (by omega)] at ho
  rw [e, show o = 10 by omega]; rfl
theorem lN_pl {j : Nat} (h : j < 16) : ¬ lN j < 0 ∧ ¬ 15 < lN j := by
  have e0 : (0 : Int64).toInt = 0 := rfl
  have e1 : (15 : Int64).toInt = 15 := rfl
  rw [Int64.lt_iff_toInt_lt, Int64.lt_iff_toInt_lt, lN_toInt (by omega), e0, e1]
  omega
set_option maxRecDepth 100000 in
set_option maxHeartbeats 4000000 in
/-- failsNow -/
theorem ct_X3_failsNow {E : aG} (l : Launch) (c : aI) (nu : Nat → Int64) (lg : aL) (a : Nat) (k : Nat) (s : Nat) {ci : Nat → Nat → Int32} {cl : Nat → Nat → Int64} {cr : Nat → Nat → Option Nat} {dy : aM} {nx : Nat} (hA : AT c nu dy a k s) (hM : MR c lg ci cl) (hF : FD c lg ci cl) (hT : TR cr) (hw : WF c a) (ha : a < 16) (hp : PRE c a) (hNW : NW E) : CT E l yX3_failsNow cX3_failsNow 2 (some .boolean) 1 [.ref 18, .ref k] (mm ci cl cr dy) nx 0 0 (fun r M' nx' => r = some (.int (bI (¬ whF c lg a = 0))) ∧ M' = mm ci cl cr dy ∧ nx = nx') := by
  refine CT_intro (by decide) (Nat.le_of_ble_eq_true rfl) (fun Γ hΓ hQ => ?_)
  replace hΓ : CK E RX3 cX3_failsNow 2 (some .boolean) "failsNow" 1 0 0 Γ := hΓ
  show SV E Γ 2 (mm ci cl cr dy) nx 0 0 0 [(0, .ref 18), (1, .ref k)] []
  refine sv_aload_n hΓ dX3_failsNow_0 rfl 1 rfl rfl ?_
  refine gt_X3_120 hΓ hA.m rfl dX3_failsNow_1 rfl ?_
  refine sv_table (x := c 44 a) (lo := 1) (hi := 9) 8 rfl (fun u1 => ?_) (fun k hk u1 => ?_)
  · refine sv_tableOut (pc' := 127) hΓ dX3_failsNow_4 u1 (by decide) ?_
    refine sv_iconst (v := 0) hΓ dX3_failsNow_127 (by decide) rfl ?_
    exact sv_zret hΓ hQ dX3_failsNow_128 (Nat.le_of_ble_eq_true rfl) (Nat.le_of_ble_eq_true rfl) rfl ⟨by rw [fn_o (out_ne u1 1 (by decide)) (out_ne u1 5 (by decide)) (out_ne u1 8 (by decide)) (out_ne u1 9 (by decide)), bI_f (fun q => q rfl)], rfl, rfl⟩
  · obtain rfl | rfl | rfl | rfl | rfl | rfl | rfl | rfl | rfl : k = 0 ∨ k = 1 ∨ k = 2 ∨ k = 3 ∨ k = 4 ∨ k = 5 ∨ k = 6 ∨ k = 7 ∨ k = 8 := by omega
    · refine sv_tableIn (off := 52) (pc' := 56) hΓ dX3_failsNow_4 (by omega) (by omega) (by rw [u1]; rfl) (by decide) ?_
      replace u1 : c 44 a = (1 : Int32) := Int32.toInt_inj.mp (u1.trans (by decide))
      obtain ⟨q, hq4, hq⟩ := hw.q (by rw [u1]; decide)
      obtain ⟨tk, fd, ht1, ht2, ht3, ht4⟩ := hp.1 u1
      rw [hq, nI_clamp (by omega)] at ht1 ht2
      refine sv_aload_n hΓ dX3_failsNow_56 rfl 0 rfl rfl ?_
      refine g_X3_27_18 hΓ dX3_failsNow_57 rfl ?_
      refine sv_aload_n hΓ dX3_failsNow_60 rfl 1 rfl rfl ?_
      refine gt_X3_123 hΓ hA.m rfl dX3_failsNow_61 rfl ?_
      refine ai_23 hΓ (q) hq (by omega) dX3_failsNow_64 rfl ?_
      refine sv_aload_n hΓ dX3_failsNow_65 rfl 0 rfl rfl ?_
      refine g_X3_11_18 hΓ dX3_failsNow_66 rfl ?_
      refine sv_aload_n hΓ dX3_failsNow_69 rfl 1 rfl rfl ?_
      refine gt_X3_123 hΓ hA.m rfl dX3_failsNow_70 rfl ?_
      refine ar_19 hΓ (q) hq (by omega) dX3_failsNow_73 (v := .ref (26 + 2 * (2 * q))) (rf_some (hT q (by omega)).1) rfl ?_
      refine sv_callV hΓ (fun l => ct_X10_size l (2 * q) (by omega)) wv_X3_126 vs_X10_size rfl (m_tp (q := 2 * q) (by omega)) rfl rfl (by decide) (Nat.le_of_ble_eq_true rfl) (Nat.le_of_ble_eq_true rfl) (Nat.le_of_ble_eq_true rfl) dX3_failsNow_74 rfl (fun r M' nx' p2 => ?_)
      obtain ⟨rfl, rfl, rfl⟩ := p2
      show SV E Γ 2 (mm ci cl cr dy) nx 0 0 77 [(0, .ref 18), (1, .ref k)] [.int (ci (26 + 2 * (2 * q)) 1), .int (ci 23 q)]
      refine sv_icmp_lt (tgt := 84) hΓ dX3_failsNow_77 (by decide) rfl (fun u3 => ?_) (fun u3 => ?_)
      · refine sv_iconst (v := 0) hΓ dX3_failsNow_84 (by decide) rfl ?_
        exact sv_zret hΓ hQ dX3_failsNow_85 (Nat.le_of_ble_eq_true rfl) (Nat.le_of_ble_eq_true rfl) rfl ⟨by rw [bI_w (by decide) (fn_1 u1 hq hq4), bI_f (fun z => absurd ((tk_ge (a := a) ht1 ht2 ht3 ht4).mpr z) (by rw [← (hM.2.1 q hq4).1, ← (hF q hq4).1]; exact Int32.not_le.mpr u3))], rfl, rfl⟩
      · refine sv_iconst (v := 1) hΓ dX3_failsNow_80 (by decide) rfl ?_
        refine sv_goto (pc' := 85) hΓ dX3_failsNow_81 (by decide) ?_
        exact sv_zret hΓ hQ dX3_failsNow_85 (Nat.le_of_ble_eq_true rfl) (Nat.le_of_ble_eq_true rfl) rfl ⟨by rw [bI_w (by decide) (fn_1 u1 hq hq4), bI_t ((tk_ge (a := a) ht1 ht2 ht3 ht4).mp (by rw [← (hM.2.1 q hq4).1, ← (hF q hq4).1]; exact Int32.not_lt.mp u3))], rfl, rfl⟩
    · refine sv_tableIn (off := 123) (pc' := 127) hΓ dX3_failsNow_4 (by omega) (by omega) (by rw [u1]; rfl) (by decide) ?_
      replace u1 : c 44 a = (2 : Int32) := Int32.toInt_inj.mp (u1.trans (by decide))
      refine sv_iconst (v := 0) hΓ dX3_failsNow_127 (by decide) rfl ?_
      exact sv_zret hΓ hQ dX3_failsNow_128 (Nat.le_of_ble_eq_true rfl) (Nat.le_of_ble_eq_true rfl) rfl ⟨by rw [fn_o (by rw [u1]; decide) (by rw [u1]; decide) (by rw [u1]; decide) (by rw [u1]; decide), bI_f (fun q => q rfl)], rfl, rfl⟩
    · refine sv_tableIn (off := 123) (pc' := 127) hΓ dX3_failsNow_4 (by omega) (by omega) (by rw [u1]; rfl) (by decide) ?_
      replace u1 : c 44 a = (3 : Int32) := Int32.toInt_inj.mp (u1.trans (by decide))
      refine sv_iconst (v := 0) hΓ dX3_failsNow_127 (by decide) rfl ?_
      exact sv_zret hΓ hQ dX3_failsNow_128 (Nat.le_of_ble_eq_true rfl) (Nat.le_of_ble_eq_true rfl) rfl ⟨by rw [fn_o (by rw [u1]; decide) (by rw [u1]; decide) (by rw [u1]; decide) (by rw [u1]; decide), bI_f (fun q => q rfl)], rfl, rfl⟩
    · refine sv_tableIn (off := 123) (pc' := 127) hΓ dX3_failsNow_4 (by omega) (by omega) (by rw [u1]; rfl) (by decide) ?_
      replace u1 : c 44 a = (4 : Int32) := Int32.toInt_inj.mp (u1.trans (by decide))
      refine sv_iconst (v := 0) hΓ dX3_failsNow_127 (by decide) rfl ?_
      exact sv_zret hΓ hQ dX3_failsNow_128 (Nat.le_of_ble_eq_true rfl) (Nat.le_of_ble_eq_true rfl) rfl ⟨by rw [fn_o (by rw [u1]; decide) (by rw [u1]; decide) (by rw [u1]; decide) (by rw [u1]; decide), bI_f (fun q => q rfl)], rfl, rfl⟩
    · refine sv_tableIn (off := 82) (pc' := 86) hΓ dX3_failsNow_4 (by omega) (by omega) (by rw [u1]; rfl) (by decide) ?_
      replace u1 : c 44 a = (5 : Int32) := Int32.toInt_inj.mp (u1.trans (by decide))
      obtain ⟨y, hy6, hy⟩ := hw.y (by rw [u1]; decide)
      refine sv_aload_n hΓ dX3_failsNow_86 rfl 0 rfl rfl ?_
      refine g_X3_34_18 hΓ dX3_failsNow_87 rfl ?_
      refine sv_aload_n hΓ dX3_failsNow_90 rfl 1 rfl rfl ?_
      refine gt_X3_127 hΓ hA.m rfl dX3_failsNow_91 rfl ?_
      refine al_25 hΓ (y) (oC_x hy (by omega)) (by omega) dX3_failsNow_94 rfl ?_
      refine sv_lconst (v := 0) hΓ dX3_failsNow_95 (by decide) rfl ?_
      refine sv_lcmp hΓ dX3_failsNow_96 rfl ?_
      refine sv_if_ne (tgt := 104) hΓ dX3_failsNow_97 (by decide) rfl (fun u4 => ?_) (fun u4 => ?_)
      · replace u4 := lgc_ne.mp u4
        refine sv_iconst (v := 0) hΓ dX3_failsNow_104 (by decide) rfl ?_
        exact sv_zret hΓ hQ dX3_failsNow_105 (Nat.le_of_ble_eq_true rfl) (Nat.le_of_ble_eq_true rfl) rfl ⟨by rw [bI_w (by decide) (fn_5 u1 hy (by omega)), bI_f (by rw [← hM.2.2.2.1 y (by omega)]; exact u4)], rfl, rfl⟩
      · replace u4 := lgc_eq.mp u4
        refine sv_iconst (v := 1) hΓ dX3_failsNow_100 (by decide) rfl ?_
        refine sv_goto (pc' := 105) hΓ dX3_failsNow_101 (by decide) ?_
        exact sv_zret hΓ hQ dX3_failsNow_105 (Nat.le_of_ble_eq_true rfl) (Nat.le_of_ble_eq_true rfl) rfl ⟨by rw [bI_w (by decide) (fn_5 u1 hy (by omega)), bI_t (by rw [← hM.2.2.2.1 y (by omega)]; exact u4)], rfl, rfl⟩
    · refine sv_tableIn (off := 123) (pc' := 127) hΓ dX3_failsNow_4 (by omega) (by omega) (by rw [u1]; rfl) (by decide) ?_
      replace u1 : c 44 a = (6 : Int32) := Int32.toInt_inj.mp (u1.trans (by decide))
      refine sv_iconst (v := 0) hΓ dX3_failsNow_127 (by decide) rfl ?_
      exact sv_zret hΓ hQ dX3_failsNow_128 (Nat.le_of_ble_eq_true rfl) (Nat.le_of_ble_eq_true rfl) rfl ⟨by rw [fn_o (by rw [u1]; decide) (by rw [u1]; decide) (by rw [u1]; decide) (by rw [u1]; decide), bI_f (fun q => q rfl)], rfl, rfl⟩
    · refine sv_tableIn (off := 123) (pc' := 127) hΓ dX3_failsNow_4 (by omega) (by omega) (by rw [u1]; rfl) (by decide) ?_
      replace u1 : c 44 a = (7 : Int32) := Int32.toInt_inj.mp (u1.trans (by decide))
      refine sv_iconst (v := 0) hΓ dX3_failsNow_127 (by decide) rfl ?_
      exact sv_zret hΓ hQ dX3_failsNow_128 (Nat.le_of_ble_eq_true rfl) (Nat.le_of_ble_eq_true rfl) rfl ⟨by rw [fn_o (by rw [u1]; decide) (by rw [u1]; decide) (by rw [u1]; decide) (by rw [u1]; decide), bI_f (fun q => q rfl)], rfl, rfl⟩
    · refine sv_tableIn (off := 102) (pc' := 106) hΓ dX3_failsNow_4 (by omega) (by omega) (by rw [u1]; rfl) (by decide) ?_
      replace u1 : c 44 a = (8 : Int32) := Int32.toInt_inj.mp (u1.trans (by decide))
      obtain ⟨x, hx6, hx⟩ : ∃ x, x < a ∧ c 46 (3 * a + 0) = nI x := hw.x (by rw [u1]; decide) (by rw [u1]; decide)
      refine sv_aload_n hΓ dX3_failsNow_106 rfl 0 rfl rfl ?_
      refine g_X3_34_18 hΓ dX3_failsNow_107 rfl ?_
      refine sv_aload_n hΓ dX3_failsNow_110 rfl 1 rfl rfl ?_
      refine gt_X3_130 hΓ hA.m rfl dX3_failsNow_111 rfl ?_
      refine al_25 hΓ (x) (oC_x hx (by omega)) (by omega) dX3_failsNow_114 rfl ?_
      refine sv_callSN hΓ (fun l => ct_X11_isPlace l (cl 25 x) ) hNW.2.2.2.1 tb_460 rfl rfl (by decide) (Nat.le_of_ble_eq_true rfl) (Nat.le_of_ble_eq_true rfl) (Nat.le_of_ble_eq_true rfl) dX3_failsNow_115 rfl (fun r M' nx' p5 => ?_)
      obtain ⟨rfl, rfl, rfl⟩ := p5
      show SV E Γ 2 (mm ci cl cr dy) nx 0 0 118 [(0, .ref 18), (1, .ref k)] [.int (bI (¬ (cl 25 x) < 0 ∧ ¬ 15 < (cl 25 x)))]
      refine sv_if_ne (tgt := 125) hΓ dX3_failsNow_118 (by decide) rfl (fun u6 => ?_) (fun u6 => ?_)
      · replace u6 := bI_ne.mp u6
        refine sv_iconst (v := 0) hΓ dX3_failsNow_125 (by decide) rfl ?_
        exact sv_zret hΓ hQ dX3_failsNow_126 (Nat.le_of_ble_eq_true rfl) (Nat.le_of_ble_eq_true rfl) rfl ⟨by rw [bI_w (by decide) (fn_8' (by rw [u1]; decide) hx (by omega)), bI_f (by rw [← hM.2.2.2.1 x (by omega)]; exact (not_not_intro u6))], rfl, rfl⟩
      · replace u6 := bI_0.mp u6
        refine sv_iconst (v := 1) hΓ dX3_failsNow_121 (by decide) rfl ?_
        refine sv_goto (pc' := 126) hΓ dX3_failsNow_122 (by decide) ?_
        exact sv_zret hΓ hQ dX3_failsNow_126 (Nat.le_of_ble_eq_true rfl) (Nat.le_of_ble_eq_true rfl) rfl ⟨by rw [bI_w (by decide) (fn_8' (by rw [u1]; decide) hx (by omega)), bI_t (by rw [← hM.2.2.2.1 x (by omega)]; exact u6)], rfl, rfl⟩
    · refine sv_tableIn (off := 102) (pc' := 106) hΓ dX3_failsNow_4 (by omega) (by omega) (by rw [u1]; rfl) (by decide) ?_
      replace u1 : c 44 a = (9 : Int32) := Int32.toInt_inj.mp (u1.trans (by decide))
      obtain ⟨x, hx6, hx⟩ : ∃ x, x < a ∧ c 46 (3 * a + 0) = nI x := hw.x (by rw [u1]; decide) (by rw [u1]; decide)
      refine sv_aload_n hΓ dX3_failsNow_106 rfl 0 rfl rfl ?_
      refine g_X3_34_18 hΓ dX3_failsNow_107 rfl ?_
      refine sv_aload_n hΓ dX3_failsNow_110 rfl 1 rfl rfl ?_
      refine gt_X3_130 hΓ hA.m rfl dX3_failsNow_111 rfl ?_
      refine al_25 hΓ (x) (oC_x hx (by omega)) (by omega) dX3_failsNow_114 rfl ?_
      refine sv_callSN hΓ (fun l => ct_X11_isPlace l (cl 25 x) ) hNW.2.2.2.1 tb_460 rfl rfl (by decide) (Nat.le_of_ble_eq_true rfl) (Nat.le_of_ble_eq_true rfl) (Nat.le_of_ble_eq_true rfl) dX3_failsNow_115 rfl (fun r M' nx' p7 => ?_)
      obtain ⟨rfl, rfl, rfl⟩ := p7
      show SV E Γ 2 (mm ci cl cr dy) nx 0 0 118 [(0, .ref 18), (1, .ref k)] [.int (bI (¬ (cl 25 x) < 0 ∧ ¬ 15 < (cl 25 x)))]
      refine sv_if_ne (tgt := 125) hΓ dX3_failsNow_118 (by decide) rfl (fun u8 => ?_) (fun u8 => ?_)
      · replace u8 := bI_ne.mp u8
        refine sv_iconst (v := 0) hΓ dX3_failsNow_125 (by decide) rfl ?_
        exact sv_zret hΓ hQ dX3_failsNow_126 (Nat.le_of_ble_eq_true rfl) (Nat.le_of_ble_eq_true rfl) rfl ⟨by rw [bI_w (by decide) (fn_8' (by rw [u1]; decide) hx (by omega)), bI_f (by rw [← hM.2.2.2.1 x (by omega)]; exact (not_not_intro u8))], rfl, rfl⟩
      · replace u8 := bI_0.mp u8
        refine sv_iconst (v := 1) hΓ dX3_failsNow_121 (by decide) rfl ?_
        refine sv_goto (pc' := 126) hΓ dX3_failsNow_122 (by decide) ?_
        exact sv_zret hΓ hQ dX3_failsNow_126 (Nat.le_of_ble_eq_true rfl) (Nat.le_of_ble_eq_true rfl) rfl ⟨by rw [bI_w (by decide) (fn_8' (by rw [u1]; decide) hx (by omega)), bI_t (by rw [← hM.2.2.2.1 x (by omega)]; exact u8)], rfl, rfl⟩
set_option maxRecDepth 100000 in
set_option maxHeartbeats 4000000 in
/-- result -/
theorem ct_X3_result {E : aG} (l : Launch) (c : aI) (nu : Nat → Int64) (lg : aL) (a : Nat) (k : Nat) (s : Nat) {ci : Nat → Nat → Int32} {cl : Nat → Nat → Int64} {cr : Nat → Nat → Option Nat} {dy : aM} {nx : Nat} (hA : AT c nu dy a k s) (hM : MR c lg ci cl) (hF : FD c lg ci cl) (hT : TR cr) (hw : WF c a) (ha : a < 16) (hp : PRE c a) (hNW : NW E) (hrx : RX c a) (hC : c 44 a = 0 → SL c nu a = lg 48 a) (hwh : whF c lg a = 0) : CT E l yX3_result cX3_result 6 (some .long) 1 [.ref 18, .ref k] (mm ci cl cr dy) nx 0 0 (fun r M' nx' => r = some (.long (gvF c lg a)) ∧ M' = mm ci cl cr dy ∧ nx = nx') := by
  refine CT_intro (by decide) (Nat.le_of_ble_eq_true rfl) (fun Γ hΓ hQ => ?_)
  replace hΓ : CK E RX3 cX3_result 6 (some .long) "result" 1 0 0 Γ := hΓ
  show SV E Γ 6 (mm ci cl cr dy) nx 0 0 0 [(0, .ref 18), (1, .ref k)] []
  have J22 : SV E Γ 6 (mm ci cl cr dy) nx 0 0 22 [(0, .ref 18), (1, .ref k)] [.long (xvF c cl a 0)] := by
    refine sv_lstore_n (lv' := [(2, .long (xvF c cl a 0)), (0, .ref 18), (1, .ref k)]) hΓ dX3_result_22 rfl (by decide) rfl rfl ?_
    have J45 : SV E Γ 6 (mm ci cl cr dy) nx 0 0 45 [(2, .long (xvF c cl a 0)), (0, .ref 18), (1, .ref k)] [.long (xvF c cl a 1)] := by
      refine sv_lstore (lv' := [(4, .long (xvF c cl a 1)), (2, .long (xvF c cl a 0)), (0, .ref 18), (1, .ref k)]) hΓ dX3_result_45 (by decide) rfl rfl ?_
      refine sv_aload_n hΓ dX3_result_47 rfl 3 rfl rfl ?_
      refine gt_X3_120 hΓ hA.m rfl dX3_result_48 rfl ?_
      refine sv_table (x := c 44 a) (lo := 0) (hi := 9) 9 rfl (fun u1 => ?_) (fun k hk u1 => ?_)
      · refine sv_tableOut (pc' := 221) hΓ dX3_result_51 u1 (by decide) ?_
        obtain ⟨x, hx6, hx⟩ : ∃ x, x < a ∧ c 46 (3 * a + 0) = nI x := hw.x (out_ne u1 0 (by decide)) (out_ne u1 1 (by decide))
        refine sv_lload_n hΓ dX3_result_221 rfl 1 rfl rfl ?_
        exact sv_lret hΓ hQ dX3_result_222 (Nat.le_of_ble_eq_true rfl) (Nat.le_of_ble_eq_true rfl) ⟨by rw [xv_e hM.2.2.2 hx (by omega)]; simp [gvF, op10 hw u1], rfl, rfl⟩
      · obtain rfl | rfl | rfl | rfl | rfl | rfl | rfl | rfl | rfl | rfl : k = 0 ∨ k = 1 ∨ k = 2 ∨ k = 3 ∨ k = 4 ∨ k = 5 ∨ k = 6 ∨ k = 7 ∨ k = 8 ∨ k = 9 := by omega
        · refine sv_tableIn (off := 53) (pc' := 104) hΓ dX3_result_51 (by omega) (by omega) (by rw [u1]; rfl) (by decide) ?_
          replace u1 : c 44 a = (0 : Int32) := Int32.toInt_inj.mp (u1.trans (by decide))
          refine sv_aload_n hΓ dX3_result_104 rfl 3 rfl rfl ?_
          refine gt_X3_137 hΓ hA.m rfl dX3_result_105 rfl ?_
          refine gt_X3_141 hΓ hA.sp.m rfl dX3_result_108 rfl ?_
          exact sv_lret hΓ hQ dX3_result_111 (Nat.le_of_ble_eq_true rfl) (Nat.le_of_ble_eq_true rfl) ⟨by rw [hC u1]; simp [gvF, u1], rfl, rfl⟩
        · refine sv_tableIn (off := 61) (pc' := 112) hΓ dX3_result_51 (by omega) (by omega) (by rw [u1]; rfl) (by decide) ?_
          replace u1 : c 44 a = (1 : Int32) := Int32.toInt_inj.mp (u1.trans (by decide))
          obtain ⟨q, hq4, hq⟩ := hw.q (by rw [u1]; decide)
          obtain ⟨tk, fd, ht1, ht2, ht3, ht4⟩ := hp.1 u1
          rw [hq, nI_clamp (by omega)] at ht1 ht2
          obtain ⟨tk2, htk⟩ := wh_1 hp (wh_0.mpr hwh)
          obtain ⟨htk1, htk2⟩ := htk u1
          rw [hq, nI_clamp (by omega), ht1] at htk1
          obtain rfl := (nI_eq (by omega) (by omega)).mp htk1
          refine sv_aload_n hΓ dX3_result_112 rfl 2 rfl rfl ?_
          refine g_X3_11_18 hΓ dX3_result_113 rfl ?_
          refine sv_aload_n hΓ dX3_result_116 rfl 3 rfl rfl ?_
          refine gt_X3_123 hΓ hA.m rfl dX3_result_117 rfl ?_
          refine ar_19 hΓ (q) hq (by omega) dX3_result_120 (v := .ref (26 + 2 * (2 * q))) (rf_some (hT q (by omega)).1) rfl ?_
          refine sv_aload_n hΓ dX3_result_121 rfl 2 rfl rfl ?_
          refine g_X3_27_18 hΓ dX3_result_122 rfl ?_
          refine sv_aload_n hΓ dX3_result_125 rfl 3 rfl rfl ?_
          refine gt_X3_123 hΓ hA.m rfl dX3_result_126 rfl ?_
          refine ai_23 hΓ (q) hq (by omega) dX3_result_129 rfl ?_
          rw [show ci 23 q = nI tk from (hM.2.1 q hq4).1.trans ht1]
          refine sv_callV hΓ (fun l => ct_X10_get l (2 * q) tk (by omega) (by rw [tpn_e]; omega)) wv_X3_147 vs_X10_get rfl (m_tp (q := 2 * q) (by omega)) rfl rfl (by decide) (Nat.le_of_ble_eq_true rfl) (Nat.le_of_ble_eq_true rfl) (Nat.le_of_ble_eq_true rfl) dX3_result_130 rfl (fun r M' nx' p2 => ?_)
          obtain ⟨rfl, rfl, rfl⟩ := p2
          show SV E Γ 6 (mm ci cl cr dy) nx 0 0 133 [(4, .long (xvF c cl a 1)), (2, .long (xvF c cl a 0)), (0, .ref 18), (1, .ref k)] [.long (cl (27 + 2 * (2 * q)) tk)]
          exact sv_lret hΓ hQ dX3_result_133 (Nat.le_of_ble_eq_true rfl) (Nat.le_of_ble_eq_true rfl) ⟨by rw [(hF q hq4).2 tk (by omega)]; simp [gvF, u1, hq, ht1, nI_clamp (show q < 2 ^ 31 by omega), nI_clamp (show tk < 2 ^ 31 by omega)], rfl, rfl⟩
        · refine sv_tableIn (off := 83) (pc' := 134) hΓ dX3_result_51 (by omega) (by omega) (by rw [u1]; rfl) (by decide) ?_
          replace u1 : c 44 a = (2 : Int32) := Int32.toInt_inj.mp (u1.trans (by decide))
          obtain ⟨x, hx6, hx⟩ : ∃ x, x < a ∧ c 46 (3 * a + 0) = nI x := hw.x (by rw [u1]; decide) (by rw [u1]; decide)
          obtain ⟨y, hy6, hy⟩ := hw.y (by rw [u1]; decide)
          refine sv_lload_n hΓ dX3_result_134 rfl 1 rfl rfl ?_
          refine sv_lload hΓ dX3_result_135 0 rfl rfl ?_
          refine sv_ladd hΓ dX3_result_137 rfl ?_
          exact sv_lret hΓ hQ dX3_result_138 (Nat.le_of_ble_eq_true rfl) (Nat.le_of_ble_eq_true rfl) ⟨by rw [xv_e hM.2.2.2 hx (by omega), xv_e hM.2.2.2 hy (by omega)]; simp [gvF, u1], rfl, rfl⟩
        · refine sv_tableIn (off := 88) (pc' := 139) hΓ dX3_result_51 (by omega) (by omega) (by rw [u1]; rfl) (by decide) ?_
          replace u1 : c 44 a = (3 : Int32) := Int32.toInt_inj.mp (u1.trans (by decide))
          obtain ⟨x, hx6, hx⟩ : ∃ x, x < a ∧ c 46 (3 * a + 0) = nI x := hw.x (by rw [u1]; decide) (by rw [u1]; decide)
          obtain ⟨y, hy6, hy⟩ := hw.y (by rw [u1]; decide)
          refine sv_lload_n hΓ dX3_result_139 rfl 1 rfl rfl ?_
          refine sv_lload hΓ dX3_result_140 0 rfl rfl ?_
          refine sv_lsub hΓ dX3_result_142 rfl ?_
          exact sv_lret hΓ hQ dX3_result_143 (Nat.le_of_ble_eq_true rfl) (Nat.le_of_ble_eq_true rfl) ⟨by rw [xv_e hM.2.2.2 hx (by omega), xv_e hM.2.2.2 hy (by omega)]; simp [gvF, u1], rfl, rfl⟩
        · refine sv_tableIn (off := 93) (pc' := 144) hΓ dX3_result_51 (by omega) (by omega) (by rw [u1]; rfl) (by decide) ?_
          replace u1 : c 44 a = (4 : Int32) := Int32.toInt_inj.mp (u1.trans (by decide))
          obtain ⟨x, hx6, hx⟩ : ∃ x, x < a ∧ c 46 (3 * a + 0) = nI x := hw.x (by rw [u1]; decide) (by rw [u1]; decide)
          obtain ⟨y, hy6, hy⟩ := hw.y (by rw [u1]; decide)
          refine sv_lload_n hΓ dX3_result_144 rfl 1 rfl rfl ?_
          refine sv_lload hΓ dX3_result_145 0 rfl rfl ?_
          refine sv_lmul hΓ dX3_result_147 rfl ?_
          exact sv_lret hΓ hQ dX3_result_148 (Nat.le_of_ble_eq_true rfl) (Nat.le_of_ble_eq_true rfl) ⟨by rw [xv_e hM.2.2.2 hx (by omega), xv_e hM.2.2.2 hy (by omega)]; simp [gvF, u1], rfl, rfl⟩
        · refine sv_tableIn (off := 98) (pc' := 149) hΓ dX3_result_51 (by omega) (by omega) (by rw [u1]; rfl) (by decide) ?_
          replace u1 : c 44 a = (5 : Int32) := Int32.toInt_inj.mp (u1.trans (by decide))
          obtain ⟨x, hx6, hx⟩ : ∃ x, x < a ∧ c 46 (3 * a + 0) = nI x := hw.x (by rw [u1]; decide) (by rw [u1]; decide)
          obtain ⟨y, hy6, hy⟩ := hw.y (by rw [u1]; decide)
          have h5 := wh_5 (wh_0.mpr hwh) u1
          refine sv_lload hΓ dX3_result_149 0 rfl rfl ?_
          refine sv_lconst (v := 0) hΓ dX3_result_151 (by decide) rfl ?_
          refine sv_lcmp hΓ dX3_result_152 rfl ?_
          refine sv_if_ne (tgt := 160) hΓ dX3_result_153 (by decide) rfl (fun u3 => ?_) (fun u3 => ?_)
          · replace u3 := lgc_ne.mp u3
            refine sv_lload_n hΓ dX3_result_160 rfl 1 rfl rfl ?_
            refine sv_lload hΓ dX3_result_161 0 rfl rfl ?_
            refine sv_ldiv hΓ dX3_result_163 (fun e => h5 ((xv_e hM.2.2.2 hy (by omega)).symm.trans e)) rfl ?_
            exact sv_lret hΓ hQ dX3_result_164 (Nat.le_of_ble_eq_true rfl) (Nat.le_of_ble_eq_true rfl) ⟨by rw [xv_e hM.2.2.2 hx (by omega), xv_e hM.2.2.2 hy (by omega)]; simp [gvF, u1], rfl, rfl⟩
          · replace u3 := lgc_eq.mp u3
            exact absurd ((xv_e hM.2.2.2 hy (by omega)).symm.trans u3) h5
        · refine sv_tableIn (off := 114) (pc' := 165) hΓ dX3_result_51 (by omega) (by omega) (by rw [u1]; rfl) (by decide) ?_
          replace u1 : c 44 a = (6 : Int32) := Int32.toInt_inj.mp (u1.trans (by decide))
          obtain ⟨x, hx6, hx⟩ : ∃ x, x < a ∧ c 46 (3 * a + 0) = nI x := hw.x (by rw [u1]; decide) (by rw [u1]; decide)
          obtain ⟨y, hy6, hy⟩ := hw.y (by rw [u1]; decide)
          refine sv_lload_n hΓ dX3_result_165 rfl 1 rfl rfl ?_
          refine sv_lload hΓ dX3_result_166 0 rfl rfl ?_
          refine sv_lcmp hΓ dX3_result_168 rfl ?_
          refine sv_if_ge (tgt := 176) hΓ dX3_result_169 (by decide) rfl (fun u4 => ?_) (fun u4 => ?_)
          · replace u4 := lgc_ge.mp u4
            refine sv_lconst (v := 0) hΓ dX3_result_176 (by decide) rfl ?_
            exact sv_lret hΓ hQ dX3_result_177 (Nat.le_of_ble_eq_true rfl) (Nat.le_of_ble_eq_true rfl) ⟨by have z := u4; rw [xv_e hM.2.2.2 hx (by omega), xv_e hM.2.2.2 hy (by omega)] at z; simp [gvF, u1, z], rfl, rfl⟩
          · replace u4 := mt lgc_ge.mpr u4
            refine sv_lconst (v := 1) hΓ dX3_result_172 (by decide) rfl ?_
            refine sv_goto (pc' := 177) hΓ dX3_result_173 (by decide) ?_
            exact sv_lret hΓ hQ dX3_result_177 (Nat.le_of_ble_eq_true rfl) (Nat.le_of_ble_eq_true rfl) ⟨by have z := u4; rw [xv_e hM.2.2.2 hx (by omega), xv_e hM.2.2.2 hy (by omega)] at z; simp [gvF, u1, z], rfl, rfl⟩
        · refine sv_tableIn (off := 127) (pc' := 178) hΓ dX3_result_51 (by omega) (by omega) (by rw [u1]; rfl) (by decide) ?_
          replace u1 : c 44 a = (7 : Int32) := Int32.toInt_inj.mp (u1.trans (by decide))
          obtain ⟨x, hx6, hx⟩ : ∃ x, x < a ∧ c 46 (3 * a + 0) = nI x := hw.x (by rw [u1]; decide) (by rw [u1]; decide)
          obtain ⟨y, hy6, hy⟩ := hw.y (by rw [u1]; decide)
          obtain ⟨z, hz6, hz⟩ := hw.z u1
          refine sv_lload_n hΓ dX3_result_178 rfl 1 rfl rfl ?_
          refine sv_lconst (v := 0) hΓ dX3_result_179 (by decide) rfl ?_
          refine sv_lcmp hΓ dX3_result_180 rfl ?_
          refine sv_if_eq (tgt := 189) hΓ dX3_result_181 (by decide) rfl (fun u5 => ?_) (fun u5 => ?_)
          · replace u5 := lgc_eq.mp u5
            refine sv_aload_n hΓ dX3_result_189 rfl 2 rfl rfl ?_
            refine g_X3_34_18 hΓ dX3_result_190 rfl ?_
            refine sv_aload_n hΓ dX3_result_193 rfl 3 rfl rfl ?_
            refine gt_X3_150 hΓ hA.m rfl dX3_result_194 rfl ?_
            refine al_25 hΓ (z) (oC_x hz (by omega)) (by omega) dX3_result_197 rfl ?_
            exact sv_lret hΓ hQ dX3_result_198 (Nat.le_of_ble_eq_true rfl) (Nat.le_of_ble_eq_true rfl) ⟨by have w := u5; rw [xv_e hM.2.2.2 hx (by omega)] at w; simp only [gvF, u1]; simp [w]; rw [hM.2.2.2.1 z (by omega), vA, hz, nI_clamp (by omega)], rfl, rfl⟩
          · replace u5 := mt lgc_eq.mpr u5
            refine sv_lload hΓ dX3_result_184 0 rfl rfl ?_
            refine sv_goto (pc' := 198) hΓ dX3_result_186 (by decide) ?_
            exact sv_lret hΓ hQ dX3_result_198 (Nat.le_of_ble_eq_true rfl) (Nat.le_of_ble_eq_true rfl) ⟨by have w := u5; rw [xv_e hM.2.2.2 hx (by omega)] at w; rw [xv_e hM.2.2.2 hy (by omega)]; simp [gvF, u1, w], rfl, rfl⟩
        · refine sv_tableIn (off := 148) (pc' := 199) hΓ dX3_result_51 (by omega) (by omega) (by rw [u1]; rfl) (by decide) ?_
          replace u1 : c 44 a = (8 : Int32) := Int32.toInt_inj.mp (u1.trans (by decide))
          obtain ⟨x, hx6, hx⟩ : ∃ x, x < a ∧ c 46 (3 * a + 0) = nI x := hw.x (by rw [u1]; decide) (by rw [u1]; decide)
          obtain ⟨j, hj, hj6⟩ := wh_8 (wh_0.mpr hwh) (Or.inl u1)
          refine sv_lload_n hΓ dX3_result_199 rfl 1 rfl rfl ?_
          refine sv_callSN hΓ (fun l => ct_X11_isPlace l (xvF c cl a 0) ) hNW.2.2.2.1 tb_460 rfl rfl (by decide) (Nat.le_of_ble_eq_true rfl) (Nat.le_of_ble_eq_true rfl) (Nat.le_of_ble_eq_true rfl) dX3_result_200 rfl (fun r M' nx' p6 => ?_)
          obtain ⟨rfl, rfl, rfl⟩ := p6
          show SV E Γ 6 (mm ci cl cr dy) nx 0 0 203 [(4, .long (xvF c cl a 1)), (2, .long (xvF c cl a 0)), (0, .ref 18), (1, .ref k)] [.int (bI (¬ (xvF c cl a 0) < 0 ∧ ¬ 15 < (xvF c cl a 0)))]
          refine sv_if_eq (tgt := 216) hΓ dX3_result_203 (by decide) rfl (fun u7 => ?_) (fun u7 => ?_)
          · replace u7 := bI_0.mp u7
            exact absurd (by rw [xv_e hM.2.2.2 hx (by omega), hj]; exact lN_pl hj6) u7
          · replace u7 := bI_ne.mp u7
            refine sv_aload_n hΓ dX3_result_206 rfl 2 rfl rfl ?_
            refine g_X3_24_18 hΓ dX3_result_207 rfl ?_
            refine sv_lload_n hΓ dX3_result_210 rfl 1 rfl rfl ?_
            refine sv_l2i hΓ dX3_result_211 rfl rfl ?_
            refine al_22 hΓ (j) ((by rw [xv_e hM.2.2.2 hx (by omega), hj]; exact lN_i j)) hj6 dX3_result_212 rfl ?_
            refine sv_goto (pc' := 217) hΓ dX3_result_213 (by decide) ?_
            exact sv_lret hΓ hQ dX3_result_217 (Nat.le_of_ble_eq_true rfl) (Nat.le_of_ble_eq_true rfl) ⟨by rw [hM.2.2.1 j hj6]; simp [gvF, u1, hj, lN_i, nI_clamp (show j < 2 ^ 31 by omega)], rfl, rfl⟩
        · refine sv_tableIn (off := 167) (pc' := 218) hΓ dX3_result_51 (by omega) (by omega) (by rw [u1]; rfl) (by decide) ?_
          replace u1 : c 44 a = (9 : Int32) := Int32.toInt_inj.mp (u1.trans (by decide))
          obtain ⟨y, hy6, hy⟩ := hw.y (by rw [u1]; decide)
          refine sv_lload hΓ dX3_result_218 0 rfl rfl ?_
          exact sv_lret hΓ hQ dX3_result_220 (Nat.le_of_ble_eq_true rfl) (Nat.le_of_ble_eq_true rfl) ⟨by rw [xv_e hM.2.2.2 hy (by omega)]; simp [gvF, u1], rfl, rfl⟩
    refine sv_aload_n hΓ dX3_result_23 rfl 2 rfl rfl ?_
    refine gt_X3_127 hΓ hA.m rfl dX3_result_24 rfl ?_
    refine sv_bipush (v := (-2)) hΓ dX3_result_27 (by decide) rfl ?_
    refine sv_icmp_ne (tgt := 36) hΓ dX3_result_29 (by decide) rfl (fun u8 => ?_) (fun u8 => ?_)
    · obtain ⟨x1, h61, e1⟩ := hrx.i (by decide) u8
      refine sv_aload_n hΓ dX3_result_36 rfl 1 rfl rfl ?_
      refine g_X3_34_18 hΓ dX3_result_37 rfl ?_
      refine sv_aload_n hΓ dX3_result_40 rfl 2 rfl rfl ?_
      refine gt_X3_127 hΓ hA.m rfl dX3_result_41 rfl ?_
      refine al_25 hΓ (x1) e1 h61 dX3_result_44 rfl ?_
      have e9 : xvF c cl a 1 = cl 25 x1 := by unfold xvF; rw [if_neg u8, e1, nI_clamp (by omega)]
      rw [e9] at J45
      exact J45
    · refine sv_lconst (v := 0) hΓ dX3_result_32 (by decide) rfl ?_
      refine sv_goto (pc' := 45) hΓ dX3_result_33 (by decide) ?_
      have e10 : xvF c cl a 1 = 0 := by unfold xvF; exact if_pos u8
      rw [e10] at J45
      exact J45
  refine sv_aload_n hΓ dX3_result_0 rfl 1 rfl rfl ?_
  refine gt_X3_130 hΓ hA.m rfl dX3_result_1 rfl ?_
  refine sv_bipush (v := (-2)) hΓ dX3_result_4 (by decide) rfl ?_
  refine sv_icmp_ne (tgt := 13) hΓ dX3_result_6 (by decide) rfl (fun u11 => ?_) (fun u11 => ?_)
  · obtain ⟨x0, h60, e0⟩ := hrx.i (by decide) u11
    refine sv_aload_n hΓ dX3_result_13 rfl 0 rfl rfl ?_
    refine g_X3_34_18 hΓ dX3_result_14 rfl ?_
    refine sv_aload_n hΓ dX3_result_17 rfl 1 rfl rfl ?_
    refine gt_X3_130 hΓ hA.m rfl dX3_result_18 rfl ?_
    refine al_25 hΓ (x0) e0 h60 dX3_result_21 rfl ?_
    have e12 : xvF c cl a 0 = cl 25 x0 := by unfold xvF; rw [if_neg u11, e0, nI_clamp (by omega)]
    rw [e12] at J22
    exact J22
  · refine sv_lconst (v := 0) hΓ dX3_result_9 (by decide) rfl ?_
    refine sv_goto (pc' := 22) hΓ dX3_result_10 (by decide) ?_
    have e13 : xvF c cl a 0 = 0 := by unfold xvF; exact if_pos u11
    rw [e13] at J22
    exact J22
set_option maxRecDepth 100000 in
set_option maxHeartbeats 4000000 in
/-- store -/
theorem ct_X3_store {E : aG} (l : Launch) (v : Int64) (u : Int64) (j : Nat) {ci : Nat → Nat → Int32} {cl : Nat → Nat → Int64} {cr : Nat → Nat → Option Nat} {dy : aM} {nx : Nat} (hNW : NW E) (hv : v = lN j) (hj : j < 16) : CT E l yX3_store cX3_store 5 none 1 [.ref 18, .long v, .long u] (mm ci cl cr dy) nx 0 0 (fun r M' nx' => r = none ∧ M' = mm ci (up2 cl 22 j u) cr dy ∧ nx = nx') := by
  refine CT_intro (by decide) (Nat.le_of_ble_eq_true rfl) (fun Γ hΓ hQ => ?_)
  replace hΓ : CK E RX3 cX3_store 5 none "store" 1 0 0 Γ := hΓ
  show SV E Γ 5 (mm ci cl cr dy) nx 0 0 0 [(0, .ref 18), (1, .long v), (3, .long u)] []
  refine sv_lload_n hΓ dX3_store_0 rfl 1 rfl rfl ?_
  refine sv_callSN hΓ (fun l => ct_X11_isPlace l v ) hNW.2.2.2.1 tb_460 rfl rfl (by decide) (Nat.le_of_ble_eq_true rfl) (Nat.le_of_ble_eq_true rfl) (Nat.le_of_ble_eq_true rfl) dX3_store_1 rfl (fun r M' nx' p1 => ?_)
  obtain ⟨rfl, rfl, rfl⟩ := p1
  show SV E Γ 5 (mm ci cl cr dy) nx 0 0 4 [(0, .ref 18), (1, .long v), (3, .long u)] [.int (bI (¬ v < 0 ∧ ¬ 15 < v))]
  refine sv_if_eq (tgt := 15) hΓ dX3_store_4 (by decide) rfl (fun u2 => ?_) (fun u2 => ?_)
  · replace u2 := bI_0.mp u2
    exact absurd (by rw [hv]; exact lN_pl hj) u2
  · replace u2 := bI_ne.mp u2
    refine sv_aload_n hΓ dX3_store_7 rfl 0 rfl rfl ?_
    refine g_X3_24_18 hΓ dX3_store_8 rfl ?_
    refine sv_lload_n hΓ dX3_store_11 rfl 1 rfl rfl ?_
    refine sv_l2i hΓ dX3_store_12 rfl rfl ?_
    refine sv_lload_n hΓ dX3_store_13 rfl 2 rfl rfl ?_
    refine at_22 hΓ (j) ((by rw [hv]; exact lN_i j)) hj dX3_store_14 rfl ?_
    exact sv_vret hΓ hQ dX3_store_15 (Nat.le_of_ble_eq_true rfl) (Nat.le_of_ble_eq_true rfl) ⟨rfl, rfl, rfl⟩
set_option maxRecDepth 100000 in
set_option maxHeartbeats 4000000 in
/-- passOutside -/
theorem ct_X3_passOutside {E : aG} (l : Launch) (c : aI) (nu : Nat → Int64) (a : Nat) (k : Nat) (s : Nat) (v : Int64) (p : Nat) (pu : Nat) (x : Nat) (j : Nat) {ci : Nat → Nat → Int32} {cl : Nat → Nat → Int64} {cr : Nat → Nat → Option Nat} {dy : aM} {nx : Nat} (hA : AT c nu dy a k s) (hNW : NW E) (hT : TR cr) (h1 : c 44 a = 1 ∨ c 44 a = 10 → c 47 a = nI p ∧ p < 4) (h9 : c 44 a = 9 → oC c a 0 = nI x ∧ x < 16 ∧ cl 25 x = lN j ∧ j < 16) (h10 : c 44 a = 10 → ci (26 + 2 * (2 * p + 1)) 1 = nI pu ∧ pu < 16) : CT E l yX3_passOutside cX3_passOutside 4 none 2 [.ref 18, .ref k, .long v] (mm ci cl cr dy) nx 0 0 (fun r M' nx' => (c 44 a = 1 ∧ r = none ∧ M' = mm (up2 ci 23 p (ci 23 p + 1)) cl cr dy ∧ nx = nx') ∨ (c 44 a = 9 ∧ r = none ∧ M' = mm ci (up2 cl 22 j v) cr dy ∧ nx = nx') ∨ (c 44 a = 10 ∧ r = none ∧ M' = mm (up2 ci (26 + 2 * (2 * p + 1)) 1 (nI (pu + 1))) (up2 cl (27 + 2 * (2 * p + 1)) pu v) cr dy ∧ nx = nx') ∨ (¬ c 44 a = 1 ∧ ¬ c 44 a = 9 ∧ ¬ c 44 a = 10 ∧ r = none ∧ M' = mm ci cl cr dy ∧ nx = nx')) := by
  refine CT_intro (by decide) (Nat.le_of_ble_eq_true rfl) (fun Γ hΓ hQ => ?_)
  replace hΓ : CK E RX3 cX3_passOutside 4 none "passOutside" 2 0 0 Γ := hΓ
  show SV E Γ 4 (mm ci cl cr dy) nx 0 0 0 [(0, .ref 18), (1, .ref k), (2, .long v)] []
  refine sv_aload_n hΓ dX3_passOutside_0 rfl 1 rfl rfl ?_
  refine gt_X3_120 hΓ hA.m rfl dX3_passOutside_1 rfl ?_
  by_cases u1 : c 44 a = (1 : Int32)
  · refine sv_lookup (off := 36) (pc' := 40) hΓ dX3_passOutside_4 (by decide) ((by rw [u1]; rfl)) (by decide) ?_
    obtain ⟨hp, h4⟩ := h1 (Or.inl u1)
    refine sv_aload_n hΓ dX3_passOutside_40 rfl 0 rfl rfl ?_
    refine g_X3_27_18 hΓ dX3_passOutside_41 rfl ?_
    refine sv_aload_n hΓ dX3_passOutside_44 rfl 1 rfl rfl ?_
    refine gt_X3_123 hΓ hA.m rfl dX3_passOutside_45 rfl ?_
    refine sv_dup2 hΓ dX3_passOutside_48 rfl rfl rfl ?_
    refine ai_23 hΓ (p) hp (by omega) dX3_passOutside_49 rfl ?_
    refine sv_iconst (v := 1) hΓ dX3_passOutside_50 (by decide) rfl ?_
    refine sv_iadd hΓ dX3_passOutside_51 rfl ?_
    refine as_23 hΓ (p) hp (by omega) dX3_passOutside_52 rfl ?_
    refine sv_goto (pc' := 89) hΓ dX3_passOutside_53 (by decide) ?_
    exact sv_vret hΓ hQ dX3_passOutside_89 (Nat.le_of_ble_eq_true rfl) (Nat.le_of_ble_eq_true rfl) (Or.inl ⟨u1, rfl, rfl, rfl⟩)
  by_cases u2 : c 44 a = (9 : Int32)
  · refine sv_lookup (off := 52) (pc' := 56) hΓ dX3_passOutside_4 (by decide) ((lv_osw u1 rfl).trans ((by rw [u2]; rfl))) (by decide) ?_
    obtain ⟨hx, hx6, hj, hj6⟩ := h9 u2
    refine sv_aload_n hΓ dX3_passOutside_56 rfl 0 rfl rfl ?_
    refine sv_aload_n hΓ dX3_passOutside_57 rfl 0 rfl rfl ?_
    refine g_X3_34_18 hΓ dX3_passOutside_58 rfl ?_
    refine sv_aload_n hΓ dX3_passOutside_61 rfl 1 rfl rfl ?_
    refine gt_X3_130 hΓ hA.m rfl dX3_passOutside_62 rfl ?_
    refine al_25 hΓ (x) hx (by omega) dX3_passOutside_65 rfl ?_
    refine sv_lload_n hΓ dX3_passOutside_66 rfl 2 rfl rfl ?_
    refine sv_callV hΓ (fun l => ct_X3_store l (cl 25 x) v j (by omega) hj hj6) wv_X3_153 vs_X3_store rfl m_18 rfl rfl (by decide) (Nat.le_of_ble_eq_true rfl) (Nat.le_of_ble_eq_true rfl) (Nat.le_of_ble_eq_true rfl) dX3_passOutside_67 rfl (fun r M' nx' p3 => ?_)
    obtain ⟨rfl, rfl, rfl⟩ := p3
    show SV E Γ 4 (mm ci (up2 cl 22 j v) cr dy) nx 0 0 70 [(0, .ref 18), (1, .ref k), (2, .long v)] []
    refine sv_goto (pc' := 89) hΓ dX3_passOutside_70 (by decide) ?_
    exact sv_vret hΓ hQ dX3_passOutside_89 (Nat.le_of_ble_eq_true rfl) (Nat.le_of_ble_eq_true rfl) (Or.inr (Or.inl ⟨u2, rfl, rfl, rfl⟩))
  by_cases u4 : c 44 a = (10 : Int32)
  · refine sv_lookup (off := 69) (pc' := 73) hΓ dX3_passOutside_4 (by decide) ((lv_osw u1 rfl).trans ((lv_osw u2 rfl).trans ((by rw [u4]; rfl)))) (by decide) ?_
    obtain ⟨hp, h4⟩ := h1 (Or.inr u4)
    obtain ⟨hpu, h16⟩ := h10 u4
    refine sv_aload_n hΓ dX3_passOutside_73 rfl 0 rfl rfl ?_
    refine g_X3_17_18 hΓ dX3_passOutside_74 rfl ?_
    refine sv_aload_n hΓ dX3_passOutside_77 rfl 1 rfl rfl ?_
    refine gt_X3_123 hΓ hA.m rfl dX3_passOutside_78 rfl ?_
    refine ar_20 hΓ (p) hp (by omega) dX3_passOutside_81 (v := .ref (26 + 2 * (2 * p + 1))) (rf_some (hT p (by omega)).2) rfl ?_
    refine sv_lload_n hΓ dX3_passOutside_82 rfl 2 rfl rfl ?_
    refine sv_callV hΓ (fun l => ct_X10_append l (2 * p + 1) pu v (by omega) hpu (by rw [tpn_o]; omega)) wv_X3_157 vs_X10_append rfl (m_tp (q := 2 * p + 1) (by omega)) rfl rfl (by decide) (Nat.le_of_ble_eq_true rfl) (Nat.le_of_ble_eq_true rfl) (Nat.le_of_ble_eq_true rfl) dX3_passOutside_83 rfl (fun r M' nx' p5 => ?_)
    obtain ⟨rfl, rfl, rfl⟩ := p5
    show SV E Γ 4 (mm (up2 ci (26 + 2 * (2 * p + 1)) 1 (nI (pu + 1))) (up2 cl (27 + 2 * (2 * p + 1)) pu v) cr dy) nx 0 0 86 [(0, .ref 18), (1, .ref k), (2, .long v)] []
    refine sv_goto (pc' := 89) hΓ dX3_passOutside_86 (by decide) ?_
    exact sv_vret hΓ hQ dX3_passOutside_89 (Nat.le_of_ble_eq_true rfl) (Nat.le_of_ble_eq_true rfl) (Or.inr (Or.inr (Or.inl ⟨u4, rfl, rfl, rfl⟩)))
  refine sv_lookup (off := 85) (pc' := 89) hΓ dX3_passOutside_4 (by decide) ((lv_osw u1 rfl).trans ((lv_osw u2 rfl).trans ((lv_osw u4 rfl).trans (rfl)))) (by decide) ?_
  exact sv_vret hΓ hQ dX3_passOutside_89 (Nat.le_of_ble_eq_true rfl) (Nat.le_of_ble_eq_true rfl) (Or.inr (Or.inr (Or.inr ⟨u1, u2, u4, rfl, rfl, rfl⟩)))
