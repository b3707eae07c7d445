set_option maxRecDepth 100000 in
set_option maxHeartbeats 4000000 in
/-- meetInRow -/
theorem ct_X4_meetInRow {E : aG} (l : Launch) (c : aI) (nu : Nat → Int64) (n : Nat) (a : Nat) (k : Nat) (s : Nat) (a2 : Nat) (k2 : Nat) (s2 : Nat) {ci : Nat → Nat → Int32} {cl : Nat → Nat → Int64} {cr : Nat → Nat → Option Nat} {dy : aM} {nx : Nat} (hA : AT c nu dy a k s) (hA2 : AT c nu dy a2 k2 s2) (hB : BK c nu ci cr dy n) (ha : a < n) (ha2 : a2 < n) : CT E l yX4_meetInRow cX4_meetInRow 3 (some .boolean) 1 [.ref 8, .ref k, .ref k2] (mm ci cl cr dy) nx 0 0 (fun r M' nx' => r = some (.int (bI (DR c a a2 ∧ MT c (sC c nu) a a2))) ∧ M' = mm ci cl cr dy ∧ nx = nx') := by
  refine CT_intro (by decide) (Nat.le_of_ble_eq_true rfl) (fun Γ hΓ hQ => ?_)
  replace hΓ : CK E RX4 cX4_meetInRow 3 (some .boolean) "meetInRow" 1 0 0 Γ := hΓ
  obtain ⟨hAC, hST, hn6, hn, hwf, hwp, hln⟩ := hB
  show SV E Γ 3 (mm ci cl cr dy) nx 0 0 0 [(0, .ref 8), (1, .ref k), (2, .ref k2)] []
  refine sv_aload_n hΓ dX4_meetInRow_0 rfl 1 rfl rfl ?_
  refine sv_callV hΓ (fun l => ct_X0_kind l c nu a k s hA) wv_X4_61 vs_X0_kind rfl hA.m rfl rfl (by decide) (Nat.le_of_ble_eq_true rfl) (Nat.le_of_ble_eq_true rfl) (Nat.le_of_ble_eq_true rfl) dX4_meetInRow_1 rfl (fun r M' nx' p1 => ?_)
  obtain ⟨rfl, rfl, rfl⟩ := p1
  show SV E Γ 3 (mm ci cl cr dy) nx 0 0 4 [(0, .ref 8), (1, .ref k), (2, .ref k2)] [.int (kd (c 44 a))]
  refine sv_iconst (v := 3) hΓ dX4_meetInRow_4 (by decide) rfl ?_
  refine sv_icmp_ne (tgt := 72) hΓ dX4_meetInRow_5 (by decide) rfl (fun u2 => ?_) (fun u2 => ?_)
  · refine sv_iconst (v := 0) hΓ dX4_meetInRow_72 (by decide) rfl ?_
    exact sv_zret hΓ hQ dX4_meetInRow_73 (Nat.le_of_ble_eq_true rfl) (Nat.le_of_ble_eq_true rfl) rfl ⟨by rw [bI_f (fun q => u2 (kd3.mpr q.1.1))], rfl, rfl⟩
  · refine sv_aload_n hΓ dX4_meetInRow_8 rfl 2 rfl rfl ?_
    refine sv_callV hΓ (fun l => ct_X0_kind l c nu a2 k2 s2 hA2) wv_X4_61 vs_X0_kind rfl hA2.m rfl rfl (by decide) (Nat.le_of_ble_eq_true rfl) (Nat.le_of_ble_eq_true rfl) (Nat.le_of_ble_eq_true rfl) dX4_meetInRow_9 rfl (fun r M' nx' p3 => ?_)
    obtain ⟨rfl, rfl, rfl⟩ := p3
    show SV E Γ 3 (mm ci cl cr dy) nx 0 0 12 [(0, .ref 8), (1, .ref k), (2, .ref k2)] [.int (kd (c 44 a2))]
    refine sv_iconst (v := 3) hΓ dX4_meetInRow_12 (by decide) rfl ?_
    refine sv_icmp_ne (tgt := 72) hΓ dX4_meetInRow_13 (by decide) rfl (fun u4 => ?_) (fun u4 => ?_)
    · refine sv_iconst (v := 0) hΓ dX4_meetInRow_72 (by decide) rfl ?_
      exact sv_zret hΓ hQ dX4_meetInRow_73 (Nat.le_of_ble_eq_true rfl) (Nat.le_of_ble_eq_true rfl) rfl ⟨by rw [bI_f (fun q => u4 (kd3.mpr q.1.2.1))], rfl, rfl⟩
    · refine sv_aload_n hΓ dX4_meetInRow_16 rfl 1 rfl rfl ?_
      refine gt_X4_65 hΓ hA.m rfl dX4_meetInRow_17 rfl ?_
      refine sv_bipush (v := 9) hΓ dX4_meetInRow_20 (by decide) rfl ?_
      refine sv_icmp_eq (tgt := 34) hΓ dX4_meetInRow_22 (by decide) rfl (fun u5 => ?_) (fun u5 => ?_)
      · obtain ⟨x, hx6, hx⟩ := (hwf a (by omega)).xn u2
        obtain ⟨y, hy6, hy⟩ := (hwf a2 (by omega)).xn u4
        refine sv_aload_n hΓ dX4_meetInRow_34 rfl 0 rfl rfl ?_
        refine g_X4_15_8 hΓ dX4_meetInRow_35 rfl ?_
        refine sv_aload_n hΓ dX4_meetInRow_38 rfl 1 rfl rfl ?_
        refine gt_X4_69 hΓ hA.m rfl dX4_meetInRow_39 rfl ?_
        rw [show oC c a 0 = nI x from oC_x hx (by omega)]
        obtain ⟨kg6, sg6, hrg6, hAg6⟩ := hAC x (by omega)
        refine sv_callV hΓ (fun l => ct_X1_get l x kg6 (by omega) hrg6) wv_X4_23 vs_X1_get rfl m_2 rfl rfl (by decide) (Nat.le_of_ble_eq_true rfl) (Nat.le_of_ble_eq_true rfl) (Nat.le_of_ble_eq_true rfl) dX4_meetInRow_42 rfl (fun r M' nx' p7 => ?_)
        obtain ⟨rfl, rfl, rfl⟩ := p7
        show SV E Γ 3 (mm ci cl cr dy) nx 0 0 45 [(0, .ref 8), (1, .ref k), (2, .ref k2)] [.ref kg6]
        refine gt_X4_72 hΓ hAg6.m rfl dX4_meetInRow_45 rfl ?_
        refine sv_aload_n hΓ dX4_meetInRow_48 rfl 0 rfl rfl ?_
        refine g_X4_15_8 hΓ dX4_meetInRow_49 rfl ?_
        refine sv_aload_n hΓ dX4_meetInRow_52 rfl 2 rfl rfl ?_
        refine gt_X4_69 hΓ hA2.m rfl dX4_meetInRow_53 rfl ?_
        rw [show oC c a2 0 = nI y from oC_x hy (by omega)]
        obtain ⟨kg8, sg8, hrg8, hAg8⟩ := hAC y (by omega)
        refine sv_callV hΓ (fun l => ct_X1_get l y kg8 (by omega) hrg8) wv_X4_23 vs_X1_get rfl m_2 rfl rfl (by decide) (Nat.le_of_ble_eq_true rfl) (Nat.le_of_ble_eq_true rfl) (Nat.le_of_ble_eq_true rfl) dX4_meetInRow_56 rfl (fun r M' nx' p9 => ?_)
        obtain ⟨rfl, rfl, rfl⟩ := p9
        show SV E Γ 3 (mm ci cl cr dy) nx 0 0 59 [(0, .ref 8), (1, .ref k), (2, .ref k2)] [.ref kg8, .ref sg6]
        refine gt_X4_72 hΓ hAg8.m rfl dX4_meetInRow_59 rfl ?_
        refine sv_callV hΓ (fun l => ct_X8_meets l sg6 (SL c nu x) (SH c nu x) sg8 (SL c nu y) (SH c nu y) hAg6.sp hAg8.sp) wv_X4_76 vs_X8_meets rfl hAg6.sp.m rfl rfl (by decide) (Nat.le_of_ble_eq_true rfl) (Nat.le_of_ble_eq_true rfl) (Nat.le_of_ble_eq_true rfl) dX4_meetInRow_62 rfl (fun r M' nx' p10 => ?_)
        obtain ⟨rfl, rfl, rfl⟩ := p10
        show SV E Γ 3 (mm ci cl cr dy) nx 0 0 65 [(0, .ref 8), (1, .ref k), (2, .ref k2)] [.int (bI (¬ (SH c nu y) < (SL c nu x) ∧ ¬ (SH c nu x) < (SL c nu y)))]
        refine sv_if_eq (tgt := 72) hΓ dX4_meetInRow_65 (by decide) rfl (fun u11 => ?_) (fun u11 => ?_)
        · replace u11 := bI_0.mp u11
          refine sv_iconst (v := 0) hΓ dX4_meetInRow_72 (by decide) rfl ?_
          exact sv_zret hΓ hQ dX4_meetInRow_73 (Nat.le_of_ble_eq_true rfl) (Nat.le_of_ble_eq_true rfl) rfl ⟨by rw [bI_f (fun q => u11 (by have z := q.2; simp only [MT] at z; rw [show c 46 (3 * a) = nI x from hx, show c 46 (3 * a2) = nI y from hy, nI_clamp (by omega), nI_clamp (by omega)] at z; exact z))], rfl, rfl⟩
        · replace u11 := bI_ne.mp u11
          refine sv_iconst (v := 1) hΓ dX4_meetInRow_68 (by decide) rfl ?_
          refine sv_goto (pc' := 73) hΓ dX4_meetInRow_69 (by decide) ?_
          exact sv_zret hΓ hQ dX4_meetInRow_73 (Nat.le_of_ble_eq_true rfl) (Nat.le_of_ble_eq_true rfl) rfl ⟨by rw [bI_t ⟨⟨kd3.mp u2, kd3.mp u4, by grind⟩, by simp only [MT]; rw [show c 46 (3 * a) = nI x from hx, show c 46 (3 * a2) = nI y from hy, nI_clamp (by omega), nI_clamp (by omega)]; exact u11⟩], rfl, rfl⟩
      · refine sv_aload_n hΓ dX4_meetInRow_25 rfl 2 rfl rfl ?_
        refine gt_X4_65 hΓ hA2.m rfl dX4_meetInRow_26 rfl ?_
        refine sv_bipush (v := 9) hΓ dX4_meetInRow_29 (by decide) rfl ?_
        refine sv_icmp_ne (tgt := 72) hΓ dX4_meetInRow_31 (by decide) rfl (fun u12 => ?_) (fun u12 => ?_)
        · refine sv_iconst (v := 0) hΓ dX4_meetInRow_72 (by decide) rfl ?_
          exact sv_zret hΓ hQ dX4_meetInRow_73 (Nat.le_of_ble_eq_true rfl) (Nat.le_of_ble_eq_true rfl) rfl ⟨by rw [bI_f (fun q => q.1.2.2.elim u5 u12)], rfl, rfl⟩
        · obtain ⟨x, hx6, hx⟩ := (hwf a (by omega)).xn u2
          obtain ⟨y, hy6, hy⟩ := (hwf a2 (by omega)).xn u4
          refine sv_aload_n hΓ dX4_meetInRow_34 rfl 0 rfl rfl ?_
          refine g_X4_15_8 hΓ dX4_meetInRow_35 rfl ?_
          refine sv_aload_n hΓ dX4_meetInRow_38 rfl 1 rfl rfl ?_
          refine gt_X4_69 hΓ hA.m rfl dX4_meetInRow_39 rfl ?_
          rw [show oC c a 0 = nI x from oC_x hx (by omega)]
          obtain ⟨kg13, sg13, hrg13, hAg13⟩ := hAC x (by omega)
          refine sv_callV hΓ (fun l => ct_X1_get l x kg13 (by omega) hrg13) wv_X4_23 vs_X1_get rfl m_2 rfl rfl (by decide) (Nat.le_of_ble_eq_true rfl) (Nat.le_of_ble_eq_true rfl) (Nat.le_of_ble_eq_true rfl) dX4_meetInRow_42 rfl (fun r M' nx' p14 => ?_)
          obtain ⟨rfl, rfl, rfl⟩ := p14
          show SV E Γ 3 (mm ci cl cr dy) nx 0 0 45 [(0, .ref 8), (1, .ref k), (2, .ref k2)] [.ref kg13]
          refine gt_X4_72 hΓ hAg13.m rfl dX4_meetInRow_45 rfl ?_
          refine sv_aload_n hΓ dX4_meetInRow_48 rfl 0 rfl rfl ?_
          refine g_X4_15_8 hΓ dX4_meetInRow_49 rfl ?_
          refine sv_aload_n hΓ dX4_meetInRow_52 rfl 2 rfl rfl ?_
          refine gt_X4_69 hΓ hA2.m rfl dX4_meetInRow_53 rfl ?_
          rw [show oC c a2 0 = nI y from oC_x hy (by omega)]
          obtain ⟨kg15, sg15, hrg15, hAg15⟩ := hAC y (by omega)
          refine sv_callV hΓ (fun l => ct_X1_get l y kg15 (by omega) hrg15) wv_X4_23 vs_X1_get rfl m_2 rfl rfl (by decide) (Nat.le_of_ble_eq_true rfl) (Nat.le_of_ble_eq_true rfl) (Nat.le_of_ble_eq_true rfl) dX4_meetInRow_56 rfl (fun r M' nx' p16 => ?_)
          obtain ⟨rfl, rfl, rfl⟩ := p16
          show SV E Γ 3 (mm ci cl cr dy) nx 0 0 59 [(0, .ref 8), (1, .ref k), (2, .ref k2)] [.ref kg15, .ref sg13]
          refine gt_X4_72 hΓ hAg15.m rfl dX4_meetInRow_59 rfl ?_
          refine sv_callV hΓ (fun l => ct_X8_meets l sg13 (SL c nu x) (SH c nu x) sg15 (SL c nu y) (SH c nu y) hAg13.sp hAg15.sp) wv_X4_76 vs_X8_meets rfl hAg13.sp.m rfl rfl (by decide) (Nat.le_of_ble_eq_true rfl) (Nat.le_of_ble_eq_true rfl) (Nat.le_of_ble_eq_true rfl) dX4_meetInRow_62 rfl (fun r M' nx' p17 => ?_)
          obtain ⟨rfl, rfl, rfl⟩ := p17
          show SV E Γ 3 (mm ci cl cr dy) nx 0 0 65 [(0, .ref 8), (1, .ref k), (2, .ref k2)] [.int (bI (¬ (SH c nu y) < (SL c nu x) ∧ ¬ (SH c nu x) < (SL c nu y)))]
          refine sv_if_eq (tgt := 72) hΓ dX4_meetInRow_65 (by decide) rfl (fun u18 => ?_) (fun u18 => ?_)
          · replace u18 := bI_0.mp u18
            refine sv_iconst (v := 0) hΓ dX4_meetInRow_72 (by decide) rfl ?_
            exact sv_zret hΓ hQ dX4_meetInRow_73 (Nat.le_of_ble_eq_true rfl) (Nat.le_of_ble_eq_true rfl) rfl ⟨by rw [bI_f (fun q => u18 (by have z := q.2; simp only [MT] at z; rw [show c 46 (3 * a) = nI x from hx, show c 46 (3 * a2) = nI y from hy, nI_clamp (by omega), nI_clamp (by omega)] at z; exact z))], rfl, rfl⟩
          · replace u18 := bI_ne.mp u18
            refine sv_iconst (v := 1) hΓ dX4_meetInRow_68 (by decide) rfl ?_
            refine sv_goto (pc' := 73) hΓ dX4_meetInRow_69 (by decide) ?_
            exact sv_zret hΓ hQ dX4_meetInRow_73 (Nat.le_of_ble_eq_true rfl) (Nat.le_of_ble_eq_true rfl) rfl ⟨by rw [bI_t ⟨⟨kd3.mp u2, kd3.mp u4, by grind⟩, by simp only [MT]; rw [show c 46 (3 * a) = nI x from hx, show c 46 (3 * a2) = nI y from hy, nI_clamp (by omega), nI_clamp (by omega)]; exact u18⟩], rfl, rfl⟩
set_option maxRecDepth 100000 in
set_option maxHeartbeats 4000000 in
/-- meetAtPort -/
theorem ct_X4_meetAtPort {E : aG} (l : Launch) (c : aI) (nu : Nat → Int64) (n : Nat) (a : Nat) (k : Nat) (s : Nat) (a2 : Nat) (k2 : Nat) (s2 : Nat) {ci : Nat → Nat → Int32} {cl : Nat → Nat → Int64} {cr : Nat → Nat → Option Nat} {dy : aM} {nx : Nat} (hA : AT c nu dy a k s) (hA2 : AT c nu dy a2 k2 s2) (hB : BK c nu ci cr dy n) (ha : a < n) (ha2 : a2 < n) : CT E l yX4_meetAtPort cX4_meetAtPort 2 (some .boolean) 0 [.ref k, .ref k2] (mm ci cl cr dy) nx 0 0 (fun r M' nx' => r = some (.int (bI (PT c a a2))) ∧ M' = mm ci cl cr dy ∧ nx = nx') := by
  refine CT_intro (by decide) (Nat.le_of_ble_eq_true rfl) (fun Γ hΓ hQ => ?_)
  replace hΓ : CK E RX4 cX4_meetAtPort 2 (some .boolean) "meetAtPort" 0 0 0 Γ := hΓ
  obtain ⟨hAC, hST, hn6, hn, hwf, hwp, hln⟩ := hB
  have w1 := hwp a ha
  have w2 := (hwf a ha).np
  unfold WP at w1
  show SV E Γ 2 (mm ci cl cr dy) nx 0 0 0 [(0, .ref k), (1, .ref k2)] []
  refine sv_aload_n hΓ dX4_meetAtPort_0 rfl 0 rfl rfl ?_
  refine gt_X4_82 hΓ hA.m rfl dX4_meetAtPort_1 rfl ?_
  refine sv_bipush (v := (-2)) hΓ dX4_meetAtPort_4 (by decide) rfl ?_
  refine sv_icmp_eq (tgt := 35) hΓ dX4_meetAtPort_6 (by decide) rfl (fun u1 => ?_) (fun u1 => ?_)
  · refine sv_iconst (v := 0) hΓ dX4_meetAtPort_35 (by decide) rfl ?_
    exact sv_zret hΓ hQ dX4_meetAtPort_36 (Nat.le_of_ble_eq_true rfl) (Nat.le_of_ble_eq_true rfl) rfl ⟨by rw [bI_f (by unfold PT; grind)], rfl, rfl⟩
  · refine sv_aload_n hΓ dX4_meetAtPort_9 rfl 0 rfl rfl ?_
    refine gt_X4_82 hΓ hA.m rfl dX4_meetAtPort_10 rfl ?_
    refine sv_aload_n hΓ dX4_meetAtPort_13 rfl 1 rfl rfl ?_
    refine gt_X4_82 hΓ hA2.m rfl dX4_meetAtPort_14 rfl ?_
    refine sv_icmp_ne (tgt := 35) hΓ dX4_meetAtPort_17 (by decide) rfl (fun u2 => ?_) (fun u2 => ?_)
    · refine sv_iconst (v := 0) hΓ dX4_meetAtPort_35 (by decide) rfl ?_
      exact sv_zret hΓ hQ dX4_meetAtPort_36 (Nat.le_of_ble_eq_true rfl) (Nat.le_of_ble_eq_true rfl) rfl ⟨by rw [bI_f (by unfold PT; grind)], rfl, rfl⟩
    · refine sv_aload_n hΓ dX4_meetAtPort_20 rfl 0 rfl rfl ?_
      refine gt_X4_65 hΓ hA.m rfl dX4_meetAtPort_21 rfl ?_
      refine sv_aload_n hΓ dX4_meetAtPort_24 rfl 1 rfl rfl ?_
      refine gt_X4_65 hΓ hA2.m rfl dX4_meetAtPort_25 rfl ?_
      refine sv_icmp_ne (tgt := 35) hΓ dX4_meetAtPort_28 (by decide) rfl (fun u3 => ?_) (fun u3 => ?_)
      · refine sv_iconst (v := 0) hΓ dX4_meetAtPort_35 (by decide) rfl ?_
        exact sv_zret hΓ hQ dX4_meetAtPort_36 (Nat.le_of_ble_eq_true rfl) (Nat.le_of_ble_eq_true rfl) rfl ⟨by rw [bI_f (by unfold PT; grind)], rfl, rfl⟩
      · refine sv_iconst (v := 1) hΓ dX4_meetAtPort_31 (by decide) rfl ?_
        refine sv_goto (pc' := 36) hΓ dX4_meetAtPort_32 (by decide) ?_
        exact sv_zret hΓ hQ dX4_meetAtPort_36 (Nat.le_of_ble_eq_true rfl) (Nat.le_of_ble_eq_true rfl) rfl ⟨by rw [bI_t (by unfold PT; grind)], rfl, rfl⟩
set_option maxRecDepth 100000 in
set_option maxHeartbeats 4000000 in
/-- between -/
theorem ct_X4_between {E : aG} (l : Launch) (c : aI) (nu : Nat → Int64) (n : Nat) (a : Nat) (b : Nat) {ci : Nat → Nat → Int32} {cl : Nat → Nat → Int64} {cr : Nat → Nat → Option Nat} {dy : aM} {nx : Nat} (hB : BK c nu ci cr dy n) (ha : a < n) (hb : b < n) : CT E l yX4_between cX4_between 6 (some .int) 2 [.ref 8, .int (nI a), .int (nI b)] (mm ci cl cr dy) nx 0 0 (fun r M' nx' => r = some (.int (nd c (sC c nu) a b)) ∧ M' = mm ci cl cr dy ∧ nx = nx') := by
  refine CT_intro (by decide) (Nat.le_of_ble_eq_true rfl) (fun Γ hΓ hQ => ?_)
  replace hΓ : CK E RX4 cX4_between 6 (some .int) "between" 2 0 0 Γ := hΓ
  have hB0 := hB
  obtain ⟨hAC, hST, hn6, hn, hwf, hwp, hln⟩ := hB
  show SV E Γ 6 (mm ci cl cr dy) nx 0 0 0 [(0, .ref 8), (1, .int (nI a)), (2, .int (nI b))] []
  refine sv_aload_n hΓ dX4_between_0 rfl 0 rfl rfl ?_
  refine g_X4_15_8 hΓ dX4_between_1 rfl ?_
  refine sv_iload_n hΓ dX4_between_4 rfl 1 rfl rfl ?_
  obtain ⟨kg1, sg1, hrg1, hAg1⟩ := hAC a (by omega)
  refine sv_callV hΓ (fun l => ct_X1_get l a kg1 (by omega) hrg1) wv_X4_23 vs_X1_get rfl m_2 rfl rfl (by decide) (Nat.le_of_ble_eq_true rfl) (Nat.le_of_ble_eq_true rfl) (Nat.le_of_ble_eq_true rfl) dX4_between_5 rfl (fun r M' nx' p2 => ?_)
  obtain ⟨rfl, rfl, rfl⟩ := p2
  show SV E Γ 6 (mm ci cl cr dy) nx 0 0 8 [(0, .ref 8), (1, .int (nI a)), (2, .int (nI b))] [.ref kg1]
  refine sv_astore_n (lv' := [(3, .ref kg1), (0, .ref 8), (1, .int (nI a)), (2, .int (nI b))]) hΓ dX4_between_8 rfl (by decide) rfl rfl ?_
  refine sv_aload_n hΓ dX4_between_9 rfl 1 rfl rfl ?_
  refine g_X4_15_8 hΓ dX4_between_10 rfl ?_
  refine sv_iload_n hΓ dX4_between_13 rfl 3 rfl rfl ?_
  obtain ⟨kg3, sg3, hrg3, hAg3⟩ := hAC b (by omega)
  refine sv_callV hΓ (fun l => ct_X1_get l b kg3 (by omega) hrg3) wv_X4_23 vs_X1_get rfl m_2 rfl rfl (by decide) (Nat.le_of_ble_eq_true rfl) (Nat.le_of_ble_eq_true rfl) (Nat.le_of_ble_eq_true rfl) dX4_between_14 rfl (fun r M' nx' p4 => ?_)
  obtain ⟨rfl, rfl, rfl⟩ := p4
  show SV E Γ 6 (mm ci cl cr dy) nx 0 0 17 [(3, .ref kg1), (0, .ref 8), (1, .int (nI a)), (2, .int (nI b))] [.ref kg3]
  refine sv_astore (lv' := [(4, .ref kg3), (3, .ref kg1), (0, .ref 8), (1, .int (nI a)), (2, .int (nI b))]) hΓ dX4_between_17 (by decide) rfl rfl ?_
  refine sv_iconst (v := 0) hΓ dX4_between_19 (by decide) rfl ?_
  refine sv_istore (lv' := [(5, .int 0), (4, .ref kg3), (3, .ref kg1), (0, .ref 8), (1, .int (nI a)), (2, .int (nI b))]) hΓ dX4_between_20 (by decide) rfl rfl ?_
  have J56 : SV E Γ 6 (mm ci cl cr dy) nx 0 0 56 [(5, .int (k0F c a b)), (4, .ref kg3), (3, .ref kg1), (0, .ref 8), (1, .int (nI a)), (2, .int (nI b))] [] := by
    refine sv_aload_n hΓ dX4_between_56 rfl 3 rfl rfl ?_
    refine sv_aload_n hΓ dX4_between_57 rfl 2 rfl rfl ?_
    refine sv_aload hΓ dX4_between_58 1 rfl rfl ?_
    refine sv_callV hΓ (fun l => ct_X4_meetInRow l c nu n a kg1 sg1 b kg3 sg3 hAg1 hAg3 hB0 (by omega) (by omega)) wv_X4_48 vs_X4_meetInRow rfl m_8 rfl rfl (by decide) (Nat.le_of_ble_eq_true rfl) (Nat.le_of_ble_eq_true rfl) (Nat.le_of_ble_eq_true rfl) dX4_between_60 rfl (fun r M' nx' p5 => ?_)
    obtain ⟨rfl, rfl, rfl⟩ := p5
    show SV E Γ 6 (mm ci cl cr dy) nx 0 0 63 [(5, .int (k0F c a b)), (4, .ref kg3), (3, .ref kg1), (0, .ref 8), (1, .int (nI a)), (2, .int (nI b))] [.int (bI (DR c a b ∧ MT c (sC c nu) a b))]
    refine sv_if_ne (tgt := 75) hΓ dX4_between_63 (by decide) rfl (fun u6 => ?_) (fun u6 => ?_)
    · replace u6 := bI_ne.mp u6
      refine sv_iload hΓ dX4_between_75 0 rfl rfl ?_
      refine sv_iconst (v := 1) hΓ dX4_between_77 (by decide) rfl ?_
      refine sv_mmax hΓ ⟨tb_518, tb_519, tb_13, tb_520⟩ (by decide) (Nat.le_of_ble_eq_true rfl) (Nat.le_of_ble_eq_true rfl) (Nat.le_of_ble_eq_true rfl) dX4_between_78 rfl ?_
      refine sv_istore (lv' := [(5, .int (if 1 ≤ (k0F c a b) then (k0F c a b) else 1)), (4, .ref kg3), (3, .ref kg1), (0, .ref 8), (1, .int (nI a)), (2, .int (nI b))]) hΓ dX4_between_81 (by decide) rfl rfl ?_
      refine sv_iload hΓ dX4_between_83 0 rfl rfl ?_
      exact sv_iret hΓ hQ dX4_between_85 (Nat.le_of_ble_eq_true rfl) (Nat.le_of_ble_eq_true rfl) ⟨by rw [nd_e (hln a (by omega)), if_pos (Or.inl u6)], rfl, rfl⟩
    · replace u6 := bI_0.mp u6
      refine sv_aload_n hΓ dX4_between_66 rfl 2 rfl rfl ?_
      refine sv_aload hΓ dX4_between_67 1 rfl rfl ?_
      refine sv_callS hΓ (fun l => ct_X4_meetAtPort l c nu n a kg1 sg1 b kg3 sg3 hAg1 hAg3 hB0 (by omega) (by omega)) wv_X4_52 tb_516 rfl rfl (by decide) (Nat.le_of_ble_eq_true rfl) (Nat.le_of_ble_eq_true rfl) (Nat.le_of_ble_eq_true rfl) dX4_between_69 rfl (fun r M' nx' p7 => ?_)
      obtain ⟨rfl, rfl, rfl⟩ := p7
      show SV E Γ 6 (mm ci cl cr dy) nx 0 0 72 [(5, .int (k0F c a b)), (4, .ref kg3), (3, .ref kg1), (0, .ref 8), (1, .int (nI a)), (2, .int (nI b))] [.int (bI (PT c a b))]
      refine sv_if_eq (tgt := 83) hΓ dX4_between_72 (by decide) rfl (fun u8 => ?_) (fun u8 => ?_)
      · replace u8 := bI_0.mp u8
        refine sv_iload hΓ dX4_between_83 0 rfl rfl ?_
        exact sv_iret hΓ hQ dX4_between_85 (Nat.le_of_ble_eq_true rfl) (Nat.le_of_ble_eq_true rfl) ⟨by rw [nd_e (hln a (by omega)), if_neg (fun q => q.elim u6 u8)], rfl, rfl⟩
      · replace u8 := bI_ne.mp u8
        refine sv_iload hΓ dX4_between_75 0 rfl rfl ?_
        refine sv_iconst (v := 1) hΓ dX4_between_77 (by decide) rfl ?_
        refine sv_mmax hΓ ⟨tb_518, tb_519, tb_13, tb_520⟩ (by decide) (Nat.le_of_ble_eq_true rfl) (Nat.le_of_ble_eq_true rfl) (Nat.le_of_ble_eq_true rfl) dX4_between_78 rfl ?_
        refine sv_istore (lv' := [(5, .int (if 1 ≤ (k0F c a b) then (k0F c a b) else 1)), (4, .ref kg3), (3, .ref kg1), (0, .ref 8), (1, .int (nI a)), (2, .int (nI b))]) hΓ dX4_between_81 (by decide) rfl rfl ?_
        refine sv_iload hΓ dX4_between_83 0 rfl rfl ?_
        exact sv_iret hΓ hQ dX4_between_85 (Nat.le_of_ble_eq_true rfl) (Nat.le_of_ble_eq_true rfl) ⟨by rw [nd_e (hln a (by omega)), if_pos (Or.inr u8)], rfl, rfl⟩
  refine sv_aload hΓ dX4_between_22 1 rfl rfl ?_
  refine sv_iload_n hΓ dX4_between_24 rfl 4 rfl rfl ?_
  refine sv_callV hΓ (fun l => ct_X0_takes l c nu b kg3 sg3 a hAg3 (by omega)) wv_X4_29 vs_X0_takes rfl hAg3.m rfl rfl (by decide) (Nat.le_of_ble_eq_true rfl) (Nat.le_of_ble_eq_true rfl) (Nat.le_of_ble_eq_true rfl) dX4_between_25 rfl (fun r M' nx' p9 => ?_)
  obtain ⟨rfl, rfl, rfl⟩ := p9
  show SV E Γ 6 (mm ci cl cr dy) nx 0 0 28 [(5, .int 0), (4, .ref kg3), (3, .ref kg1), (0, .ref 8), (1, .int (nI a)), (2, .int (nI b))] [.int (bI (isO c (nI a) b))]
  refine sv_if_ne (tgt := 46) hΓ dX4_between_28 (by decide) rfl (fun u10 => ?_) (fun u10 => ?_)
  · replace u10 := bI_ne.mp u10
    refine sv_aload_n hΓ dX4_between_46 rfl 3 rfl rfl ?_
    refine g_X4_19_8 hΓ dX4_between_47 rfl ?_
    refine sv_aload_n hΓ dX4_between_50 rfl 2 rfl rfl ?_
    refine sv_callV hΓ (fun l => ct_X9_lengthOf l c nu a kg1 sg1 hAg1 hST) wv_X4_42 vs_X9_lengthOf rfl m_4 rfl rfl (by decide) (Nat.le_of_ble_eq_true rfl) (Nat.le_of_ble_eq_true rfl) (Nat.le_of_ble_eq_true rfl) dX4_between_51 rfl (fun r M' nx' p11 => ?_)
    obtain ⟨rfl, rfl, rfl⟩ := p11
    show SV E Γ 6 (mm ci cl cr dy) nx 0 0 54 [(5, .int 0), (4, .ref kg3), (3, .ref kg1), (0, .ref 8), (1, .int (nI a)), (2, .int (nI b))] [.int (ln c a)]
    refine sv_istore (lv' := [(5, .int (ln c a)), (4, .ref kg3), (3, .ref kg1), (0, .ref 8), (1, .int (nI a)), (2, .int (nI b))]) hΓ dX4_between_54 (by decide) rfl rfl ?_
    have e12 : k0F c a b = ln c a := if_pos (Or.inl u10)
    rw [e12] at J56
    exact J56
  · replace u10 := bI_0.mp u10
    refine sv_aload_n hΓ dX4_between_31 rfl 2 rfl rfl ?_
    refine sv_callV hΓ (fun l => ct_X0_canFail l c nu a kg1 sg1 hAg1) wv_X4_35 vs_X0_canFail rfl hAg1.m rfl rfl (by decide) (Nat.le_of_ble_eq_true rfl) (Nat.le_of_ble_eq_true rfl) (Nat.le_of_ble_eq_true rfl) dX4_between_32 rfl (fun r M' nx' p13 => ?_)
    obtain ⟨rfl, rfl, rfl⟩ := p13
    show SV E Γ 6 (mm ci cl cr dy) nx 0 0 35 [(5, .int 0), (4, .ref kg3), (3, .ref kg1), (0, .ref 8), (1, .int (nI a)), (2, .int (nI b))] [.int (bI (cF (c 44 a)))]
    refine sv_if_eq (tgt := 56) hΓ dX4_between_35 (by decide) rfl (fun u14 => ?_) (fun u14 => ?_)
    · replace u14 := bI_0.mp u14
      have e15 : k0F c a b = 0 := if_neg (fun q => q.elim u10 (fun z => u14 z.1))
      rw [e15] at J56
      exact J56
    · replace u14 := bI_ne.mp u14
      refine sv_aload hΓ dX4_between_38 1 rfl rfl ?_
      refine sv_callV hΓ (fun l => ct_X0_changesOutside l c nu b kg3 sg3 hAg3) wv_X4_39 vs_X0_changesOutside rfl hAg3.m rfl rfl (by decide) (Nat.le_of_ble_eq_true rfl) (Nat.le_of_ble_eq_true rfl) (Nat.le_of_ble_eq_true rfl) dX4_between_40 rfl (fun r M' nx' p16 => ?_)
      obtain ⟨rfl, rfl, rfl⟩ := p16
      show SV E Γ 6 (mm ci cl cr dy) nx 0 0 43 [(5, .int 0), (4, .ref kg3), (3, .ref kg1), (0, .ref 8), (1, .int (nI a)), (2, .int (nI b))] [.int (bI (c 44 b = 1 ∨ c 44 b = 9 ∨ c 44 b = 10))]
      refine sv_if_eq (tgt := 56) hΓ dX4_between_43 (by decide) rfl (fun u17 => ?_) (fun u17 => ?_)
      · replace u17 := bI_0.mp u17
        have e18 : k0F c a b = 0 := if_neg (fun q => q.elim u10 (fun z => u17 z.2))
        rw [e18] at J56
        exact J56
      · replace u17 := bI_ne.mp u17
        refine sv_aload_n hΓ dX4_between_46 rfl 3 rfl rfl ?_
        refine g_X4_19_8 hΓ dX4_between_47 rfl ?_
        refine sv_aload_n hΓ dX4_between_50 rfl 2 rfl rfl ?_
        refine sv_callV hΓ (fun l => ct_X9_lengthOf l c nu a kg1 sg1 hAg1 hST) wv_X4_42 vs_X9_lengthOf rfl m_4 rfl rfl (by decide) (Nat.le_of_ble_eq_true rfl) (Nat.le_of_ble_eq_true rfl) (Nat.le_of_ble_eq_true rfl) dX4_between_51 rfl (fun r M' nx' p19 => ?_)
        obtain ⟨rfl, rfl, rfl⟩ := p19
        show SV E Γ 6 (mm ci cl cr dy) nx 0 0 54 [(5, .int 0), (4, .ref kg3), (3, .ref kg1), (0, .ref 8), (1, .int (nI a)), (2, .int (nI b))] [.int (ln c a)]
        refine sv_istore (lv' := [(5, .int (ln c a)), (4, .ref kg3), (3, .ref kg1), (0, .ref 8), (1, .int (nI a)), (2, .int (nI b))]) hΓ dX4_between_54 (by decide) rfl rfl ?_
        have e20 : k0F c a b = ln c a := if_pos (Or.inr ⟨u14, u17⟩)
        rw [e20] at J56
        exact J56
set_option maxRecDepth 100000 in
set_option maxHeartbeats 4000000 in
/-- readyTick -/
theorem ct_X4_readyTickP {E : aG} (l : Launch) (c : aI) (nu : Nat → Int64) (n : Nat) (b : Nat) {ci : Nat → Nat → Int32} {cl : Nat → Nat → Int64} {cr : Nat → Nat → Option Nat} {dy : aM} {nx : Nat} (hB : BK c nu ci cr dy n) (hb : b < n) (ht : ∀ a, a < b → c 55 a = ci 11 a) : CT E l yX4_readyTick cX4_readyTick 6 (some .int) 3 [.ref 8, .int (nI b), .ref 11] (mm ci cl cr dy) nx 0 0 (fun r M' nx' => r = some (.int (askF c (sC c nu) b b)) ∧ M' = mm ci cl cr dy ∧ nx = nx') := by
  refine CT_intro (by decide) (Nat.le_of_ble_eq_true rfl) (fun Γ hΓ hQ => ?_)
  replace hΓ : CK E RX4 cX4_readyTick 6 (some .int) "readyTick" 3 0 0 Γ := hΓ
  have hB0 := hB
  obtain ⟨hAC, hST, hn6, hn, hwf, hwp, hln⟩ := hB
  show SV E Γ 6 (mm ci cl cr dy) nx 0 0 0 [(0, .ref 8), (1, .int (nI b)), (2, .ref 11)] []
  refine sv_iconst (v := 0) hΓ dX4_readyTick_0 (by decide) rfl ?_
  refine sv_istore_n (lv' := [(3, .int 0), (0, .ref 8), (1, .int (nI b)), (2, .ref 11)]) hΓ dX4_readyTick_1 rfl (by decide) rfl rfl ?_
  refine sv_iconst (v := 0) hΓ dX4_readyTick_2 (by decide) rfl ?_
  refine sv_istore (lv' := [(4, .int 0), (3, .int 0), (0, .ref 8), (1, .int (nI b)), (2, .ref 11)]) hΓ dX4_readyTick_3 (by decide) rfl rfl ?_
  have LP5 : ∀ kq a : Nat, a + kq = b → SV E Γ 6 (mm ci cl cr dy) nx 0 0 5 [(4, .int (nI a)), (3, .int (askF c (sC c nu) b a)), (0, .ref 8), (1, .int (nI b)), (2, .ref 11)] [] := by
    intro kq
    induction kq with
    | zero =>
      intro a ha
      have ea : a = b := by omega
      refine sv_iload hΓ dX4_readyTick_5 0 rfl rfl ?_
      refine sv_iload_n hΓ dX4_readyTick_7 rfl 3 rfl rfl ?_
      refine sv_icmp_ge (tgt := 43) hΓ dX4_readyTick_8 (by decide) rfl (fun u1 => ?_) (fun u1 => absurd (nI_le (by omega) (by omega)) u1)
      refine sv_iload_n hΓ dX4_readyTick_43 rfl 1 rfl rfl ?_
      exact sv_iret hΓ hQ dX4_readyTick_44 (Nat.le_of_ble_eq_true rfl) (Nat.le_of_ble_eq_true rfl) ⟨by rw [ea], rfl, rfl⟩
    | succ kq ih =>
      intro a ha
      refine sv_iload hΓ dX4_readyTick_5 0 rfl rfl ?_
      refine sv_iload_n hΓ dX4_readyTick_7 rfl 3 rfl rfl ?_
      refine sv_icmp_ge (tgt := 43) hΓ dX4_readyTick_8 (by decide) rfl (fun u2 => absurd u2 (nI_ge (by omega) (by omega))) (fun u2 => ?_)
      refine sv_aload_n hΓ dX4_readyTick_11 rfl 2 rfl rfl ?_
      refine sv_iload hΓ dX4_readyTick_12 0 rfl rfl ?_
      refine sv_iload_n hΓ dX4_readyTick_14 rfl 3 rfl rfl ?_
      refine sv_callV hΓ (fun l => ct_X4_between l c nu n a b hB0 (by omega) (by omega)) wv_X4_85 vs_X4_between rfl m_8 rfl rfl (by decide) (Nat.le_of_ble_eq_true rfl) (Nat.le_of_ble_eq_true rfl) (Nat.le_of_ble_eq_true rfl) dX4_readyTick_15 rfl (fun r M' nx' p3 => ?_)
      obtain ⟨rfl, rfl, rfl⟩ := p3
      show SV E Γ 6 (mm ci cl cr dy) nx 0 0 18 [(4, .int (nI a)), (3, .int (askF c (sC c nu) b a)), (0, .ref 8), (1, .int (nI b)), (2, .ref 11)] [.int (nd c (sC c nu) a b)]
      refine sv_istore (lv' := [(5, .int (nd c (sC c nu) a b)), (4, .int (nI a)), (3, .int (askF c (sC c nu) b a)), (0, .ref 8), (1, .int (nI b)), (2, .ref 11)]) hΓ dX4_readyTick_18 (by decide) rfl rfl ?_
      refine sv_iload hΓ dX4_readyTick_20 0 rfl rfl ?_
      refine sv_if_le (tgt := 37) hΓ dX4_readyTick_22 (by decide) rfl (fun u4 => ?_) (fun u4 => ?_)
      · refine sv_iinc (v := nI (a + 1)) (lv' := [(4, .int (nI (a + 1))), (5, .int (nd c (sC c nu) a b)), (3, .int (askF c (sC c nu) b a)), (0, .ref 8), (1, .int (nI b)), (2, .ref 11)]) hΓ dX4_readyTick_37 1 rfl (nx_inc rfl) (by decide) rfl rfl ?_
        refine sv_goto (pc' := 5) hΓ dX4_readyTick_40 (by decide) ?_
        have q := ih (a + 1) (by omega)
        rw [show askF c (sC c nu) b (a + 1) = askF c (sC c nu) b a from by simp only [askF]; rw [if_pos u4]] at q
        exact SV_lv [0, 2, 3, 4, 5] rfl q
      · refine sv_iload_n hΓ dX4_readyTick_25 rfl 2 rfl rfl ?_
        refine sv_aload_n hΓ dX4_readyTick_26 rfl 5 rfl rfl ?_
        refine sv_iload hΓ dX4_readyTick_27 1 rfl rfl ?_
        refine ai_11 hΓ (a) rfl (by omega) dX4_readyTick_29 rfl ?_
        refine sv_iload hΓ dX4_readyTick_30 0 rfl rfl ?_
        refine sv_iadd hΓ dX4_readyTick_32 rfl ?_
        refine sv_mmax hΓ ⟨tb_518, tb_519, tb_13, tb_520⟩ (by decide) (Nat.le_of_ble_eq_true rfl) (Nat.le_of_ble_eq_true rfl) (Nat.le_of_ble_eq_true rfl) dX4_readyTick_33 rfl ?_
        refine sv_istore_n (lv' := [(3, .int (if ((ci 11 a) + (nd c (sC c nu) a b)) ≤ (askF c (sC c nu) b a) then (askF c (sC c nu) b a) else ((ci 11 a) + (nd c (sC c nu) a b)))), (5, .int (nd c (sC c nu) a b)), (4, .int (nI a)), (0, .ref 8), (1, .int (nI b)), (2, .ref 11)]) hΓ dX4_readyTick_36 rfl (by decide) rfl rfl ?_
        refine sv_iinc (v := nI (a + 1)) (lv' := [(4, .int (nI (a + 1))), (3, .int (if ((ci 11 a) + (nd c (sC c nu) a b)) ≤ (askF c (sC c nu) b a) then (askF c (sC c nu) b a) else ((ci 11 a) + (nd c (sC c nu) a b)))), (5, .int (nd c (sC c nu) a b)), (0, .ref 8), (1, .int (nI b)), (2, .ref 11)]) hΓ dX4_readyTick_37 2 rfl (nx_inc rfl) (by decide) rfl rfl ?_
        refine sv_goto (pc' := 5) hΓ dX4_readyTick_40 (by decide) ?_
        have q := ih (a + 1) (by omega)
        rw [show askF c (sC c nu) b (a + 1) = if ((ci 11 a) + (nd c (sC c nu) a b)) ≤ (askF c (sC c nu) b a) then (askF c (sC c nu) b a) else ((ci 11 a) + (nd c (sC c nu) a b)) from by simp only [askF]; rw [if_neg u4, ht a (by omega)]] at q
        exact SV_lv [0, 1, 3, 4, 5] rfl q
  exact SV_lv [0, 1, 2, 3, 4] rfl (LP5 b 0 (by omega))
set_option maxRecDepth 100000 in
set_option maxHeartbeats 4000000 in
/-- readyTick -/
theorem ct_X4_readyTickW {E : aG} (l : Launch) (c : aI) (nu : Nat → Int64) (n : Nat) (b : Nat) {ci : Nat → Nat → Int32} {cl : Nat → Nat → Int64} {cr : Nat → Nat → Option Nat} {dy : aM} {nx : Nat} (hB : BK c nu ci cr dy n) (hb : b < n) (ht : ∀ a, a < b → c 55 a = ci 9 a) : CT E l yX4_readyTick cX4_readyTick 6 (some .int) 3 [.ref 8, .int (nI b), .ref 9] (mm ci cl cr dy) nx 0 0 (fun r M' nx' => r = some (.int (askF c (sC c nu) b b)) ∧ M' = mm ci cl cr dy ∧ nx = nx') := by
  refine CT_intro (by decide) (Nat.le_of_ble_eq_true rfl) (fun Γ hΓ hQ => ?_)
  replace hΓ : CK E RX4 cX4_readyTick 6 (some .int) "readyTick" 3 0 0 Γ := hΓ
  have hB0 := hB
  obtain ⟨hAC, hST, hn6, hn, hwf, hwp, hln⟩ := hB
  show SV E Γ 6 (mm ci cl cr dy) nx 0 0 0 [(0, .ref 8), (1, .int (nI b)), (2, .ref 9)] []
  refine sv_iconst (v := 0) hΓ dX4_readyTick_0 (by decide) rfl ?_
  refine sv_istore_n (lv' := [(3, .int 0), (0, .ref 8), (1, .int (nI b)), (2, .ref 9)]) hΓ dX4_readyTick_1 rfl (by decide) rfl rfl ?_
  refine sv_iconst (v := 0) hΓ dX4_readyTick_2 (by decide) rfl ?_
  refine sv_istore (lv' := [(4, .int 0), (3, .int 0), (0, .ref 8), (1, .int (nI b)), (2, .ref 9)]) hΓ dX4_readyTick_3 (by decide) rfl rfl ?_
  have LP5 : ∀ kq a : Nat, a + kq = b → SV E Γ 6 (mm ci cl cr dy) nx 0 0 5 [(4, .int (nI a)), (3, .int (askF c (sC c nu) b a)), (0, .ref 8), (1, .int (nI b)), (2, .ref 9)] [] := by
    intro kq
    induction kq with
    | zero =>
      intro a ha
      have ea : a = b := by omega
      refine sv_iload hΓ dX4_readyTick_5 0 rfl rfl ?_
      refine sv_iload_n hΓ dX4_readyTick_7 rfl 3 rfl rfl ?_
      refine sv_icmp_ge (tgt := 43) hΓ dX4_readyTick_8 (by decide) rfl (fun u1 => ?_) (fun u1 => absurd (nI_le (by omega) (by omega)) u1)
      refine sv_iload_n hΓ dX4_readyTick_43 rfl 1 rfl rfl ?_
      exact sv_iret hΓ hQ dX4_readyTick_44 (Nat.le_of_ble_eq_true rfl) (Nat.le_of_ble_eq_true rfl) ⟨by rw [ea], rfl, rfl⟩
    | succ kq ih =>
      intro a ha
      refine sv_iload hΓ dX4_readyTick_5 0 rfl rfl ?_
      refine sv_iload_n hΓ dX4_readyTick_7 rfl 3 rfl rfl ?_
      refine sv_icmp_ge (tgt := 43) hΓ dX4_readyTick_8 (by decide) rfl (fun u2 => absurd u2 (nI_ge (by omega) (by omega))) (fun u2 => ?_)
      refine sv_aload_n hΓ dX4_readyTick_11 rfl 2 rfl rfl ?_
      refine sv_iload hΓ dX4_readyTick_12 0 rfl rfl ?_
      refine sv_iload_n hΓ dX4_readyTick_14 rfl 3 rfl rfl ?_
      refine sv_callV hΓ (fun l => ct_X4_between l c nu n a b hB0 (by omega) (by omega)) wv_X4_85 vs_X4_between rfl m_8 rfl rfl (by decide) (Nat.le_of_ble_eq_true rfl) (Nat.le_of_ble_eq_true rfl) (Nat.le_of_ble_eq_true rfl) dX4_readyTick_15 rfl (fun r M' nx' p3 => ?_)
      obtain ⟨rfl, rfl, rfl⟩ := p3
      show SV E Γ 6 (mm ci cl cr dy) nx 0 0 18 [(4, .int (nI a)), (3, .int (askF c (sC c nu) b a)), (0, .ref 8), (1, .int (nI b)), (2, .ref 9)] [.int (nd c (sC c nu) a b)]
      refine sv_istore (lv' := [(5, .int (nd c (sC c nu) a b)), (4, .int (nI a)), (3, .int (askF c (sC c nu) b a)), (0, .ref 8), (1, .int (nI b)), (2, .ref 9)]) hΓ dX4_readyTick_18 (by decide) rfl rfl ?_
      refine sv_iload hΓ dX4_readyTick_20 0 rfl rfl ?_
      refine sv_if_le (tgt := 37) hΓ dX4_readyTick_22 (by decide) rfl (fun u4 => ?_) (fun u4 => ?_)
      · refine sv_iinc (v := nI (a + 1)) (lv' := [(4, .int (nI (a + 1))), (5, .int (nd c (sC c nu) a b)), (3, .int (askF c (sC c nu) b a)), (0, .ref 8), (1, .int (nI b)), (2, .ref 9)]) hΓ dX4_readyTick_37 1 rfl (nx_inc rfl) (by decide) rfl rfl ?_
        refine sv_goto (pc' := 5) hΓ dX4_readyTick_40 (by decide) ?_
        have q := ih (a + 1) (by omega)
        rw [show askF c (sC c nu) b (a + 1) = askF c (sC c nu) b a from by simp only [askF]; rw [if_pos u4]] at q
        exact SV_lv [0, 2, 3, 4, 5] rfl q
      · refine sv_iload_n hΓ dX4_readyTick_25 rfl 2 rfl rfl ?_
        refine sv_aload_n hΓ dX4_readyTick_26 rfl 5 rfl rfl ?_
        refine sv_iload hΓ dX4_readyTick_27 1 rfl rfl ?_
        refine ai_9 hΓ (a) rfl (by omega) dX4_readyTick_29 rfl ?_
        refine sv_iload hΓ dX4_readyTick_30 0 rfl rfl ?_
        refine sv_iadd hΓ dX4_readyTick_32 rfl ?_
        refine sv_mmax hΓ ⟨tb_518, tb_519, tb_13, tb_520⟩ (by decide) (Nat.le_of_ble_eq_true rfl) (Nat.le_of_ble_eq_true rfl) (Nat.le_of_ble_eq_true rfl) dX4_readyTick_33 rfl ?_
        refine sv_istore_n (lv' := [(3, .int (if ((ci 9 a) + (nd c (sC c nu) a b)) ≤ (askF c (sC c nu) b a) then (askF c (sC c nu) b a) else ((ci 9 a) + (nd c (sC c nu) a b)))), (5, .int (nd c (sC c nu) a b)), (4, .int (nI a)), (0, .ref 8), (1, .int (nI b)), (2, .ref 9)]) hΓ dX4_readyTick_36 rfl (by decide) rfl rfl ?_
        refine sv_iinc (v := nI (a + 1)) (lv' := [(4, .int (nI (a + 1))), (3, .int (if ((ci 9 a) + (nd c (sC c nu) a b)) ≤ (askF c (sC c nu) b a) then (askF c (sC c nu) b a) else ((ci 9 a) + (nd c (sC c nu) a b)))), (5, .int (nd c (sC c nu) a b)), (0, .ref 8), (1, .int (nI b)), (2, .ref 9)]) hΓ dX4_readyTick_37 2 rfl (nx_inc rfl) (by decide) rfl rfl ?_
        refine sv_goto (pc' := 5) hΓ dX4_readyTick_40 (by decide) ?_
        have q := ih (a + 1) (by omega)
        rw [show askF c (sC c nu) b (a + 1) = if ((ci 9 a) + (nd c (sC c nu) a b)) ≤ (askF c (sC c nu) b a) then (askF c (sC c nu) b a) else ((ci 9 a) + (nd c (sC c nu) a b)) from by simp only [askF]; rw [if_neg u4, ht a (by omega)]] at q
        exact SV_lv [0, 1, 3, 4, 5] rfl q
  exact SV_lv [0, 1, 2, 3, 4] rfl (LP5 b 0 (by omega))
set_option maxRecDepth 100000 in
set_option maxHeartbeats 4000000 in
/-- tightest -/
theorem ct_X4_tightest {E : aG} (l : Launch) (c : aI) (nu : Nat → Int64) (n : Nat) (b : Nat) {ci : Nat → Nat → Int32} {cl : Nat → Nat → Int64} {cr : Nat → Nat → Option Nat} {dy : aM} {nx : Nat} (hB : BK c nu ci cr dy n) (hb : b < n) (ht : ∀ a, a ≤ b → c 55 a = ci 11 a) : CT E l yX4_tightest cX4_tightest 5 (some .int) 3 [.ref 8, .int (nI b), .ref 11] (mm ci cl cr dy) nx 0 0 (fun r M' nx' => r = some (.int (jbF c (sC c nu) b b 0)) ∧ M' = mm ci cl cr dy ∧ nx = nx') := by
  refine CT_intro (by decide) (Nat.le_of_ble_eq_true rfl) (fun Γ hΓ hQ => ?_)
  replace hΓ : CK E RX4 cX4_tightest 5 (some .int) "tightest" 3 0 0 Γ := hΓ
  have hB0 := hB
  obtain ⟨hAC, hST, hn6, hn, hwf, hwp, hln⟩ := hB
  show SV E Γ 5 (mm ci cl cr dy) nx 0 0 0 [(0, .ref 8), (1, .int (nI b)), (2, .ref 11)] []
  refine sv_iconst (v := 0) hΓ dX4_tightest_0 (by decide) rfl ?_
  refine sv_istore_n (lv' := [(3, .int 0), (0, .ref 8), (1, .int (nI b)), (2, .ref 11)]) hΓ dX4_tightest_1 rfl (by decide) rfl rfl ?_
  have LP2 : ∀ kq a : Nat, a + kq = b → jbF c (sC c nu) b kq a = jbF c (sC c nu) b b 0 → SV E Γ 5 (mm ci cl cr dy) nx 0 0 2 [(3, .int (nI a)), (0, .ref 8), (1, .int (nI b)), (2, .ref 11)] [] := by
    intro kq
    induction kq with
    | zero =>
      intro a ha
      have ea : a = b := by omega
      intro hf
      refine sv_iload_n hΓ dX4_tightest_2 rfl 0 rfl rfl ?_
      refine sv_iload_n hΓ dX4_tightest_3 rfl 2 rfl rfl ?_
      refine sv_icmp_ge (tgt := 40) hΓ dX4_tightest_4 (by decide) rfl (fun u1 => ?_) (fun u1 => absurd (nI_le (by omega) (by omega)) u1)
      refine sv_bipush (v := (-2)) hΓ dX4_tightest_40 (by decide) rfl ?_
      exact sv_iret hΓ hQ dX4_tightest_42 (Nat.le_of_ble_eq_true rfl) (Nat.le_of_ble_eq_true rfl) ⟨by rw [← hf]; rfl, rfl, rfl⟩
    | succ kq ih =>
      intro a ha
      intro hf
      refine sv_iload_n hΓ dX4_tightest_2 rfl 0 rfl rfl ?_
      refine sv_iload_n hΓ dX4_tightest_3 rfl 2 rfl rfl ?_
      refine sv_icmp_ge (tgt := 40) hΓ dX4_tightest_4 (by decide) rfl (fun u2 => absurd u2 (nI_ge (by omega) (by omega))) (fun u2 => ?_)
      refine sv_aload_n hΓ dX4_tightest_7 rfl 1 rfl rfl ?_
      refine sv_iload_n hΓ dX4_tightest_8 rfl 0 rfl rfl ?_
      refine sv_iload_n hΓ dX4_tightest_9 rfl 2 rfl rfl ?_
      refine sv_callV hΓ (fun l => ct_X4_between l c nu n a b hB0 (by omega) (by omega)) wv_X4_85 vs_X4_between rfl m_8 rfl rfl (by decide) (Nat.le_of_ble_eq_true rfl) (Nat.le_of_ble_eq_true rfl) (Nat.le_of_ble_eq_true rfl) dX4_tightest_10 rfl (fun r M' nx' p3 => ?_)
      obtain ⟨rfl, rfl, rfl⟩ := p3
      show SV E Γ 5 (mm ci cl cr dy) nx 0 0 13 [(3, .int (nI a)), (0, .ref 8), (1, .int (nI b)), (2, .ref 11)] [.int (nd c (sC c nu) a b)]
      refine sv_istore (lv' := [(4, .int (nd c (sC c nu) a b)), (3, .int (nI a)), (0, .ref 8), (1, .int (nI b)), (2, .ref 11)]) hΓ dX4_tightest_13 (by decide) rfl rfl ?_
      refine sv_iload hΓ dX4_tightest_15 0 rfl rfl ?_
      refine sv_if_le (tgt := 34) hΓ dX4_tightest_17 (by decide) rfl (fun u4 => ?_) (fun u4 => ?_)
      · refine sv_iinc (v := nI (a + 1)) (lv' := [(3, .int (nI (a + 1))), (4, .int (nd c (sC c nu) a b)), (0, .ref 8), (1, .int (nI b)), (2, .ref 11)]) hΓ dX4_tightest_34 1 rfl (nx_inc rfl) (by decide) rfl rfl ?_
        refine sv_goto (pc' := 2) hΓ dX4_tightest_37 (by decide) ?_
        exact SV_lv [0, 2, 3, 4] rfl (ih (a + 1) (by omega) (by rw [← hf]; simp only [jbF]; rw [if_pos u4]))
      · refine sv_aload_n hΓ dX4_tightest_20 rfl 4 rfl rfl ?_
        refine sv_iload_n hΓ dX4_tightest_21 rfl 1 rfl rfl ?_
        refine ai_11 hΓ (a) rfl (by omega) dX4_tightest_22 rfl ?_
        refine sv_iload hΓ dX4_tightest_23 0 rfl rfl ?_
        refine sv_iadd hΓ dX4_tightest_25 rfl ?_
        refine sv_aload_n hΓ dX4_tightest_26 rfl 4 rfl rfl ?_
        refine sv_iload_n hΓ dX4_tightest_27 rfl 3 rfl rfl ?_
        refine ai_11 hΓ (b) rfl (by omega) dX4_tightest_28 rfl ?_
        refine sv_icmp_ne (tgt := 34) hΓ dX4_tightest_29 (by decide) rfl (fun u5 => ?_) (fun u5 => ?_)
        · refine sv_iinc (v := nI (a + 1)) (lv' := [(3, .int (nI (a + 1))), (4, .int (nd c (sC c nu) a b)), (0, .ref 8), (1, .int (nI b)), (2, .ref 11)]) hΓ dX4_tightest_34 1 rfl (nx_inc rfl) (by decide) rfl rfl ?_
          refine sv_goto (pc' := 2) hΓ dX4_tightest_37 (by decide) ?_
          exact SV_lv [0, 2, 3, 4] rfl (ih (a + 1) (by omega) (by rw [← hf]; simp only [jbF]; rw [if_neg u4, if_neg (fun q => u5 (by rw [← ht a (by omega), ← ht b (by omega)]; exact i_sub.mpr q))]))
        · refine sv_iload_n hΓ dX4_tightest_32 rfl 1 rfl rfl ?_
          exact sv_iret hΓ hQ dX4_tightest_33 (Nat.le_of_ble_eq_true rfl) (Nat.le_of_ble_eq_true rfl) ⟨by rw [← hf]; simp only [jbF]; rw [if_neg u4, if_pos (by rw [ht a (by omega), ht b (by omega)]; exact i_sub.mp u5)], rfl, rfl⟩
  exact SV_lv [0, 1, 2, 3] rfl (LP2 b 0 (by omega) rfl)
set_option maxRecDepth 100000 in
set_option maxHeartbeats 4000000 in
/-- ticksWithAllParts -/
theorem ct_X4_ticksWithAllParts {E : aG} (l : Launch) (c : aI) (nu : Nat → Int64) (n : Nat) {ci : Nat → Nat → Int32} {cl : Nat → Nat → Int64} {cr : Nat → Nat → Option Nat} {dy : aM} {nx : Nat} (hB : BK c nu ci cr dy n) : CT E l yX4_ticksWithAllParts cX4_ticksWithAllParts 3 (some .int) 4 [.ref 8] (mm ci cl cr dy) nx 0 0 (fun r M' nx' => ∃ ci', TW c (sC c nu) ci ci' n ∧ r = some (.int (ftA c (sC c nu) n)) ∧ M' = mm ci' cl cr dy ∧ nx = nx') := by
  refine CT_intro (by decide) (Nat.le_of_ble_eq_true rfl) (fun Γ hΓ hQ => ?_)
  replace hΓ : CK E RX4 cX4_ticksWithAllParts 3 (some .int) "ticksWithAllParts" 4 0 0 Γ := hΓ
  have hB0 := hB
  obtain ⟨hAC, hST, hn6, hn, hwf, hwp, hln⟩ := hB
  show SV E Γ 3 (mm ci cl cr dy) nx 0 0 0 [(0, .ref 8)] []
  refine sv_iconst (v := 0) hΓ dX4_ticksWithAllParts_0 (by decide) rfl ?_
  refine sv_istore_n (lv' := [(1, .int 0), (0, .ref 8)]) hΓ dX4_ticksWithAllParts_1 rfl (by decide) rfl rfl ?_
  refine sv_iconst (v := 0) hΓ dX4_ticksWithAllParts_2 (by decide) rfl ?_
  refine sv_istore_n (lv' := [(2, .int 0), (1, .int 0), (0, .ref 8)]) hΓ dX4_ticksWithAllParts_3 rfl (by decide) rfl rfl ?_
  have LP4 : ∀ kq b : Nat, b + kq = n → ∀ ci', TW c (sC c nu) ci ci' b → SV E Γ 3 (mm ci' cl cr dy) nx 0 0 4 [(2, .int (nI b)), (1, .int (ftA c (sC c nu) b)), (0, .ref 8)] [] := by
    intro kq
    induction kq with
    | zero =>
      intro b ha
      have ea : b = n := by omega
      intro ci' hT
      have hnb : ci' 2 1 = nI n := by rw [hT.2 2 (by decide)]; exact hn
      refine sv_iload_n hΓ dX4_ticksWithAllParts_4 rfl 0 rfl rfl ?_
      refine sv_aload_n hΓ dX4_ticksWithAllParts_5 rfl 2 rfl rfl ?_
      refine g_X4_15_8 hΓ dX4_ticksWithAllParts_6 rfl ?_
      refine sv_callV hΓ (fun l => ct_X1_sizeN l n hnb) wv_X4_88 vs_X1_size rfl m_2 rfl rfl (by decide) (Nat.le_of_ble_eq_true rfl) (Nat.le_of_ble_eq_true rfl) (Nat.le_of_ble_eq_true rfl) dX4_ticksWithAllParts_9 rfl (fun r M' nx' p1 => ?_)
      obtain ⟨rfl, rfl, rfl⟩ := p1
      show SV E Γ 3 (mm ci' cl cr dy) nx 0 0 12 [(2, .int (nI b)), (1, .int (ftA c (sC c nu) b)), (0, .ref 8)] [.int (nI n), .int (nI b)]
      refine sv_icmp_ge (tgt := 63) hΓ dX4_ticksWithAllParts_12 (by decide) rfl (fun u2 => ?_) (fun u2 => absurd (nI_le (by omega) (by omega)) u2)
      replace u2 : (nI n) ≤ ((nI b) : Int32) := u2
      refine sv_iload_n hΓ dX4_ticksWithAllParts_63 rfl 1 rfl rfl ?_
      exact sv_iret hΓ hQ dX4_ticksWithAllParts_64 (Nat.le_of_ble_eq_true rfl) (Nat.le_of_ble_eq_true rfl) ⟨ci', ea ▸ hT, by rw [ea], rfl, rfl⟩
    | succ kq ih =>
      intro b ha
      intro ci' hT
      have hnb : ci' 2 1 = nI n := by rw [hT.2 2 (by decide)]; exact hn
      have hBb : BK (ftC c (sC c nu) b) nu ci' cr dy n := (sm_ft c (sC c nu) b).BK hB0 (hT.2 2 (by decide)) (hT.2 5 (by decide)) (hT.2 6 (by decide)) (hT.2 7 (by decide))
      refine sv_iload_n hΓ dX4_ticksWithAllParts_4 rfl 0 rfl rfl ?_
      refine sv_aload_n hΓ dX4_ticksWithAllParts_5 rfl 2 rfl rfl ?_
      refine g_X4_15_8 hΓ dX4_ticksWithAllParts_6 rfl ?_
      refine sv_callV hΓ (fun l => ct_X1_sizeN l n hnb) wv_X4_88 vs_X1_size rfl m_2 rfl rfl (by decide) (Nat.le_of_ble_eq_true rfl) (Nat.le_of_ble_eq_true rfl) (Nat.le_of_ble_eq_true rfl) dX4_ticksWithAllParts_9 rfl (fun r M' nx' p3 => ?_)
      obtain ⟨rfl, rfl, rfl⟩ := p3
      show SV E Γ 3 (mm ci' cl cr dy) nx 0 0 12 [(2, .int (nI b)), (1, .int (ftA c (sC c nu) b)), (0, .ref 8)] [.int (nI n), .int (nI b)]
      refine sv_icmp_ge (tgt := 63) hΓ dX4_ticksWithAllParts_12 (by decide) rfl (fun u4 => absurd u4 (nI_ge (by omega) (by omega))) (fun u4 => ?_)
      replace u4 : ¬ ((nI n) ≤ ((nI b) : Int32)) := u4
      refine sv_aload_n hΓ dX4_ticksWithAllParts_15 rfl 2 rfl rfl ?_
      refine g_X4_9_8 hΓ dX4_ticksWithAllParts_16 rfl ?_
      refine sv_iload_n hΓ dX4_ticksWithAllParts_19 rfl 0 rfl rfl ?_
      refine sv_aload_n hΓ dX4_ticksWithAllParts_20 rfl 2 rfl rfl ?_
      refine sv_iload_n hΓ dX4_ticksWithAllParts_21 rfl 0 rfl rfl ?_
      refine sv_aload_n hΓ dX4_ticksWithAllParts_22 rfl 2 rfl rfl ?_
      refine g_X4_9_8 hΓ dX4_ticksWithAllParts_23 rfl ?_
      refine sv_callV hΓ (fun l => ct_X4_readyTickW l ((ftC c (sC c nu) b)) nu n b hBb (by omega) (fun a ha => (hT.1 a ha).symm)) wv_X4_91 vs_X4_readyTick rfl m_8 rfl rfl (by decide) (Nat.le_of_ble_eq_true rfl) (Nat.le_of_ble_eq_true rfl) (Nat.le_of_ble_eq_true rfl) dX4_ticksWithAllParts_26 rfl (fun r M' nx' p5 => ?_)
      obtain ⟨rfl, rfl, rfl⟩ := p5
      show SV E Γ 3 (mm ci' cl cr dy) nx 0 0 29 [(2, .int (nI b)), (1, .int (ftA c (sC c nu) b)), (0, .ref 8)] [.int (askF ((ftC c (sC c nu) b)) (sC ((ftC c (sC c nu) b)) nu) b b), .int (nI b), .ref 9]
      rw [(sm_ft c (sC c nu) b).sC nu]
      refine as_9 hΓ (b) rfl (by omega) dX4_ticksWithAllParts_29 rfl ?_
      refine sv_iload_n hΓ dX4_ticksWithAllParts_30 rfl 1 rfl rfl ?_
      refine sv_aload_n hΓ dX4_ticksWithAllParts_31 rfl 2 rfl rfl ?_
      refine g_X4_9_8 hΓ dX4_ticksWithAllParts_32 rfl ?_
      refine sv_iload_n hΓ dX4_ticksWithAllParts_35 rfl 0 rfl rfl ?_
      refine ai_9 hΓ (b) rfl (by omega) dX4_ticksWithAllParts_36 rfl ?_
      show SV E Γ 3 (mm (up2 ci' 9 b (askF (ftC c (sC c nu) b) (sC c nu) b b)) cl cr dy) nx 0 0 37 [(2, .int (nI b)), (1, .int (ftA c (sC c nu) b)), (0, .ref 8)] [.int ((up2 ci' 9 b (askF (ftC c (sC c nu) b) (sC c nu) b b)) 9 b), .int (ftA c (sC c nu) b)]
      rw [up2_s]
      refine sv_aload_n hΓ dX4_ticksWithAllParts_37 rfl 2 rfl rfl ?_
      refine g_X4_19_8 hΓ dX4_ticksWithAllParts_38 rfl ?_
      refine sv_aload_n hΓ dX4_ticksWithAllParts_41 rfl 2 rfl rfl ?_
      refine g_X4_15_8 hΓ dX4_ticksWithAllParts_42 rfl ?_
      refine sv_iload_n hΓ dX4_ticksWithAllParts_45 rfl 0 rfl rfl ?_
      obtain ⟨kg6, sg6, hrg6, hAg6⟩ := hAC b (by omega)
      refine sv_callV hΓ (fun l => ct_X1_get l b kg6 (by omega) hrg6) wv_X4_23 vs_X1_get rfl m_2 rfl rfl (by decide) (Nat.le_of_ble_eq_true rfl) (Nat.le_of_ble_eq_true rfl) (Nat.le_of_ble_eq_true rfl) dX4_ticksWithAllParts_46 rfl (fun r M' nx' p7 => ?_)
      obtain ⟨rfl, rfl, rfl⟩ := p7
      show SV E Γ 3 (mm (up2 ci' 9 b (askF (ftC c (sC c nu) b) (sC c nu) b b)) cl cr dy) nx 0 0 49 [(2, .int (nI b)), (1, .int (ftA c (sC c nu) b)), (0, .ref 8)] [.ref kg6, .ref 4, .int (askF (ftC c (sC c nu) b) (sC c nu) b b), .int (ftA c (sC c nu) b)]
      refine sv_callV hΓ (fun l => ct_X9_lengthOf l ((ftC c (sC c nu) b)) nu b kg6 sg6 ((sm_ft c (sC c nu) b).AT hAg6) hBb.2.1) wv_X4_42 vs_X9_lengthOf rfl m_4 rfl rfl (by decide) (Nat.le_of_ble_eq_true rfl) (Nat.le_of_ble_eq_true rfl) (Nat.le_of_ble_eq_true rfl) dX4_ticksWithAllParts_49 rfl (fun r M' nx' p8 => ?_)
      obtain ⟨rfl, rfl, rfl⟩ := p8
      show SV E Γ 3 (mm (up2 ci' 9 b (askF (ftC c (sC c nu) b) (sC c nu) b b)) cl cr dy) nx 0 0 52 [(2, .int (nI b)), (1, .int (ftA c (sC c nu) b)), (0, .ref 8)] [.int (ln ((ftC c (sC c nu) b)) b), .int (askF (ftC c (sC c nu) b) (sC c nu) b b), .int (ftA c (sC c nu) b)]
      refine sv_iadd hΓ dX4_ticksWithAllParts_52 rfl ?_
      refine sv_mmax hΓ ⟨tb_518, tb_519, tb_13, tb_520⟩ (by decide) (Nat.le_of_ble_eq_true rfl) (Nat.le_of_ble_eq_true rfl) (Nat.le_of_ble_eq_true rfl) dX4_ticksWithAllParts_53 rfl ?_
      refine sv_istore_n (lv' := [(1, .int (if ((askF (ftC c (sC c nu) b) (sC c nu) b b) + (ln ((ftC c (sC c nu) b)) b)) ≤ (ftA c (sC c nu) b) then (ftA c (sC c nu) b) else ((askF (ftC c (sC c nu) b) (sC c nu) b b) + (ln ((ftC c (sC c nu) b)) b)))), (2, .int (nI b)), (0, .ref 8)]) hΓ dX4_ticksWithAllParts_56 rfl (by decide) rfl rfl ?_
      refine sv_iinc (v := nI (b + 1)) (lv' := [(2, .int (nI (b + 1))), (1, .int (if ((askF (ftC c (sC c nu) b) (sC c nu) b b) + (ln ((ftC c (sC c nu) b)) b)) ≤ (ftA c (sC c nu) b) then (ftA c (sC c nu) b) else ((askF (ftC c (sC c nu) b) (sC c nu) b b) + (ln ((ftC c (sC c nu) b)) b)))), (0, .ref 8)]) hΓ dX4_ticksWithAllParts_57 1 rfl (nx_inc rfl) (by decide) rfl rfl ?_
      refine sv_goto (pc' := 4) hΓ dX4_ticksWithAllParts_60 (by decide) ?_
      have q := ih (b + 1) (by omega) _ (TW_s hT)
      rw [show ftA c (sC c nu) (b + 1) = if ((askF (ftC c (sC c nu) b) (sC c nu) b b) + (ln ((ftC c (sC c nu) b)) b)) ≤ (ftA c (sC c nu) b) then (ftA c (sC c nu) b) else ((askF (ftC c (sC c nu) b) (sC c nu) b b) + (ln ((ftC c (sC c nu) b)) b)) from by simp only [ftA]; rw [(sm_ft c (sC c nu) (b + 1)).ln, ← (sm_ft c (sC c nu) b).ln b]] at q
      exact SV_lv [0, 1, 2] rfl q
  exact SV_lv [0, 1, 2] rfl (LP4 n 0 (by omega) ci TW_0)
