set_option maxRecDepth 100000 in
set_option maxHeartbeats 4000000 in
/-- isIn -/
theorem ct_X12_isInI {E : aG} (l : Launch) (w : Int32) (a : Nat) (b : Nat) (lo : Int64) (hi : Int64) {ci : Nat → Nat → Int32} {cl : Nat → Nat → Int64} {cr : Nat → Nat → Option Nat} {dy : aM} {nx : Nat} (hb : b < 2 ^ 31) (ha : a < 2 ^ 31) (hlo : lo = lN a) (hhi : hi = lN b) : CT E l yX12_isIn cX12_isIn 6 (some .boolean) 0 [.long (Int32.toInt64 w), .long lo, .long hi] (mm ci cl cr dy) nx 0 0 (fun r M' nx' => r = some (.int (bI (II a b w))) ∧ M' = mm ci cl cr dy ∧ nx = nx') := by
  refine CT_intro (by decide) (Nat.le_of_ble_eq_true rfl) (fun Γ hΓ hQ => ?_)
  replace hΓ : CK E RX12 cX12_isIn 6 (some .boolean) "isIn" 0 0 0 Γ := hΓ
  show SV E Γ 6 (mm ci cl cr dy) nx 0 0 0 [(0, .long (Int32.toInt64 w)), (2, .long lo), (4, .long hi)] []
  refine sv_lload_n hΓ dX12_isIn_0 rfl 0 rfl rfl ?_
  refine sv_lload_n hΓ dX12_isIn_1 rfl 1 rfl rfl ?_
  refine sv_lcmp hΓ dX12_isIn_2 rfl ?_
  refine sv_if_lt (tgt := 17) hΓ dX12_isIn_3 (by decide) rfl (fun u1 => ?_) (fun u1 => ?_)
  · replace u1 := lgc_lt.mp u1
    refine sv_iconst (v := 0) hΓ dX12_isIn_17 (by decide) rfl ?_
    exact sv_zret hΓ hQ dX12_isIn_18 (Nat.le_of_ble_eq_true rfl) (Nat.le_of_ble_eq_true rfl) rfl ⟨by rw [← bI_iff (in_i hb ha hlo hhi)]; simp [bI, u1], rfl, rfl⟩
  · replace u1 := mt lgc_lt.mpr u1
    refine sv_lload_n hΓ dX12_isIn_6 rfl 0 rfl rfl ?_
    refine sv_lload hΓ dX12_isIn_7 2 rfl rfl ?_
    refine sv_lcmp hΓ dX12_isIn_9 rfl ?_
    refine sv_if_gt (tgt := 17) hΓ dX12_isIn_10 (by decide) rfl (fun u2 => ?_) (fun u2 => ?_)
    · replace u2 := lgc_gt.mp u2
      refine sv_iconst (v := 0) hΓ dX12_isIn_17 (by decide) rfl ?_
      exact sv_zret hΓ hQ dX12_isIn_18 (Nat.le_of_ble_eq_true rfl) (Nat.le_of_ble_eq_true rfl) rfl ⟨by rw [← bI_iff (in_i hb ha hlo hhi)]; simp [bI, u1, u2], rfl, rfl⟩
    · replace u2 := mt lgc_gt.mpr u2
      refine sv_iconst (v := 1) hΓ dX12_isIn_13 (by decide) rfl ?_
      refine sv_goto (pc' := 18) hΓ dX12_isIn_14 (by decide) ?_
      exact sv_zret hΓ hQ dX12_isIn_18 (Nat.le_of_ble_eq_true rfl) (Nat.le_of_ble_eq_true rfl) rfl ⟨by rw [← bI_iff (in_i hb ha hlo hhi)]; simp [bI, u1, u2], rfl, rfl⟩
set_option maxRecDepth 100000 in
set_option maxHeartbeats 4000000 in
/-- isAct -/
theorem ct_X12_isActN {E : aG} (l : Launch) (a : Int32) (n : Nat) {ci : Nat → Nat → Int32} {cl : Nat → Nat → Int64} {cr : Nat → Nat → Option Nat} {dy : aM} {nx : Nat} (hn : ci 43 1 = nI n) (hn6 : n ≤ 16) : CT E l yX12_isAct cX12_isAct 2 (some .boolean) 0 [.ref 43, .int a] (mm ci cl cr dy) nx 0 0 (fun r M' nx' => r = some (.int (bI (AI n a))) ∧ M' = mm ci cl cr dy ∧ nx = nx') := by
  refine CT_intro (by decide) (Nat.le_of_ble_eq_true rfl) (fun Γ hΓ hQ => ?_)
  replace hΓ : CK E RX12 cX12_isAct 2 (some .boolean) "isAct" 0 0 0 Γ := hΓ
  show SV E Γ 2 (mm ci cl cr dy) nx 0 0 0 [(0, .ref 43), (1, .int a)] []
  refine sv_iload_n hΓ dX12_isAct_0 rfl 1 rfl rfl ?_
  refine sv_if_lt (tgt := 16) hΓ dX12_isAct_1 (by decide) rfl (fun u1 => ?_) (fun u1 => ?_)
  · refine sv_iconst (v := 0) hΓ dX12_isAct_16 (by decide) rfl ?_
    exact sv_zret hΓ hQ dX12_isAct_17 (Nat.le_of_ble_eq_true rfl) (Nat.le_of_ble_eq_true rfl) rfl ⟨by rw [← bI_iff (act_i hn hn6)]; simp [bI, u1], rfl, rfl⟩
  · refine sv_iload_n hΓ dX12_isAct_4 rfl 1 rfl rfl ?_
    refine sv_aload_n hΓ dX12_isAct_5 rfl 0 rfl rfl ?_
    refine g_X12_103_43 hΓ dX12_isAct_6 rfl ?_
    refine sv_icmp_ge (tgt := 16) hΓ dX12_isAct_9 (by decide) rfl (fun u2 => ?_) (fun u2 => ?_)
    · refine sv_iconst (v := 0) hΓ dX12_isAct_16 (by decide) rfl ?_
      exact sv_zret hΓ hQ dX12_isAct_17 (Nat.le_of_ble_eq_true rfl) (Nat.le_of_ble_eq_true rfl) rfl ⟨by rw [← bI_iff (act_i hn hn6)]; simp [bI, u1, u2], rfl, rfl⟩
    · refine sv_iconst (v := 1) hΓ dX12_isAct_12 (by decide) rfl ?_
      refine sv_goto (pc' := 17) hΓ dX12_isAct_13 (by decide) ?_
      exact sv_zret hΓ hQ dX12_isAct_17 (Nat.le_of_ble_eq_true rfl) (Nat.le_of_ble_eq_true rfl) rfl ⟨by rw [← bI_iff (act_i hn hn6)]; simp [bI, u1, u2], rfl, rfl⟩
set_option maxRecDepth 100000 in
set_option maxHeartbeats 4000000 in
/-- added -/
theorem ct_X12_added {E : aG} (l : Launch) (o : Int32) (w : Int32) (x : Int32) (y : Int32) (z : Int32) (n : Nat) {ci : Nat → Nat → Int32} {cl : Nat → Nat → Int64} {cr : Nat → Nat → Option Nat} {dy : aM} {nx : Nat} (hn : ci 43 1 = nI n) (hn6 : n ≤ 16) : CT E l yX12_added cX12_added 6 (some .int) 1 [.ref 43, .int o, .int w, .int x, .int y, .int z] (mm ci cl cr dy) nx 0 0 (fun r M' nx' => (n = 16 ∧ r = some (.int (-2)) ∧ M' = mm ci cl cr dy ∧ nx = nx') ∨ (n < 16 ∧ r = some (.int (nI n)) ∧ M' = mm (adI ci n o w x y z) cl cr dy ∧ nx = nx')) := by
  refine CT_intro (by decide) (Nat.le_of_ble_eq_true rfl) (fun Γ hΓ hQ => ?_)
  replace hΓ : CK E RX12 cX12_added 6 (some .int) "added" 1 0 0 Γ := hΓ
  show SV E Γ 6 (mm ci cl cr dy) nx 0 0 0 [(0, .ref 43), (1, .int o), (2, .int w), (3, .int x), (4, .int y), (5, .int z)] []
  refine sv_aload_n hΓ dX12_added_0 rfl 0 rfl rfl ?_
  refine g_X12_103_43 hΓ dX12_added_1 rfl ?_
  refine sv_bipush (v := 16) hΓ dX12_added_4 (by decide) rfl ?_
  refine sv_icmp_ne (tgt := 12) hΓ dX12_added_6 (by decide) rfl (fun u1 => ?_) (fun u1 => ?_)
  · replace u1 : n < 16 := Nat.lt_of_le_of_ne hn6 (fun e => u1 (hn.trans ((nI_16 hn6).mpr e)))
    refine sv_aload_n hΓ dX12_added_12 rfl 0 rfl rfl ?_
    refine g_X12_7_43 hΓ dX12_added_13 rfl ?_
    refine sv_aload_n hΓ dX12_added_16 rfl 0 rfl rfl ?_
    refine g_X12_103_43 hΓ dX12_added_17 rfl ?_
    refine sv_iload_n hΓ dX12_added_20 rfl 1 rfl rfl ?_
    refine as_44 hΓ (n) hn (by omega) dX12_added_21 rfl ?_
    refine sv_aload_n hΓ dX12_added_22 rfl 0 rfl rfl ?_
    refine g_X12_13_43 hΓ dX12_added_23 rfl ?_
    refine sv_aload_n hΓ dX12_added_26 rfl 0 rfl rfl ?_
    refine g_X12_103_43 hΓ dX12_added_27 rfl ?_
    refine sv_iload_n hΓ dX12_added_30 rfl 2 rfl rfl ?_
    refine as_45 hΓ (n) hn (by omega) dX12_added_31 rfl ?_
    refine sv_aload_n hΓ dX12_added_32 rfl 0 rfl rfl ?_
    refine g_X12_16_43 hΓ dX12_added_33 rfl ?_
    refine sv_iconst (v := 3) hΓ dX12_added_36 (by decide) rfl ?_
    refine sv_aload_n hΓ dX12_added_37 rfl 0 rfl rfl ?_
    refine g_X12_103_43 hΓ dX12_added_38 rfl ?_
    refine sv_imulE (v := nI (3 * n)) hΓ dX12_added_41 (nx_mul rfl hn) rfl ?_
    refine sv_iload_n hΓ dX12_added_42 rfl 3 rfl rfl ?_
    refine as_46 hΓ (3 * n) rfl (by omega) dX12_added_43 rfl ?_
    refine sv_aload_n hΓ dX12_added_44 rfl 0 rfl rfl ?_
    refine g_X12_16_43 hΓ dX12_added_45 rfl ?_
    refine sv_iconst (v := 3) hΓ dX12_added_48 (by decide) rfl ?_
    refine sv_aload_n hΓ dX12_added_49 rfl 0 rfl rfl ?_
    refine g_X12_103_43 hΓ dX12_added_50 rfl ?_
    refine sv_imulE (v := nI (3 * n)) hΓ dX12_added_53 (nx_mul rfl hn) rfl ?_
    refine sv_iconst (v := 1) hΓ dX12_added_54 (by decide) rfl ?_
    refine sv_iaddE (v := nI (3 * n + 1)) hΓ dX12_added_55 (nx_add rfl rfl) rfl ?_
    refine sv_iload hΓ dX12_added_56 4 rfl rfl ?_
    refine as_46 hΓ (3 * n + 1) rfl (by omega) dX12_added_58 rfl ?_
    refine sv_aload_n hΓ dX12_added_59 rfl 0 rfl rfl ?_
    refine g_X12_16_43 hΓ dX12_added_60 rfl ?_
    refine sv_iconst (v := 3) hΓ dX12_added_63 (by decide) rfl ?_
    refine sv_aload_n hΓ dX12_added_64 rfl 0 rfl rfl ?_
    refine g_X12_103_43 hΓ dX12_added_65 rfl ?_
    refine sv_imulE (v := nI (3 * n)) hΓ dX12_added_68 (nx_mul rfl hn) rfl ?_
    refine sv_iconst (v := 2) hΓ dX12_added_69 (by decide) rfl ?_
    refine sv_iaddE (v := nI (3 * n + 2)) hΓ dX12_added_70 (nx_add rfl rfl) rfl ?_
    refine sv_iload hΓ dX12_added_71 5 rfl rfl ?_
    refine as_46 hΓ (3 * n + 2) rfl (by omega) dX12_added_73 rfl ?_
    refine sv_aload_n hΓ dX12_added_74 rfl 0 rfl rfl ?_
    refine g_X12_19_43 hΓ dX12_added_75 rfl ?_
    refine sv_aload_n hΓ dX12_added_78 rfl 0 rfl rfl ?_
    refine g_X12_103_43 hΓ dX12_added_79 rfl ?_
    refine sv_bipush (v := (-2)) hΓ dX12_added_82 (by decide) rfl ?_
    refine as_47 hΓ (n) hn (by omega) dX12_added_84 rfl ?_
    refine sv_aload_n hΓ dX12_added_85 rfl 0 rfl rfl ?_
    refine sv_dup hΓ dX12_added_86 rfl rfl ?_
    refine g_X12_103_43 hΓ dX12_added_87 rfl ?_
    refine sv_iconst (v := 1) hΓ dX12_added_90 (by decide) rfl ?_
    refine sv_iaddE (v := nI (n + 1)) hΓ dX12_added_91 (nx_add hn rfl) rfl ?_
    refine p_X12_103_43 hΓ dX12_added_92 rfl ?_
    refine sv_aload_n hΓ dX12_added_95 rfl 0 rfl rfl ?_
    refine sv_callV hΓ (fun l => ct_X12_changed l  ) wv_X12_113 vs_X12_changed rfl m_43 rfl rfl (by decide) (Nat.le_of_ble_eq_true rfl) (Nat.le_of_ble_eq_true rfl) (Nat.le_of_ble_eq_true rfl) dX12_added_96 rfl (fun r M' nx' p2 => ?_)
    obtain ⟨rfl, rfl, rfl⟩ := p2
    show SV E Γ 6 (mm (up2 (up2 (up2 (up2 (up2 (up2 (up2 (up2 (up2 ci 44 n o) 45 n w) 46 (3 * n) x) 46 (3 * n + 1) y) 46 (3 * n + 2) z) 47 n ((-2))) 43 1 (nI (n + 1))) 43 13 0) 43 19 0) cl cr dy) nx 0 0 99 [(0, .ref 43), (1, .int o), (2, .int w), (3, .int x), (4, .int y), (5, .int z)] []
    refine sv_aload_n hΓ dX12_added_99 rfl 0 rfl rfl ?_
    refine g_X12_103_43 hΓ dX12_added_100 rfl ?_
    refine sv_iconst (v := 1) hΓ dX12_added_103 (by decide) rfl ?_
    refine sv_isubE (v := nI ((n + 1) - 1)) hΓ dX12_added_104 (nx_sub1) rfl ?_
    exact sv_iret hΓ hQ dX12_added_105 (Nat.le_of_ble_eq_true rfl) (Nat.le_of_ble_eq_true rfl) (Or.inr ⟨u1, rfl, rfl, rfl⟩)
  · replace u1 : n = 16 := (nI_16 hn6).mp (hn ▸ u1)
    refine sv_bipush (v := (-2)) hΓ dX12_added_9 (by decide) rfl ?_
    exact sv_iret hΓ hQ dX12_added_11 (Nat.le_of_ble_eq_true rfl) (Nat.le_of_ble_eq_true rfl) (Or.inl ⟨u1, rfl, rfl, rfl⟩)
set_option maxRecDepth 100000 in
set_option maxHeartbeats 4000000 in
/-- constant -/
theorem ct_X12_constant {E : aG} (l : Launch) (v : Int64) (w : Int32) (n : Nat) {ci : Nat → Nat → Int32} {cl : Nat → Nat → Int64} {cr : Nat → Nat → Option Nat} {dy : aM} {nx : Nat} (hn : ci 43 1 = nI n) (hn6 : n ≤ 16) : CT E l yX12_constant cX12_constant 5 (some .int) 2 [.ref 43, .long v, .int w] (mm ci cl cr dy) nx 0 0 (fun r M' nx' => (¬ (II 1 32 w) ∧ r = some (.int (-1)) ∧ M' = mm (up2 ci 43 0 0) cl cr dy ∧ nx = nx') ∨ ((II 1 32 w) ∧ n = 16 ∧ r = some (.int (-2)) ∧ M' = mm (up2 ci 43 0 0) cl cr dy ∧ nx = nx') ∨ ((II 1 32 w) ∧ n < 16 ∧ r = some (.int (nI n)) ∧ M' = mm (adI (up2 ci 43 0 0) n 0 w (-1) (-1) (-1)) (up2 cl 48 n (cutF v w)) cr dy ∧ nx = nx')) := by
  refine CT_intro (by decide) (Nat.le_of_ble_eq_true rfl) (fun Γ hΓ hQ => ?_)
  replace hΓ : CK E RX12 cX12_constant 5 (some .int) "constant" 2 0 0 Γ := hΓ
  show SV E Γ 5 (mm ci cl cr dy) nx 0 0 0 [(0, .ref 43), (1, .long v), (3, .int w)] []
  refine sv_aload_n hΓ dX12_constant_0 rfl 0 rfl rfl ?_
  refine sv_iconst (v := 0) hΓ dX12_constant_1 (by decide) rfl ?_
  refine p_X12_99_43 hΓ dX12_constant_2 rfl ?_
  refine sv_iload_n hΓ dX12_constant_5 rfl 2 rfl rfl ?_
  refine sv_i2l hΓ dX12_constant_6 rfl rfl ?_
  refine sv_lconst (v := 1) hΓ dX12_constant_7 (by decide) rfl ?_
  refine sv_ldc2 hΓ dX12_constant_8 tb_1078 rfl ?_
  refine sv_callS hΓ (fun l => ct_X12_isInI l w 1 32 1 32 (by decide) (by decide) rfl rfl) wv_X12_118 tb_1080 rfl rfl (by decide) (Nat.le_of_ble_eq_true rfl) (Nat.le_of_ble_eq_true rfl) (Nat.le_of_ble_eq_true rfl) dX12_constant_11 rfl (fun r M' nx' p1 => ?_)
  obtain ⟨rfl, rfl, rfl⟩ := p1
  show SV E Γ 5 (mm (up2 ci 43 0 0) cl cr dy) nx 0 0 14 [(0, .ref 43), (1, .long v), (3, .int w)] [.int (bI (II 1 32 w))]
  refine sv_if_ne (tgt := 19) hΓ dX12_constant_14 (by decide) rfl (fun u2 => ?_) (fun u2 => ?_)
  · replace u2 := bI_ne.mp u2
    refine sv_aload_n hΓ dX12_constant_19 rfl 0 rfl rfl ?_
    refine sv_iconst (v := 0) hΓ dX12_constant_20 (by decide) rfl ?_
    refine sv_iload_n hΓ dX12_constant_21 rfl 2 rfl rfl ?_
    refine sv_iconst (v := (-1)) hΓ dX12_constant_22 (by decide) rfl ?_
    refine sv_iconst (v := (-1)) hΓ dX12_constant_23 (by decide) rfl ?_
    refine sv_iconst (v := (-1)) hΓ dX12_constant_24 (by decide) rfl ?_
    refine sv_callV hΓ (fun l => ct_X12_added l 0 w ((-1)) ((-1)) ((-1)) n hn hn6) wv_X12_122 vs_X12_added rfl m_43 rfl rfl (by decide) (Nat.le_of_ble_eq_true rfl) (Nat.le_of_ble_eq_true rfl) (Nat.le_of_ble_eq_true rfl) dX12_constant_25 rfl (fun r M' nx' p3 => ?_)
    rcases p3 with ⟨e16, rfl, rfl, rfl⟩ | ⟨l16, rfl, rfl, rfl⟩
    · show SV E Γ 5 (mm (up2 ci 43 0 0) cl cr dy) nx 0 0 28 [(0, .ref 43), (1, .long v), (3, .int w)] [.int ((-2))]
      refine sv_istore (lv' := [(4, .int ((-2))), (0, .ref 43), (1, .long v), (3, .int w)]) hΓ dX12_constant_28 (by decide) rfl rfl ?_
      refine sv_iload hΓ dX12_constant_30 0 rfl rfl ?_
      refine sv_if_lt (tgt := 47) hΓ dX12_constant_32 (by decide) rfl (fun u4 => ?_) (fun u4 => absurd (by decide) u4)
      replace u4 : (((-2)) : Int32) < 0 := u4
      refine sv_iload hΓ dX12_constant_47 0 rfl rfl ?_
      exact sv_iret hΓ hQ dX12_constant_49 (Nat.le_of_ble_eq_true rfl) (Nat.le_of_ble_eq_true rfl) (Or.inr (Or.inl ⟨by grind, e16, rfl, rfl, rfl⟩))
    · show SV E Γ 5 (mm (adI (up2 ci 43 0 0) n 0 w ((-1)) ((-1)) ((-1))) cl cr dy) nx 0 0 28 [(0, .ref 43), (1, .long v), (3, .int w)] [.int (nI n)]
      refine sv_istore (lv' := [(4, .int (nI n)), (0, .ref 43), (1, .long v), (3, .int w)]) hΓ dX12_constant_28 (by decide) rfl rfl ?_
      refine sv_iload hΓ dX12_constant_30 0 rfl rfl ?_
      refine sv_if_lt (tgt := 47) hΓ dX12_constant_32 (by decide) rfl (fun u5 => absurd u5 (nI_nneg (by omega))) (fun u5 => ?_)
      replace u5 : ¬ (((nI n) : Int32) < 0) := u5
      refine sv_aload_n hΓ dX12_constant_35 rfl 1 rfl rfl ?_
      refine g_X12_22_43 hΓ dX12_constant_36 rfl ?_
      refine sv_iload hΓ dX12_constant_39 0 rfl rfl ?_
      refine sv_lload_n hΓ dX12_constant_41 rfl 2 rfl rfl ?_
      refine sv_iload_n hΓ dX12_constant_42 rfl 3 rfl rfl ?_
      refine sv_callS hΓ (fun l => ct_X12_cut l v w ) wv_X12_126 tb_1091 rfl rfl (by decide) (Nat.le_of_ble_eq_true rfl) (Nat.le_of_ble_eq_true rfl) (Nat.le_of_ble_eq_true rfl) dX12_constant_43 rfl (fun r M' nx' p6 => ?_)
      obtain ⟨rfl, rfl, rfl⟩ := p6
      show SV E Γ 5 (mm (adI (up2 ci 43 0 0) n 0 w ((-1)) ((-1)) ((-1))) cl cr dy) nx 0 0 46 [(4, .int (nI n)), (0, .ref 43), (1, .long v), (3, .int w)] [.long (cutF v w), .int (nI n), .ref 48]
      refine at_48 hΓ (n) rfl (by omega) dX12_constant_46 rfl ?_
      refine sv_iload hΓ dX12_constant_47 0 rfl rfl ?_
      exact sv_iret hΓ hQ dX12_constant_49 (Nat.le_of_ble_eq_true rfl) (Nat.le_of_ble_eq_true rfl) (Or.inr (Or.inr ⟨by grind, l16, rfl, rfl, rfl⟩))
  · replace u2 := bI_0.mp u2
    refine sv_iconst (v := (-1)) hΓ dX12_constant_17 (by decide) rfl ?_
    exact sv_iret hΓ hQ dX12_constant_18 (Nat.le_of_ble_eq_true rfl) (Nat.le_of_ble_eq_true rfl) (Or.inl ⟨by grind, rfl, rfl, rfl⟩)
set_option maxRecDepth 100000 in
set_option maxHeartbeats 4000000 in
/-- port -/
theorem ct_X12_port {E : aG} (l : Launch) (q : Int32) (x : Int32) (w : Int32) (n : Nat) {ci : Nat → Nat → Int32} {cl : Nat → Nat → Int64} {cr : Nat → Nat → Option Nat} {dy : aM} {nx : Nat} (hn : ci 43 1 = nI n) (hn6 : n ≤ 16) : CT E l yX12_port cX12_port 5 (some .int) 2 [.ref 43, .int q, .int x, .int w] (mm ci cl cr dy) nx 0 0 (fun r M' nx' => (¬ (II 0 3 q ∧ (x = -1 ∨ AI n x) ∧ II 1 32 w) ∧ r = some (.int (-1)) ∧ M' = mm (up2 ci 43 0 0) cl cr dy ∧ nx = nx') ∨ ((II 0 3 q ∧ (x = -1 ∨ AI n x) ∧ II 1 32 w) ∧ n = 16 ∧ r = some (.int (-2)) ∧ M' = mm (up2 ci 43 0 0) cl cr dy ∧ nx = nx') ∨ ((II 0 3 q ∧ (x = -1 ∨ AI n x) ∧ II 1 32 w) ∧ n < 16 ∧ r = some (.int (nI n)) ∧ M' = mm (up2 (adI (up2 ci 43 0 0) n (if x = -1 then 1 else 10) w x (-1) (-1)) 47 n q) cl cr dy ∧ nx = nx')) := by
  refine CT_intro (by decide) (Nat.le_of_ble_eq_true rfl) (fun Γ hΓ hQ => ?_)
  replace hΓ : CK E RX12 cX12_port 5 (some .int) "port" 2 0 0 Γ := hΓ
  show SV E Γ 5 (mm ci cl cr dy) nx 0 0 0 [(0, .ref 43), (1, .int q), (2, .int x), (3, .int w)] []
  refine sv_aload_n hΓ dX12_port_0 rfl 0 rfl rfl ?_
  refine sv_iconst (v := 0) hΓ dX12_port_1 (by decide) rfl ?_
  refine p_X12_99_43 hΓ dX12_port_2 rfl ?_
  refine sv_iload_n hΓ dX12_port_5 rfl 1 rfl rfl ?_
  refine sv_i2l hΓ dX12_port_6 rfl rfl ?_
  refine sv_lconst (v := 0) hΓ dX12_port_7 (by decide) rfl ?_
  refine sv_ldc2 hΓ dX12_port_8 tb_1097 rfl ?_
  refine sv_callS hΓ (fun l => ct_X12_isInI l q 0 3 0 3 (by decide) (by decide) rfl rfl) wv_X12_118 tb_1080 rfl rfl (by decide) (Nat.le_of_ble_eq_true rfl) (Nat.le_of_ble_eq_true rfl) (Nat.le_of_ble_eq_true rfl) dX12_port_11 rfl (fun r M' nx' p1 => ?_)
  obtain ⟨rfl, rfl, rfl⟩ := p1
  show SV E Γ 5 (mm (up2 ci 43 0 0) cl cr dy) nx 0 0 14 [(0, .ref 43), (1, .int q), (2, .int x), (3, .int w)] [.int (bI (II 0 3 q))]
  refine sv_if_eq (tgt := 42) hΓ dX12_port_14 (by decide) rfl (fun u2 => ?_) (fun u2 => ?_)
  · replace u2 := bI_0.mp u2
    refine sv_iconst (v := (-1)) hΓ dX12_port_42 (by decide) rfl ?_
    exact sv_iret hΓ hQ dX12_port_43 (Nat.le_of_ble_eq_true rfl) (Nat.le_of_ble_eq_true rfl) (Or.inl ⟨by grind, rfl, rfl, rfl⟩)
  · replace u2 := bI_ne.mp u2
    refine sv_iload_n hΓ dX12_port_17 rfl 2 rfl rfl ?_
    refine sv_iconst (v := (-1)) hΓ dX12_port_18 (by decide) rfl ?_
    refine sv_icmp_eq (tgt := 30) hΓ dX12_port_19 (by decide) rfl (fun u3 => ?_) (fun u3 => ?_)
    · replace u3 : (x : Int32) = ((-1)) := u3
      refine sv_iload_n hΓ dX12_port_30 rfl 3 rfl rfl ?_
      refine sv_i2l hΓ dX12_port_31 rfl rfl ?_
      refine sv_lconst (v := 1) hΓ dX12_port_32 (by decide) rfl ?_
      refine sv_ldc2 hΓ dX12_port_33 tb_1078 rfl ?_
      refine sv_callS hΓ (fun l => ct_X12_isInI l w 1 32 1 32 (by decide) (by decide) rfl rfl) wv_X12_118 tb_1080 rfl rfl (by decide) (Nat.le_of_ble_eq_true rfl) (Nat.le_of_ble_eq_true rfl) (Nat.le_of_ble_eq_true rfl) dX12_port_36 rfl (fun r M' nx' p4 => ?_)
      obtain ⟨rfl, rfl, rfl⟩ := p4
      show SV E Γ 5 (mm (up2 ci 43 0 0) cl cr dy) nx 0 0 39 [(0, .ref 43), (1, .int q), (2, .int x), (3, .int w)] [.int (bI (II 1 32 w))]
      refine sv_if_ne (tgt := 44) hΓ dX12_port_39 (by decide) rfl (fun u5 => ?_) (fun u5 => ?_)
      · replace u5 := bI_ne.mp u5
        refine sv_aload_n hΓ dX12_port_44 rfl 0 rfl rfl ?_
        refine sv_iload_n hΓ dX12_port_45 rfl 2 rfl rfl ?_
        refine sv_if_ge (tgt := 53) hΓ dX12_port_46 (by decide) rfl (fun u6 => absurd u6 (by rw [u3]; decide)) (fun u6 => ?_)
        replace u6 : ¬ (0 ≤ (x : Int32)) := u6
        refine sv_iconst (v := 1) hΓ dX12_port_49 (by decide) rfl ?_
        refine sv_goto (pc' := 55) hΓ dX12_port_50 (by decide) ?_
        refine sv_iload_n hΓ dX12_port_55 rfl 3 rfl rfl ?_
        refine sv_iload_n hΓ dX12_port_56 rfl 2 rfl rfl ?_
        refine sv_iconst (v := (-1)) hΓ dX12_port_57 (by decide) rfl ?_
        refine sv_iconst (v := (-1)) hΓ dX12_port_58 (by decide) rfl ?_
        refine sv_callV hΓ (fun l => ct_X12_added l 1 w x ((-1)) ((-1)) n hn hn6) wv_X12_122 vs_X12_added rfl m_43 rfl rfl (by decide) (Nat.le_of_ble_eq_true rfl) (Nat.le_of_ble_eq_true rfl) (Nat.le_of_ble_eq_true rfl) dX12_port_59 rfl (fun r M' nx' p7 => ?_)
        rcases p7 with ⟨e16, rfl, rfl, rfl⟩ | ⟨l16, rfl, rfl, rfl⟩
        · show SV E Γ 5 (mm (up2 ci 43 0 0) cl cr dy) nx 0 0 62 [(0, .ref 43), (1, .int q), (2, .int x), (3, .int w)] [.int ((-2))]
          refine sv_istore (lv' := [(4, .int ((-2))), (0, .ref 43), (1, .int q), (2, .int x), (3, .int w)]) hΓ dX12_port_62 (by decide) rfl rfl ?_
          refine sv_iload hΓ dX12_port_64 0 rfl rfl ?_
          refine sv_if_lt (tgt := 77) hΓ dX12_port_66 (by decide) rfl (fun u8 => ?_) (fun u8 => absurd (by decide) u8)
          replace u8 : (((-2)) : Int32) < 0 := u8
          refine sv_iload hΓ dX12_port_77 0 rfl rfl ?_
          exact sv_iret hΓ hQ dX12_port_79 (Nat.le_of_ble_eq_true rfl) (Nat.le_of_ble_eq_true rfl) (Or.inr (Or.inl ⟨by grind, e16, rfl, rfl, rfl⟩))
        · show SV E Γ 5 (mm (adI (up2 ci 43 0 0) n 1 w x ((-1)) ((-1))) cl cr dy) nx 0 0 62 [(0, .ref 43), (1, .int q), (2, .int x), (3, .int w)] [.int (nI n)]
          refine sv_istore (lv' := [(4, .int (nI n)), (0, .ref 43), (1, .int q), (2, .int x), (3, .int w)]) hΓ dX12_port_62 (by decide) rfl rfl ?_
          refine sv_iload hΓ dX12_port_64 0 rfl rfl ?_
          refine sv_if_lt (tgt := 77) hΓ dX12_port_66 (by decide) rfl (fun u9 => absurd u9 (nI_nneg (by omega))) (fun u9 => ?_)
          replace u9 : ¬ (((nI n) : Int32) < 0) := u9
          refine sv_aload_n hΓ dX12_port_69 rfl 1 rfl rfl ?_
          refine g_X12_19_43 hΓ dX12_port_70 rfl ?_
          refine sv_iload hΓ dX12_port_73 0 rfl rfl ?_
          refine sv_iload_n hΓ dX12_port_75 rfl 2 rfl rfl ?_
          refine as_47 hΓ (n) rfl (by omega) dX12_port_76 rfl ?_
          refine sv_iload hΓ dX12_port_77 0 rfl rfl ?_
          exact sv_iret hΓ hQ dX12_port_79 (Nat.le_of_ble_eq_true rfl) (Nat.le_of_ble_eq_true rfl) (Or.inr (Or.inr ⟨by grind, l16, rfl, by rw [if_pos u3], rfl⟩))
      · replace u5 := bI_0.mp u5
        refine sv_iconst (v := (-1)) hΓ dX12_port_42 (by decide) rfl ?_
        exact sv_iret hΓ hQ dX12_port_43 (Nat.le_of_ble_eq_true rfl) (Nat.le_of_ble_eq_true rfl) (Or.inl ⟨by grind, rfl, rfl, rfl⟩)
    · replace u3 : ¬ ((x : Int32) = ((-1))) := u3
      refine sv_aload_n hΓ dX12_port_22 rfl 0 rfl rfl ?_
      refine sv_iload_n hΓ dX12_port_23 rfl 2 rfl rfl ?_
      refine sv_callV hΓ (fun l => ct_X12_isActN l x n hn hn6) wv_X12_132 vs_X12_isAct rfl m_43 rfl rfl (by decide) (Nat.le_of_ble_eq_true rfl) (Nat.le_of_ble_eq_true rfl) (Nat.le_of_ble_eq_true rfl) dX12_port_24 rfl (fun r M' nx' p10 => ?_)
      obtain ⟨rfl, rfl, rfl⟩ := p10
      show SV E Γ 5 (mm (up2 ci 43 0 0) cl cr dy) nx 0 0 27 [(0, .ref 43), (1, .int q), (2, .int x), (3, .int w)] [.int (bI (AI n x))]
      refine sv_if_eq (tgt := 42) hΓ dX12_port_27 (by decide) rfl (fun u11 => ?_) (fun u11 => ?_)
      · replace u11 := bI_0.mp u11
        refine sv_iconst (v := (-1)) hΓ dX12_port_42 (by decide) rfl ?_
        exact sv_iret hΓ hQ dX12_port_43 (Nat.le_of_ble_eq_true rfl) (Nat.le_of_ble_eq_true rfl) (Or.inl ⟨by grind, rfl, rfl, rfl⟩)
      · replace u11 := bI_ne.mp u11
        refine sv_iload_n hΓ dX12_port_30 rfl 3 rfl rfl ?_
        refine sv_i2l hΓ dX12_port_31 rfl rfl ?_
        refine sv_lconst (v := 1) hΓ dX12_port_32 (by decide) rfl ?_
        refine sv_ldc2 hΓ dX12_port_33 tb_1078 rfl ?_
        refine sv_callS hΓ (fun l => ct_X12_isInI l w 1 32 1 32 (by decide) (by decide) rfl rfl) wv_X12_118 tb_1080 rfl rfl (by decide) (Nat.le_of_ble_eq_true rfl) (Nat.le_of_ble_eq_true rfl) (Nat.le_of_ble_eq_true rfl) dX12_port_36 rfl (fun r M' nx' p12 => ?_)
        obtain ⟨rfl, rfl, rfl⟩ := p12
        show SV E Γ 5 (mm (up2 ci 43 0 0) cl cr dy) nx 0 0 39 [(0, .ref 43), (1, .int q), (2, .int x), (3, .int w)] [.int (bI (II 1 32 w))]
        refine sv_if_ne (tgt := 44) hΓ dX12_port_39 (by decide) rfl (fun u13 => ?_) (fun u13 => ?_)
        · replace u13 := bI_ne.mp u13
          refine sv_aload_n hΓ dX12_port_44 rfl 0 rfl rfl ?_
          refine sv_iload_n hΓ dX12_port_45 rfl 2 rfl rfl ?_
          refine sv_if_ge (tgt := 53) hΓ dX12_port_46 (by decide) rfl (fun u14 => ?_) (fun u14 => absurd (AI_nn u11) u14)
          replace u14 : 0 ≤ (x : Int32) := u14
          refine sv_bipush (v := 10) hΓ dX12_port_53 (by decide) rfl ?_
          refine sv_iload_n hΓ dX12_port_55 rfl 3 rfl rfl ?_
          refine sv_iload_n hΓ dX12_port_56 rfl 2 rfl rfl ?_
          refine sv_iconst (v := (-1)) hΓ dX12_port_57 (by decide) rfl ?_
          refine sv_iconst (v := (-1)) hΓ dX12_port_58 (by decide) rfl ?_
          refine sv_callV hΓ (fun l => ct_X12_added l 10 w x ((-1)) ((-1)) n hn hn6) wv_X12_122 vs_X12_added rfl m_43 rfl rfl (by decide) (Nat.le_of_ble_eq_true rfl) (Nat.le_of_ble_eq_true rfl) (Nat.le_of_ble_eq_true rfl) dX12_port_59 rfl (fun r M' nx' p15 => ?_)
          rcases p15 with ⟨e16, rfl, rfl, rfl⟩ | ⟨l16, rfl, rfl, rfl⟩
          · show SV E Γ 5 (mm (up2 ci 43 0 0) cl cr dy) nx 0 0 62 [(0, .ref 43), (1, .int q), (2, .int x), (3, .int w)] [.int ((-2))]
            refine sv_istore (lv' := [(4, .int ((-2))), (0, .ref 43), (1, .int q), (2, .int x), (3, .int w)]) hΓ dX12_port_62 (by decide) rfl rfl ?_
            refine sv_iload hΓ dX12_port_64 0 rfl rfl ?_
            refine sv_if_lt (tgt := 77) hΓ dX12_port_66 (by decide) rfl (fun u16 => ?_) (fun u16 => absurd (by decide) u16)
            replace u16 : (((-2)) : Int32) < 0 := u16
            refine sv_iload hΓ dX12_port_77 0 rfl rfl ?_
            exact sv_iret hΓ hQ dX12_port_79 (Nat.le_of_ble_eq_true rfl) (Nat.le_of_ble_eq_true rfl) (Or.inr (Or.inl ⟨by grind, e16, rfl, rfl, rfl⟩))
          · show SV E Γ 5 (mm (adI (up2 ci 43 0 0) n 10 w x ((-1)) ((-1))) cl cr dy) nx 0 0 62 [(0, .ref 43), (1, .int q), (2, .int x), (3, .int w)] [.int (nI n)]
            refine sv_istore (lv' := [(4, .int (nI n)), (0, .ref 43), (1, .int q), (2, .int x), (3, .int w)]) hΓ dX12_port_62 (by decide) rfl rfl ?_
            refine sv_iload hΓ dX12_port_64 0 rfl rfl ?_
            refine sv_if_lt (tgt := 77) hΓ dX12_port_66 (by decide) rfl (fun u17 => absurd u17 (nI_nneg (by omega))) (fun u17 => ?_)
            replace u17 : ¬ (((nI n) : Int32) < 0) := u17
            refine sv_aload_n hΓ dX12_port_69 rfl 1 rfl rfl ?_
            refine g_X12_19_43 hΓ dX12_port_70 rfl ?_
            refine sv_iload hΓ dX12_port_73 0 rfl rfl ?_
            refine sv_iload_n hΓ dX12_port_75 rfl 2 rfl rfl ?_
            refine as_47 hΓ (n) rfl (by omega) dX12_port_76 rfl ?_
            refine sv_iload hΓ dX12_port_77 0 rfl rfl ?_
            exact sv_iret hΓ hQ dX12_port_79 (Nat.le_of_ble_eq_true rfl) (Nat.le_of_ble_eq_true rfl) (Or.inr (Or.inr ⟨by grind, l16, rfl, by rw [if_neg u3], rfl⟩))
        · replace u13 := bI_0.mp u13
          refine sv_iconst (v := (-1)) hΓ dX12_port_42 (by decide) rfl ?_
          exact sv_iret hΓ hQ dX12_port_43 (Nat.le_of_ble_eq_true rfl) (Nat.le_of_ble_eq_true rfl) (Or.inl ⟨by grind, rfl, rfl, rfl⟩)
set_option maxRecDepth 100000 in
set_option maxHeartbeats 4000000 in
/-- reckon -/
theorem ct_X12_reckon {E : aG} (l : Launch) (o : Int32) (x : Int32) (y : Int32) (w : Int32) (n : Nat) {ci : Nat → Nat → Int32} {cl : Nat → Nat → Int64} {cr : Nat → Nat → Option Nat} {dy : aM} {nx : Nat} (hn : ci 43 1 = nI n) (hn6 : n ≤ 16) : CT E l yX12_reckon cX12_reckon 5 (some .int) 2 [.ref 43, .int o, .int x, .int y, .int w] (mm ci cl cr dy) nx 0 0 (fun r M' nx' => (¬ (II 2 6 o ∧ AI n x ∧ AI n y ∧ II 1 32 w) ∧ r = some (.int (-1)) ∧ M' = mm (up2 ci 43 0 0) cl cr dy ∧ nx = nx') ∨ ((II 2 6 o ∧ AI n x ∧ AI n y ∧ II 1 32 w) ∧ n = 16 ∧ r = some (.int (-2)) ∧ M' = mm (up2 ci 43 0 0) cl cr dy ∧ nx = nx') ∨ ((II 2 6 o ∧ AI n x ∧ AI n y ∧ II 1 32 w) ∧ n < 16 ∧ r = some (.int (nI n)) ∧ M' = mm (adI (up2 ci 43 0 0) n o w x y (-1)) cl cr dy ∧ nx = nx')) := by
  refine CT_intro (by decide) (Nat.le_of_ble_eq_true rfl) (fun Γ hΓ hQ => ?_)
  replace hΓ : CK E RX12 cX12_reckon 5 (some .int) "reckon" 2 0 0 Γ := hΓ
  show SV E Γ 5 (mm ci cl cr dy) nx 0 0 0 [(0, .ref 43), (1, .int o), (2, .int x), (3, .int y), (4, .int w)] []
  refine sv_aload_n hΓ dX12_reckon_0 rfl 0 rfl rfl ?_
  refine sv_iconst (v := 0) hΓ dX12_reckon_1 (by decide) rfl ?_
  refine p_X12_99_43 hΓ dX12_reckon_2 rfl ?_
  refine sv_iload_n hΓ dX12_reckon_5 rfl 1 rfl rfl ?_
  refine sv_i2l hΓ dX12_reckon_6 rfl rfl ?_
  refine sv_ldc2 hΓ dX12_reckon_7 tb_1106 rfl ?_
  refine sv_ldc2 hΓ dX12_reckon_10 tb_1107 rfl ?_
  refine sv_callS hΓ (fun l => ct_X12_isInI l o 2 6 2 6 (by decide) (by decide) rfl rfl) wv_X12_118 tb_1080 rfl rfl (by decide) (Nat.le_of_ble_eq_true rfl) (Nat.le_of_ble_eq_true rfl) (Nat.le_of_ble_eq_true rfl) dX12_reckon_13 rfl (fun r M' nx' p1 => ?_)
  obtain ⟨rfl, rfl, rfl⟩ := p1
  show SV E Γ 5 (mm (up2 ci 43 0 0) cl cr dy) nx 0 0 16 [(0, .ref 43), (1, .int o), (2, .int x), (3, .int y), (4, .int w)] [.int (bI (II 2 6 o))]
  refine sv_if_eq (tgt := 48) hΓ dX12_reckon_16 (by decide) rfl (fun u2 => ?_) (fun u2 => ?_)
  · replace u2 := bI_0.mp u2
    refine sv_iconst (v := (-1)) hΓ dX12_reckon_48 (by decide) rfl ?_
    refine sv_goto (pc' := 62) hΓ dX12_reckon_49 (by decide) ?_
    exact sv_iret hΓ hQ dX12_reckon_62 (Nat.le_of_ble_eq_true rfl) (Nat.le_of_ble_eq_true rfl) (Or.inl ⟨by grind, rfl, rfl, rfl⟩)
  · replace u2 := bI_ne.mp u2
    refine sv_aload_n hΓ dX12_reckon_19 rfl 0 rfl rfl ?_
    refine sv_iload_n hΓ dX12_reckon_20 rfl 2 rfl rfl ?_
    refine sv_callV hΓ (fun l => ct_X12_isActN l x n hn hn6) wv_X12_132 vs_X12_isAct rfl m_43 rfl rfl (by decide) (Nat.le_of_ble_eq_true rfl) (Nat.le_of_ble_eq_true rfl) (Nat.le_of_ble_eq_true rfl) dX12_reckon_21 rfl (fun r M' nx' p3 => ?_)
    obtain ⟨rfl, rfl, rfl⟩ := p3
    show SV E Γ 5 (mm (up2 ci 43 0 0) cl cr dy) nx 0 0 24 [(0, .ref 43), (1, .int o), (2, .int x), (3, .int y), (4, .int w)] [.int (bI (AI n x))]
    refine sv_if_eq (tgt := 48) hΓ dX12_reckon_24 (by decide) rfl (fun u4 => ?_) (fun u4 => ?_)
    · replace u4 := bI_0.mp u4
      refine sv_iconst (v := (-1)) hΓ dX12_reckon_48 (by decide) rfl ?_
      refine sv_goto (pc' := 62) hΓ dX12_reckon_49 (by decide) ?_
      exact sv_iret hΓ hQ dX12_reckon_62 (Nat.le_of_ble_eq_true rfl) (Nat.le_of_ble_eq_true rfl) (Or.inl ⟨by grind, rfl, rfl, rfl⟩)
    · replace u4 := bI_ne.mp u4
      refine sv_aload_n hΓ dX12_reckon_27 rfl 0 rfl rfl ?_
      refine sv_iload_n hΓ dX12_reckon_28 rfl 3 rfl rfl ?_
      refine sv_callV hΓ (fun l => ct_X12_isActN l y n hn hn6) wv_X12_132 vs_X12_isAct rfl m_43 rfl rfl (by decide) (Nat.le_of_ble_eq_true rfl) (Nat.le_of_ble_eq_true rfl) (Nat.le_of_ble_eq_true rfl) dX12_reckon_29 rfl (fun r M' nx' p5 => ?_)
      obtain ⟨rfl, rfl, rfl⟩ := p5
      show SV E Γ 5 (mm (up2 ci 43 0 0) cl cr dy) nx 0 0 32 [(0, .ref 43), (1, .int o), (2, .int x), (3, .int y), (4, .int w)] [.int (bI (AI n y))]
      refine sv_if_eq (tgt := 48) hΓ dX12_reckon_32 (by decide) rfl (fun u6 => ?_) (fun u6 => ?_)
      · replace u6 := bI_0.mp u6
        refine sv_iconst (v := (-1)) hΓ dX12_reckon_48 (by decide) rfl ?_
        refine sv_goto (pc' := 62) hΓ dX12_reckon_49 (by decide) ?_
        exact sv_iret hΓ hQ dX12_reckon_62 (Nat.le_of_ble_eq_true rfl) (Nat.le_of_ble_eq_true rfl) (Or.inl ⟨by grind, rfl, rfl, rfl⟩)
      · replace u6 := bI_ne.mp u6
        refine sv_iload hΓ dX12_reckon_35 4 rfl rfl ?_
        refine sv_i2l hΓ dX12_reckon_37 rfl rfl ?_
        refine sv_lconst (v := 1) hΓ dX12_reckon_38 (by decide) rfl ?_
        refine sv_ldc2 hΓ dX12_reckon_39 tb_1078 rfl ?_
        refine sv_callS hΓ (fun l => ct_X12_isInI l w 1 32 1 32 (by decide) (by decide) rfl rfl) wv_X12_118 tb_1080 rfl rfl (by decide) (Nat.le_of_ble_eq_true rfl) (Nat.le_of_ble_eq_true rfl) (Nat.le_of_ble_eq_true rfl) dX12_reckon_42 rfl (fun r M' nx' p7 => ?_)
        obtain ⟨rfl, rfl, rfl⟩ := p7
        show SV E Γ 5 (mm (up2 ci 43 0 0) cl cr dy) nx 0 0 45 [(0, .ref 43), (1, .int o), (2, .int x), (3, .int y), (4, .int w)] [.int (bI (II 1 32 w))]
        refine sv_if_ne (tgt := 52) hΓ dX12_reckon_45 (by decide) rfl (fun u8 => ?_) (fun u8 => ?_)
        · replace u8 := bI_ne.mp u8
          refine sv_aload_n hΓ dX12_reckon_52 rfl 0 rfl rfl ?_
          refine sv_iload_n hΓ dX12_reckon_53 rfl 1 rfl rfl ?_
          refine sv_iload hΓ dX12_reckon_54 4 rfl rfl ?_
          refine sv_iload_n hΓ dX12_reckon_56 rfl 2 rfl rfl ?_
          refine sv_iload_n hΓ dX12_reckon_57 rfl 3 rfl rfl ?_
          refine sv_iconst (v := (-1)) hΓ dX12_reckon_58 (by decide) rfl ?_
          refine sv_callV hΓ (fun l => ct_X12_added l o w x y ((-1)) n hn hn6) wv_X12_122 vs_X12_added rfl m_43 rfl rfl (by decide) (Nat.le_of_ble_eq_true rfl) (Nat.le_of_ble_eq_true rfl) (Nat.le_of_ble_eq_true rfl) dX12_reckon_59 rfl (fun r M' nx' p9 => ?_)
          rcases p9 with ⟨e16, rfl, rfl, rfl⟩ | ⟨l16, rfl, rfl, rfl⟩
          · show SV E Γ 5 (mm (up2 ci 43 0 0) cl cr dy) nx 0 0 62 [(0, .ref 43), (1, .int o), (2, .int x), (3, .int y), (4, .int w)] [.int ((-2))]
            exact sv_iret hΓ hQ dX12_reckon_62 (Nat.le_of_ble_eq_true rfl) (Nat.le_of_ble_eq_true rfl) (Or.inr (Or.inl ⟨by grind, e16, rfl, rfl, rfl⟩))
          · show SV E Γ 5 (mm (adI (up2 ci 43 0 0) n o w x y ((-1))) cl cr dy) nx 0 0 62 [(0, .ref 43), (1, .int o), (2, .int x), (3, .int y), (4, .int w)] [.int (nI n)]
            exact sv_iret hΓ hQ dX12_reckon_62 (Nat.le_of_ble_eq_true rfl) (Nat.le_of_ble_eq_true rfl) (Or.inr (Or.inr ⟨by grind, l16, rfl, rfl, rfl⟩))
        · replace u8 := bI_0.mp u8
          refine sv_iconst (v := (-1)) hΓ dX12_reckon_48 (by decide) rfl ?_
          refine sv_goto (pc' := 62) hΓ dX12_reckon_49 (by decide) ?_
          exact sv_iret hΓ hQ dX12_reckon_62 (Nat.le_of_ble_eq_true rfl) (Nat.le_of_ble_eq_true rfl) (Or.inl ⟨by grind, rfl, rfl, rfl⟩)
set_option maxRecDepth 100000 in
set_option maxHeartbeats 4000000 in
/-- pick -/
theorem ct_X12_pick {E : aG} (l : Launch) (x : Int32) (y : Int32) (z : Int32) (w : Int32) (n : Nat) {ci : Nat → Nat → Int32} {cl : Nat → Nat → Int64} {cr : Nat → Nat → Option Nat} {dy : aM} {nx : Nat} (hn : ci 43 1 = nI n) (hn6 : n ≤ 16) : CT E l yX12_pick cX12_pick 5 (some .int) 2 [.ref 43, .int x, .int y, .int z, .int w] (mm ci cl cr dy) nx 0 0 (fun r M' nx' => (¬ (AI n x ∧ AI n y ∧ AI n z ∧ II 1 32 w) ∧ r = some (.int (-1)) ∧ M' = mm (up2 ci 43 0 0) cl cr dy ∧ nx = nx') ∨ ((AI n x ∧ AI n y ∧ AI n z ∧ II 1 32 w) ∧ n = 16 ∧ r = some (.int (-2)) ∧ M' = mm (up2 ci 43 0 0) cl cr dy ∧ nx = nx') ∨ ((AI n x ∧ AI n y ∧ AI n z ∧ II 1 32 w) ∧ n < 16 ∧ r = some (.int (nI n)) ∧ M' = mm (adI (up2 ci 43 0 0) n 7 w x y z) cl cr dy ∧ nx = nx')) := by
  refine CT_intro (by decide) (Nat.le_of_ble_eq_true rfl) (fun Γ hΓ hQ => ?_)
  replace hΓ : CK E RX12 cX12_pick 5 (some .int) "pick" 2 0 0 Γ := hΓ
  show SV E Γ 5 (mm ci cl cr dy) nx 0 0 0 [(0, .ref 43), (1, .int x), (2, .int y), (3, .int z), (4, .int w)] []
  refine sv_aload_n hΓ dX12_pick_0 rfl 0 rfl rfl ?_
  refine sv_iconst (v := 0) hΓ dX12_pick_1 (by decide) rfl ?_
  refine p_X12_99_43 hΓ dX12_pick_2 rfl ?_
  refine sv_aload_n hΓ dX12_pick_5 rfl 0 rfl rfl ?_
  refine sv_iload_n hΓ dX12_pick_6 rfl 1 rfl rfl ?_
  refine sv_callV hΓ (fun l => ct_X12_isActN l x n hn hn6) wv_X12_132 vs_X12_isAct rfl m_43 rfl rfl (by decide) (Nat.le_of_ble_eq_true rfl) (Nat.le_of_ble_eq_true rfl) (Nat.le_of_ble_eq_true rfl) dX12_pick_7 rfl (fun r M' nx' p1 => ?_)
  obtain ⟨rfl, rfl, rfl⟩ := p1
  show SV E Γ 5 (mm (up2 ci 43 0 0) cl cr dy) nx 0 0 10 [(0, .ref 43), (1, .int x), (2, .int y), (3, .int z), (4, .int w)] [.int (bI (AI n x))]
  refine sv_if_eq (tgt := 42) hΓ dX12_pick_10 (by decide) rfl (fun u2 => ?_) (fun u2 => ?_)
  · replace u2 := bI_0.mp u2
    refine sv_iconst (v := (-1)) hΓ dX12_pick_42 (by decide) rfl ?_
    refine sv_goto (pc' := 57) hΓ dX12_pick_43 (by decide) ?_
    exact sv_iret hΓ hQ dX12_pick_57 (Nat.le_of_ble_eq_true rfl) (Nat.le_of_ble_eq_true rfl) (Or.inl ⟨by grind, rfl, rfl, rfl⟩)
  · replace u2 := bI_ne.mp u2
    refine sv_aload_n hΓ dX12_pick_13 rfl 0 rfl rfl ?_
    refine sv_iload_n hΓ dX12_pick_14 rfl 2 rfl rfl ?_
    refine sv_callV hΓ (fun l => ct_X12_isActN l y n hn hn6) wv_X12_132 vs_X12_isAct rfl m_43 rfl rfl (by decide) (Nat.le_of_ble_eq_true rfl) (Nat.le_of_ble_eq_true rfl) (Nat.le_of_ble_eq_true rfl) dX12_pick_15 rfl (fun r M' nx' p3 => ?_)
    obtain ⟨rfl, rfl, rfl⟩ := p3
    show SV E Γ 5 (mm (up2 ci 43 0 0) cl cr dy) nx 0 0 18 [(0, .ref 43), (1, .int x), (2, .int y), (3, .int z), (4, .int w)] [.int (bI (AI n y))]
    refine sv_if_eq (tgt := 42) hΓ dX12_pick_18 (by decide) rfl (fun u4 => ?_) (fun u4 => ?_)
    · replace u4 := bI_0.mp u4
      refine sv_iconst (v := (-1)) hΓ dX12_pick_42 (by decide) rfl ?_
      refine sv_goto (pc' := 57) hΓ dX12_pick_43 (by decide) ?_
      exact sv_iret hΓ hQ dX12_pick_57 (Nat.le_of_ble_eq_true rfl) (Nat.le_of_ble_eq_true rfl) (Or.inl ⟨by grind, rfl, rfl, rfl⟩)
    · replace u4 := bI_ne.mp u4
      refine sv_aload_n hΓ dX12_pick_21 rfl 0 rfl rfl ?_
      refine sv_iload_n hΓ dX12_pick_22 rfl 3 rfl rfl ?_
      refine sv_callV hΓ (fun l => ct_X12_isActN l z n hn hn6) wv_X12_132 vs_X12_isAct rfl m_43 rfl rfl (by decide) (Nat.le_of_ble_eq_true rfl) (Nat.le_of_ble_eq_true rfl) (Nat.le_of_ble_eq_true rfl) dX12_pick_23 rfl (fun r M' nx' p5 => ?_)
      obtain ⟨rfl, rfl, rfl⟩ := p5
      show SV E Γ 5 (mm (up2 ci 43 0 0) cl cr dy) nx 0 0 26 [(0, .ref 43), (1, .int x), (2, .int y), (3, .int z), (4, .int w)] [.int (bI (AI n z))]
      refine sv_if_eq (tgt := 42) hΓ dX12_pick_26 (by decide) rfl (fun u6 => ?_) (fun u6 => ?_)
      · replace u6 := bI_0.mp u6
        refine sv_iconst (v := (-1)) hΓ dX12_pick_42 (by decide) rfl ?_
        refine sv_goto (pc' := 57) hΓ dX12_pick_43 (by decide) ?_
        exact sv_iret hΓ hQ dX12_pick_57 (Nat.le_of_ble_eq_true rfl) (Nat.le_of_ble_eq_true rfl) (Or.inl ⟨by grind, rfl, rfl, rfl⟩)
      · replace u6 := bI_ne.mp u6
        refine sv_iload hΓ dX12_pick_29 4 rfl rfl ?_
        refine sv_i2l hΓ dX12_pick_31 rfl rfl ?_
        refine sv_lconst (v := 1) hΓ dX12_pick_32 (by decide) rfl ?_
        refine sv_ldc2 hΓ dX12_pick_33 tb_1078 rfl ?_
        refine sv_callS hΓ (fun l => ct_X12_isInI l w 1 32 1 32 (by decide) (by decide) rfl rfl) wv_X12_118 tb_1080 rfl rfl (by decide) (Nat.le_of_ble_eq_true rfl) (Nat.le_of_ble_eq_true rfl) (Nat.le_of_ble_eq_true rfl) dX12_pick_36 rfl (fun r M' nx' p7 => ?_)
        obtain ⟨rfl, rfl, rfl⟩ := p7
        show SV E Γ 5 (mm (up2 ci 43 0 0) cl cr dy) nx 0 0 39 [(0, .ref 43), (1, .int x), (2, .int y), (3, .int z), (4, .int w)] [.int (bI (II 1 32 w))]
        refine sv_if_ne (tgt := 46) hΓ dX12_pick_39 (by decide) rfl (fun u8 => ?_) (fun u8 => ?_)
        · replace u8 := bI_ne.mp u8
          refine sv_aload_n hΓ dX12_pick_46 rfl 0 rfl rfl ?_
          refine sv_bipush (v := 7) hΓ dX12_pick_47 (by decide) rfl ?_
          refine sv_iload hΓ dX12_pick_49 4 rfl rfl ?_
          refine sv_iload_n hΓ dX12_pick_51 rfl 1 rfl rfl ?_
          refine sv_iload_n hΓ dX12_pick_52 rfl 2 rfl rfl ?_
          refine sv_iload_n hΓ dX12_pick_53 rfl 3 rfl rfl ?_
          refine sv_callV hΓ (fun l => ct_X12_added l 7 w x y z n hn hn6) wv_X12_122 vs_X12_added rfl m_43 rfl rfl (by decide) (Nat.le_of_ble_eq_true rfl) (Nat.le_of_ble_eq_true rfl) (Nat.le_of_ble_eq_true rfl) dX12_pick_54 rfl (fun r M' nx' p9 => ?_)
          rcases p9 with ⟨e16, rfl, rfl, rfl⟩ | ⟨l16, rfl, rfl, rfl⟩
          · show SV E Γ 5 (mm (up2 ci 43 0 0) cl cr dy) nx 0 0 57 [(0, .ref 43), (1, .int x), (2, .int y), (3, .int z), (4, .int w)] [.int ((-2))]
            exact sv_iret hΓ hQ dX12_pick_57 (Nat.le_of_ble_eq_true rfl) (Nat.le_of_ble_eq_true rfl) (Or.inr (Or.inl ⟨by grind, e16, rfl, rfl, rfl⟩))
          · show SV E Γ 5 (mm (adI (up2 ci 43 0 0) n 7 w x y z) cl cr dy) nx 0 0 57 [(0, .ref 43), (1, .int x), (2, .int y), (3, .int z), (4, .int w)] [.int (nI n)]
            exact sv_iret hΓ hQ dX12_pick_57 (Nat.le_of_ble_eq_true rfl) (Nat.le_of_ble_eq_true rfl) (Or.inr (Or.inr ⟨by grind, l16, rfl, rfl, rfl⟩))
        · replace u8 := bI_0.mp u8
          refine sv_iconst (v := (-1)) hΓ dX12_pick_42 (by decide) rfl ?_
          refine sv_goto (pc' := 57) hΓ dX12_pick_43 (by decide) ?_
          exact sv_iret hΓ hQ dX12_pick_57 (Nat.le_of_ble_eq_true rfl) (Nat.le_of_ble_eq_true rfl) (Or.inl ⟨by grind, rfl, rfl, rfl⟩)
set_option maxRecDepth 100000 in
set_option maxHeartbeats 4000000 in
/-- touch -/
theorem ct_X12_touch {E : aG} (l : Launch) (x : Int32) (y : Int32) (w : Int32) (n : Nat) {ci : Nat → Nat → Int32} {cl : Nat → Nat → Int64} {cr : Nat → Nat → Option Nat} {dy : aM} {nx : Nat} (hn : ci 43 1 = nI n) (hn6 : n ≤ 16) : CT E l yX12_touch cX12_touch 4 (some .int) 2 [.ref 43, .int x, .int y, .int w] (mm ci cl cr dy) nx 0 0 (fun r M' nx' => (¬ (AI n x ∧ (y = -1 ∨ AI n y) ∧ II 1 32 w) ∧ r = some (.int (-1)) ∧ M' = mm (up2 ci 43 0 0) cl cr dy ∧ nx = nx') ∨ ((AI n x ∧ (y = -1 ∨ AI n y) ∧ II 1 32 w) ∧ n = 16 ∧ r = some (.int (-2)) ∧ M' = mm (up2 ci 43 0 0) cl cr dy ∧ nx = nx') ∨ ((AI n x ∧ (y = -1 ∨ AI n y) ∧ II 1 32 w) ∧ n < 16 ∧ r = some (.int (nI n)) ∧ M' = mm (adI (up2 ci 43 0 0) n (if y = -1 then 8 else 9) w x y (-1)) cl cr dy ∧ nx = nx')) := by
  refine CT_intro (by decide) (Nat.le_of_ble_eq_true rfl) (fun Γ hΓ hQ => ?_)
  replace hΓ : CK E RX12 cX12_touch 4 (some .int) "touch" 2 0 0 Γ := hΓ
  show SV E Γ 4 (mm ci cl cr dy) nx 0 0 0 [(0, .ref 43), (1, .int x), (2, .int y), (3, .int w)] []
  refine sv_aload_n hΓ dX12_touch_0 rfl 0 rfl rfl ?_
  refine sv_iconst (v := 0) hΓ dX12_touch_1 (by decide) rfl ?_
  refine p_X12_99_43 hΓ dX12_touch_2 rfl ?_
  refine sv_aload_n hΓ dX12_touch_5 rfl 0 rfl rfl ?_
  refine sv_iload_n hΓ dX12_touch_6 rfl 1 rfl rfl ?_
  refine sv_callV hΓ (fun l => ct_X12_isActN l x n hn hn6) wv_X12_132 vs_X12_isAct rfl m_43 rfl rfl (by decide) (Nat.le_of_ble_eq_true rfl) (Nat.le_of_ble_eq_true rfl) (Nat.le_of_ble_eq_true rfl) dX12_touch_7 rfl (fun r M' nx' p1 => ?_)
  obtain ⟨rfl, rfl, rfl⟩ := p1
  show SV E Γ 4 (mm (up2 ci 43 0 0) cl cr dy) nx 0 0 10 [(0, .ref 43), (1, .int x), (2, .int y), (3, .int w)] [.int (bI (AI n x))]
  refine sv_if_eq (tgt := 38) hΓ dX12_touch_10 (by decide) rfl (fun u2 => ?_) (fun u2 => ?_)
  · replace u2 := bI_0.mp u2
    refine sv_iconst (v := (-1)) hΓ dX12_touch_38 (by decide) rfl ?_
    refine sv_goto (pc' := 61) hΓ dX12_touch_39 (by decide) ?_
    exact sv_iret hΓ hQ dX12_touch_61 (Nat.le_of_ble_eq_true rfl) (Nat.le_of_ble_eq_true rfl) (Or.inl ⟨by grind, rfl, rfl, rfl⟩)
  · replace u2 := bI_ne.mp u2
    refine sv_iload_n hΓ dX12_touch_13 rfl 2 rfl rfl ?_
    refine sv_iconst (v := (-1)) hΓ dX12_touch_14 (by decide) rfl ?_
    refine sv_icmp_eq (tgt := 26) hΓ dX12_touch_15 (by decide) rfl (fun u3 => ?_) (fun u3 => ?_)
    · replace u3 : (y : Int32) = ((-1)) := u3
      refine sv_iload_n hΓ dX12_touch_26 rfl 3 rfl rfl ?_
      refine sv_i2l hΓ dX12_touch_27 rfl rfl ?_
      refine sv_lconst (v := 1) hΓ dX12_touch_28 (by decide) rfl ?_
      refine sv_ldc2 hΓ dX12_touch_29 tb_1078 rfl ?_
      refine sv_callS hΓ (fun l => ct_X12_isInI l w 1 32 1 32 (by decide) (by decide) rfl rfl) wv_X12_118 tb_1080 rfl rfl (by decide) (Nat.le_of_ble_eq_true rfl) (Nat.le_of_ble_eq_true rfl) (Nat.le_of_ble_eq_true rfl) dX12_touch_32 rfl (fun r M' nx' p4 => ?_)
      obtain ⟨rfl, rfl, rfl⟩ := p4
      show SV E Γ 4 (mm (up2 ci 43 0 0) cl cr dy) nx 0 0 35 [(0, .ref 43), (1, .int x), (2, .int y), (3, .int w)] [.int (bI (II 1 32 w))]
      refine sv_if_ne (tgt := 42) hΓ dX12_touch_35 (by decide) rfl (fun u5 => ?_) (fun u5 => ?_)
      · replace u5 := bI_ne.mp u5
        refine sv_aload_n hΓ dX12_touch_42 rfl 0 rfl rfl ?_
        refine sv_iload_n hΓ dX12_touch_43 rfl 2 rfl rfl ?_
        refine sv_if_ge (tgt := 52) hΓ dX12_touch_44 (by decide) rfl (fun u6 => absurd u6 (by rw [u3]; decide)) (fun u6 => ?_)
        replace u6 : ¬ (0 ≤ (y : Int32)) := u6
        refine sv_bipush (v := 8) hΓ dX12_touch_47 (by decide) rfl ?_
        refine sv_goto (pc' := 54) hΓ dX12_touch_49 (by decide) ?_
        refine sv_iload_n hΓ dX12_touch_54 rfl 3 rfl rfl ?_
        refine sv_iload_n hΓ dX12_touch_55 rfl 1 rfl rfl ?_
        refine sv_iload_n hΓ dX12_touch_56 rfl 2 rfl rfl ?_
        refine sv_iconst (v := (-1)) hΓ dX12_touch_57 (by decide) rfl ?_
        refine sv_callV hΓ (fun l => ct_X12_added l 8 w x y ((-1)) n hn hn6) wv_X12_122 vs_X12_added rfl m_43 rfl rfl (by decide) (Nat.le_of_ble_eq_true rfl) (Nat.le_of_ble_eq_true rfl) (Nat.le_of_ble_eq_true rfl) dX12_touch_58 rfl (fun r M' nx' p7 => ?_)
        rcases p7 with ⟨e16, rfl, rfl, rfl⟩ | ⟨l16, rfl, rfl, rfl⟩
        · show SV E Γ 4 (mm (up2 ci 43 0 0) cl cr dy) nx 0 0 61 [(0, .ref 43), (1, .int x), (2, .int y), (3, .int w)] [.int ((-2))]
          exact sv_iret hΓ hQ dX12_touch_61 (Nat.le_of_ble_eq_true rfl) (Nat.le_of_ble_eq_true rfl) (Or.inr (Or.inl ⟨by grind, e16, rfl, rfl, rfl⟩))
        · show SV E Γ 4 (mm (adI (up2 ci 43 0 0) n 8 w x y ((-1))) cl cr dy) nx 0 0 61 [(0, .ref 43), (1, .int x), (2, .int y), (3, .int w)] [.int (nI n)]
          exact sv_iret hΓ hQ dX12_touch_61 (Nat.le_of_ble_eq_true rfl) (Nat.le_of_ble_eq_true rfl) (Or.inr (Or.inr ⟨by grind, l16, rfl, by rw [if_pos u3], rfl⟩))
      · replace u5 := bI_0.mp u5
        refine sv_iconst (v := (-1)) hΓ dX12_touch_38 (by decide) rfl ?_
        refine sv_goto (pc' := 61) hΓ dX12_touch_39 (by decide) ?_
        exact sv_iret hΓ hQ dX12_touch_61 (Nat.le_of_ble_eq_true rfl) (Nat.le_of_ble_eq_true rfl) (Or.inl ⟨by grind, rfl, rfl, rfl⟩)
    · replace u3 : ¬ ((y : Int32) = ((-1))) := u3
      refine sv_aload_n hΓ dX12_touch_18 rfl 0 rfl rfl ?_
      refine sv_iload_n hΓ dX12_touch_19 rfl 2 rfl rfl ?_
      refine sv_callV hΓ (fun l => ct_X12_isActN l y n hn hn6) wv_X12_132 vs_X12_isAct rfl m_43 rfl rfl (by decide) (Nat.le_of_ble_eq_true rfl) (Nat.le_of_ble_eq_true rfl) (Nat.le_of_ble_eq_true rfl) dX12_touch_20 rfl (fun r M' nx' p8 => ?_)
      obtain ⟨rfl, rfl, rfl⟩ := p8
      show SV E Γ 4 (mm (up2 ci 43 0 0) cl cr dy) nx 0 0 23 [(0, .ref 43), (1, .int x), (2, .int y), (3, .int w)] [.int (bI (AI n y))]
      refine sv_if_eq (tgt := 38) hΓ dX12_touch_23 (by decide) rfl (fun u9 => ?_) (fun u9 => ?_)
      · replace u9 := bI_0.mp u9
        refine sv_iconst (v := (-1)) hΓ dX12_touch_38 (by decide) rfl ?_
        refine sv_goto (pc' := 61) hΓ dX12_touch_39 (by decide) ?_
        exact sv_iret hΓ hQ dX12_touch_61 (Nat.le_of_ble_eq_true rfl) (Nat.le_of_ble_eq_true rfl) (Or.inl ⟨by grind, rfl, rfl, rfl⟩)
      · replace u9 := bI_ne.mp u9
        refine sv_iload_n hΓ dX12_touch_26 rfl 3 rfl rfl ?_
        refine sv_i2l hΓ dX12_touch_27 rfl rfl ?_
        refine sv_lconst (v := 1) hΓ dX12_touch_28 (by decide) rfl ?_
        refine sv_ldc2 hΓ dX12_touch_29 tb_1078 rfl ?_
        refine sv_callS hΓ (fun l => ct_X12_isInI l w 1 32 1 32 (by decide) (by decide) rfl rfl) wv_X12_118 tb_1080 rfl rfl (by decide) (Nat.le_of_ble_eq_true rfl) (Nat.le_of_ble_eq_true rfl) (Nat.le_of_ble_eq_true rfl) dX12_touch_32 rfl (fun r M' nx' p10 => ?_)
        obtain ⟨rfl, rfl, rfl⟩ := p10
        show SV E Γ 4 (mm (up2 ci 43 0 0) cl cr dy) nx 0 0 35 [(0, .ref 43), (1, .int x), (2, .int y), (3, .int w)] [.int (bI (II 1 32 w))]
        refine sv_if_ne (tgt := 42) hΓ dX12_touch_35 (by decide) rfl (fun u11 => ?_) (fun u11 => ?_)
        · replace u11 := bI_ne.mp u11
          refine sv_aload_n hΓ dX12_touch_42 rfl 0 rfl rfl ?_
          refine sv_iload_n hΓ dX12_touch_43 rfl 2 rfl rfl ?_
          refine sv_if_ge (tgt := 52) hΓ dX12_touch_44 (by decide) rfl (fun u12 => ?_) (fun u12 => absurd (AI_nn u9) u12)
          replace u12 : 0 ≤ (y : Int32) := u12
          refine sv_bipush (v := 9) hΓ dX12_touch_52 (by decide) rfl ?_
          refine sv_iload_n hΓ dX12_touch_54 rfl 3 rfl rfl ?_
          refine sv_iload_n hΓ dX12_touch_55 rfl 1 rfl rfl ?_
          refine sv_iload_n hΓ dX12_touch_56 rfl 2 rfl rfl ?_
          refine sv_iconst (v := (-1)) hΓ dX12_touch_57 (by decide) rfl ?_
          refine sv_callV hΓ (fun l => ct_X12_added l 9 w x y ((-1)) n hn hn6) wv_X12_122 vs_X12_added rfl m_43 rfl rfl (by decide) (Nat.le_of_ble_eq_true rfl) (Nat.le_of_ble_eq_true rfl) (Nat.le_of_ble_eq_true rfl) dX12_touch_58 rfl (fun r M' nx' p13 => ?_)
          rcases p13 with ⟨e16, rfl, rfl, rfl⟩ | ⟨l16, rfl, rfl, rfl⟩
          · show SV E Γ 4 (mm (up2 ci 43 0 0) cl cr dy) nx 0 0 61 [(0, .ref 43), (1, .int x), (2, .int y), (3, .int w)] [.int ((-2))]
            exact sv_iret hΓ hQ dX12_touch_61 (Nat.le_of_ble_eq_true rfl) (Nat.le_of_ble_eq_true rfl) (Or.inr (Or.inl ⟨by grind, e16, rfl, rfl, rfl⟩))
          · show SV E Γ 4 (mm (adI (up2 ci 43 0 0) n 9 w x y ((-1))) cl cr dy) nx 0 0 61 [(0, .ref 43), (1, .int x), (2, .int y), (3, .int w)] [.int (nI n)]
            exact sv_iret hΓ hQ dX12_touch_61 (Nat.le_of_ble_eq_true rfl) (Nat.le_of_ble_eq_true rfl) (Or.inr (Or.inr ⟨by grind, l16, rfl, by rw [if_neg u3], rfl⟩))
        · replace u11 := bI_0.mp u11
          refine sv_iconst (v := (-1)) hΓ dX12_touch_38 (by decide) rfl ?_
          refine sv_goto (pc' := 61) hΓ dX12_touch_39 (by decide) ?_
          exact sv_iret hΓ hQ dX12_touch_61 (Nat.le_of_ble_eq_true rfl) (Nat.le_of_ble_eq_true rfl) (Or.inl ⟨by grind, rfl, rfl, rfl⟩)
set_option maxRecDepth 100000 in
set_option maxHeartbeats 4000000 in
/-- drop -/
theorem ct_X12_drop {E : aG} (l : Launch) (n : Nat) {ci : Nat → Nat → Int32} {cl : Nat → Nat → Int64} {cr : Nat → Nat → Option Nat} {dy : aM} {nx : Nat} (hn : ci 43 1 = nI n) (hn6 : n ≤ 16) : CT E l yX12_drop cX12_drop 1 (some .int) 1 [.ref 43] (mm ci cl cr dy) nx 0 0 (fun r M' nx' => (n = 0 ∧ r = some (.int (-2)) ∧ M' = mm (up2 ci 43 0 0) cl cr dy ∧ nx = nx') ∨ (¬ n = 0 ∧ r = some (.int (nI (n - 1))) ∧ M' = mm (chI (up2 (up2 ci 43 0 0) 43 1 (nI (n - 1)))) cl cr dy ∧ nx = nx')) := by
  refine CT_intro (by decide) (Nat.le_of_ble_eq_true rfl) (fun Γ hΓ hQ => ?_)
  replace hΓ : CK E RX12 cX12_drop 1 (some .int) "drop" 1 0 0 Γ := hΓ
  show SV E Γ 1 (mm ci cl cr dy) nx 0 0 0 [(0, .ref 43)] []
  refine sv_aload_n hΓ dX12_drop_0 rfl 0 rfl rfl ?_
  refine sv_iconst (v := 0) hΓ dX12_drop_1 (by decide) rfl ?_
  refine p_X12_99_43 hΓ dX12_drop_2 rfl ?_
  refine sv_aload_n hΓ dX12_drop_5 rfl 0 rfl rfl ?_
  refine g_X12_103_43 hΓ dX12_drop_6 rfl ?_
  refine sv_if_ne (tgt := 15) hΓ dX12_drop_9 (by decide) rfl (fun u1 => ?_) (fun u1 => ?_)
  · replace u1 : ¬ ((ci 43 1) : Int32) = 0 := u1
    replace u1 : ¬ n = 0 := fun e => u1 (by rw [hn, e]; rfl)
    refine sv_aload_n hΓ dX12_drop_15 rfl 0 rfl rfl ?_
    refine sv_dup hΓ dX12_drop_16 rfl rfl ?_
    refine g_X12_103_43 hΓ dX12_drop_17 rfl ?_
    refine sv_iconst (v := 1) hΓ dX12_drop_20 (by decide) rfl ?_
    refine sv_isubE (v := nI (n - 1)) hΓ dX12_drop_21 (nx_subP hn (by omega)) rfl ?_
    refine p_X12_103_43 hΓ dX12_drop_22 rfl ?_
    refine sv_aload_n hΓ dX12_drop_25 rfl 0 rfl rfl ?_
    refine sv_callV hΓ (fun l => ct_X12_changed l  ) wv_X12_113 vs_X12_changed rfl m_43 rfl rfl (by decide) (Nat.le_of_ble_eq_true rfl) (Nat.le_of_ble_eq_true rfl) (Nat.le_of_ble_eq_true rfl) dX12_drop_26 rfl (fun r M' nx' p2 => ?_)
    obtain ⟨rfl, rfl, rfl⟩ := p2
    show SV E Γ 1 (mm (up2 (up2 (up2 (up2 ci 43 0 0) 43 1 (nI (n - 1))) 43 13 0) 43 19 0) cl cr dy) nx 0 0 29 [(0, .ref 43)] []
    refine sv_aload_n hΓ dX12_drop_29 rfl 0 rfl rfl ?_
    refine g_X12_103_43 hΓ dX12_drop_30 rfl ?_
    exact sv_iret hΓ hQ dX12_drop_33 (Nat.le_of_ble_eq_true rfl) (Nat.le_of_ble_eq_true rfl) (Or.inr ⟨u1, rfl, rfl, rfl⟩)
  · replace u1 : ((ci 43 1) : Int32) = 0 := u1
    replace u1 : n = 0 := nI_z hn6 hn u1
    refine sv_bipush (v := (-2)) hΓ dX12_drop_12 (by decide) rfl ?_
    exact sv_iret hΓ hQ dX12_drop_14 (Nat.le_of_ble_eq_true rfl) (Nat.le_of_ble_eq_true rfl) (Or.inl ⟨u1, rfl, rfl, rfl⟩)
set_option maxRecDepth 100000 in
set_option maxHeartbeats 4000000 in
/-- parts -/
theorem ct_X12_parts {E : aG} (l : Launch) (q : Int32) (m : Int32) {ci : Nat → Nat → Int32} {cl : Nat → Nat → Int64} {cr : Nat → Nat → Option Nat} {dy : aM} {nx : Nat}  : CT E l yX12_parts cX12_parts 4 (some .int) 1 [.ref 43, .int q, .int m] (mm ci cl cr dy) nx 0 0 (fun r M' nx' => (¬ (II 0 3 q ∧ II 1 4 m) ∧ r = some (.int (-1)) ∧ M' = mm (up2 ci 43 0 0) cl cr dy ∧ nx = nx') ∨ ((II 0 3 q ∧ II 1 4 m) ∧ r = some (.int (ci 49 q.toNatClampNeg)) ∧ M' = mm (chI (up2 (up2 ci 43 0 0) 49 q.toNatClampNeg m)) cl cr dy ∧ nx = nx')) := by
  refine CT_intro (by decide) (Nat.le_of_ble_eq_true rfl) (fun Γ hΓ hQ => ?_)
  replace hΓ : CK E RX12 cX12_parts 4 (some .int) "parts" 1 0 0 Γ := hΓ
  show SV E Γ 4 (mm ci cl cr dy) nx 0 0 0 [(0, .ref 43), (1, .int q), (2, .int m)] []
  refine sv_aload_n hΓ dX12_parts_0 rfl 0 rfl rfl ?_
  refine sv_iconst (v := 0) hΓ dX12_parts_1 (by decide) rfl ?_
  refine p_X12_99_43 hΓ dX12_parts_2 rfl ?_
  refine sv_iload_n hΓ dX12_parts_5 rfl 1 rfl rfl ?_
  refine sv_i2l hΓ dX12_parts_6 rfl rfl ?_
  refine sv_lconst (v := 0) hΓ dX12_parts_7 (by decide) rfl ?_
  refine sv_ldc2 hΓ dX12_parts_8 tb_1097 rfl ?_
  refine sv_callS hΓ (fun l => ct_X12_isInI l q 0 3 0 3 (by decide) (by decide) rfl rfl) wv_X12_118 tb_1080 rfl rfl (by decide) (Nat.le_of_ble_eq_true rfl) (Nat.le_of_ble_eq_true rfl) (Nat.le_of_ble_eq_true rfl) dX12_parts_11 rfl (fun r M' nx' p1 => ?_)
  obtain ⟨rfl, rfl, rfl⟩ := p1
  show SV E Γ 4 (mm (up2 ci 43 0 0) cl cr dy) nx 0 0 14 [(0, .ref 43), (1, .int q), (2, .int m)] [.int (bI (II 0 3 q))]
  refine sv_if_eq (tgt := 29) hΓ dX12_parts_14 (by decide) rfl (fun u2 => ?_) (fun u2 => ?_)
  · replace u2 := bI_0.mp u2
    refine sv_iconst (v := (-1)) hΓ dX12_parts_29 (by decide) rfl ?_
    exact sv_iret hΓ hQ dX12_parts_30 (Nat.le_of_ble_eq_true rfl) (Nat.le_of_ble_eq_true rfl) (Or.inl ⟨by grind, rfl, rfl, rfl⟩)
  · replace u2 := bI_ne.mp u2
    obtain ⟨k, hk0, hk3, ek⟩ := II.k u2
    refine sv_iload_n hΓ dX12_parts_17 rfl 2 rfl rfl ?_
    refine sv_i2l hΓ dX12_parts_18 rfl rfl ?_
    refine sv_lconst (v := 1) hΓ dX12_parts_19 (by decide) rfl ?_
    refine sv_ldc2 hΓ dX12_parts_20 tb_1124 rfl ?_
    refine sv_callS hΓ (fun l => ct_X12_isInI l m 1 4 1 4 (by decide) (by decide) rfl rfl) wv_X12_118 tb_1080 rfl rfl (by decide) (Nat.le_of_ble_eq_true rfl) (Nat.le_of_ble_eq_true rfl) (Nat.le_of_ble_eq_true rfl) dX12_parts_23 rfl (fun r M' nx' p3 => ?_)
    obtain ⟨rfl, rfl, rfl⟩ := p3
    show SV E Γ 4 (mm (up2 ci 43 0 0) cl cr dy) nx 0 0 26 [(0, .ref 43), (1, .int q), (2, .int m)] [.int (bI (II 1 4 m))]
    refine sv_if_ne (tgt := 31) hΓ dX12_parts_26 (by decide) rfl (fun u4 => ?_) (fun u4 => ?_)
    · replace u4 := bI_ne.mp u4
      refine sv_aload_n hΓ dX12_parts_31 rfl 0 rfl rfl ?_
      refine g_X12_26_43 hΓ dX12_parts_32 rfl ?_
      refine sv_iload_n hΓ dX12_parts_35 rfl 1 rfl rfl ?_
      refine ai_49 hΓ (k) ek (by omega) dX12_parts_36 rfl ?_
      refine sv_istore_n (lv' := [(3, .int (ci 49 k)), (0, .ref 43), (1, .int q), (2, .int m)]) hΓ dX12_parts_37 rfl (by decide) rfl rfl ?_
      refine sv_aload_n hΓ dX12_parts_38 rfl 1 rfl rfl ?_
      refine g_X12_26_43 hΓ dX12_parts_39 rfl ?_
      refine sv_iload_n hΓ dX12_parts_42 rfl 2 rfl rfl ?_
      refine sv_iload_n hΓ dX12_parts_43 rfl 3 rfl rfl ?_
      refine as_49 hΓ (k) ek (by omega) dX12_parts_44 rfl ?_
      refine sv_aload_n hΓ dX12_parts_45 rfl 1 rfl rfl ?_
      refine sv_callV hΓ (fun l => ct_X12_changed l  ) wv_X12_113 vs_X12_changed rfl m_43 rfl rfl (by decide) (Nat.le_of_ble_eq_true rfl) (Nat.le_of_ble_eq_true rfl) (Nat.le_of_ble_eq_true rfl) dX12_parts_46 rfl (fun r M' nx' p5 => ?_)
      obtain ⟨rfl, rfl, rfl⟩ := p5
      show SV E Γ 4 (mm (up2 (up2 (up2 (up2 ci 43 0 0) 49 k m) 43 13 0) 43 19 0) cl cr dy) nx 0 0 49 [(3, .int (ci 49 k)), (0, .ref 43), (1, .int q), (2, .int m)] []
      refine sv_iload_n hΓ dX12_parts_49 rfl 0 rfl rfl ?_
      exact sv_iret hΓ hQ dX12_parts_50 (Nat.le_of_ble_eq_true rfl) (Nat.le_of_ble_eq_true rfl) (Or.inr ⟨⟨u2, u4⟩, by rw [ek, nI_clamp (by omega)], by rw [ek, nI_clamp (by omega)], rfl⟩)
    · replace u4 := bI_0.mp u4
      refine sv_iconst (v := (-1)) hΓ dX12_parts_29 (by decide) rfl ?_
      exact sv_iret hΓ hQ dX12_parts_30 (Nat.le_of_ble_eq_true rfl) (Nat.le_of_ble_eq_true rfl) (Or.inl ⟨by grind, rfl, rfl, rfl⟩)
set_option maxRecDepth 100000 in
set_option maxHeartbeats 4000000 in
/-- length -/
theorem ct_X12_length {E : aG} (l : Launch) (q : Int32) (m : Int32) (z : Int32) {ci : Nat → Nat → Int32} {cl : Nat → Nat → Int64} {cr : Nat → Nat → Option Nat} {dy : aM} {nx : Nat} (hz : z = 0 ∨ z = 1) : CT E l yX12_length cX12_length 5 (some .int) 1 [.ref 43, .int q, .int m, .int z] (mm ci cl cr dy) nx 0 0 (fun r M' nx' => (¬ (II 0 3 q ∧ II 1 8 m) ∧ r = some (.int (-1)) ∧ M' = mm (up2 ci 43 0 0) cl cr dy ∧ nx = nx') ∨ ((II 0 3 q ∧ II 1 8 m) ∧ r = some (.int (ci 50 q.toNatClampNeg)) ∧ M' = mm (chI (up2 (up2 (up2 ci 43 0 0) 50 q.toNatClampNeg m) 51 q.toNatClampNeg z)) cl cr dy ∧ nx = nx')) := by
  refine CT_intro (by decide) (Nat.le_of_ble_eq_true rfl) (fun Γ hΓ hQ => ?_)
  replace hΓ : CK E RX12 cX12_length 5 (some .int) "length" 1 0 0 Γ := hΓ
  show SV E Γ 5 (mm ci cl cr dy) nx 0 0 0 [(0, .ref 43), (1, .int q), (2, .int m), (3, .int z)] []
  refine sv_aload_n hΓ dX12_length_0 rfl 0 rfl rfl ?_
  refine sv_iconst (v := 0) hΓ dX12_length_1 (by decide) rfl ?_
  refine p_X12_99_43 hΓ dX12_length_2 rfl ?_
  refine sv_iload_n hΓ dX12_length_5 rfl 1 rfl rfl ?_
  refine sv_i2l hΓ dX12_length_6 rfl rfl ?_
  refine sv_lconst (v := 0) hΓ dX12_length_7 (by decide) rfl ?_
  refine sv_ldc2 hΓ dX12_length_8 tb_1097 rfl ?_
  refine sv_callS hΓ (fun l => ct_X12_isInI l q 0 3 0 3 (by decide) (by decide) rfl rfl) wv_X12_118 tb_1080 rfl rfl (by decide) (Nat.le_of_ble_eq_true rfl) (Nat.le_of_ble_eq_true rfl) (Nat.le_of_ble_eq_true rfl) dX12_length_11 rfl (fun r M' nx' p1 => ?_)
  obtain ⟨rfl, rfl, rfl⟩ := p1
  show SV E Γ 5 (mm (up2 ci 43 0 0) cl cr dy) nx 0 0 14 [(0, .ref 43), (1, .int q), (2, .int m), (3, .int z)] [.int (bI (II 0 3 q))]
  refine sv_if_eq (tgt := 29) hΓ dX12_length_14 (by decide) rfl (fun u2 => ?_) (fun u2 => ?_)
  · replace u2 := bI_0.mp u2
    refine sv_iconst (v := (-1)) hΓ dX12_length_29 (by decide) rfl ?_
    exact sv_iret hΓ hQ dX12_length_30 (Nat.le_of_ble_eq_true rfl) (Nat.le_of_ble_eq_true rfl) (Or.inl ⟨by grind, rfl, rfl, rfl⟩)
  · replace u2 := bI_ne.mp u2
    obtain ⟨k, hk0, hk3, ek⟩ := II.k u2
    refine sv_iload_n hΓ dX12_length_17 rfl 2 rfl rfl ?_
    refine sv_i2l hΓ dX12_length_18 rfl rfl ?_
    refine sv_lconst (v := 1) hΓ dX12_length_19 (by decide) rfl ?_
    refine sv_ldc2 hΓ dX12_length_20 tb_1129 rfl ?_
    refine sv_callS hΓ (fun l => ct_X12_isInI l m 1 8 1 8 (by decide) (by decide) rfl rfl) wv_X12_118 tb_1080 rfl rfl (by decide) (Nat.le_of_ble_eq_true rfl) (Nat.le_of_ble_eq_true rfl) (Nat.le_of_ble_eq_true rfl) dX12_length_23 rfl (fun r M' nx' p3 => ?_)
    obtain ⟨rfl, rfl, rfl⟩ := p3
    show SV E Γ 5 (mm (up2 ci 43 0 0) cl cr dy) nx 0 0 26 [(0, .ref 43), (1, .int q), (2, .int m), (3, .int z)] [.int (bI (II 1 8 m))]
    refine sv_if_ne (tgt := 31) hΓ dX12_length_26 (by decide) rfl (fun u4 => ?_) (fun u4 => ?_)
    · replace u4 := bI_ne.mp u4
      refine sv_aload_n hΓ dX12_length_31 rfl 0 rfl rfl ?_
      refine g_X12_29_43 hΓ dX12_length_32 rfl ?_
      refine sv_iload_n hΓ dX12_length_35 rfl 1 rfl rfl ?_
      refine ai_50 hΓ (k) ek (by omega) dX12_length_36 rfl ?_
      refine sv_istore (lv' := [(4, .int (ci 50 k)), (0, .ref 43), (1, .int q), (2, .int m), (3, .int z)]) hΓ dX12_length_37 (by decide) rfl rfl ?_
      refine sv_aload_n hΓ dX12_length_39 rfl 1 rfl rfl ?_
      refine g_X12_29_43 hΓ dX12_length_40 rfl ?_
      refine sv_iload_n hΓ dX12_length_43 rfl 2 rfl rfl ?_
      refine sv_iload_n hΓ dX12_length_44 rfl 3 rfl rfl ?_
      refine as_50 hΓ (k) ek (by omega) dX12_length_45 rfl ?_
      refine sv_aload_n hΓ dX12_length_46 rfl 1 rfl rfl ?_
      refine g_X12_32_43 hΓ dX12_length_47 rfl ?_
      refine sv_iload_n hΓ dX12_length_50 rfl 2 rfl rfl ?_
      refine sv_iload_n hΓ dX12_length_51 rfl 4 rfl rfl ?_
      refine ab_51 hΓ (k) ek (by omega) dX12_length_52 (nb_01 hz) rfl ?_
      refine sv_aload_n hΓ dX12_length_53 rfl 1 rfl rfl ?_
      refine sv_callV hΓ (fun l => ct_X12_changed l  ) wv_X12_113 vs_X12_changed rfl m_43 rfl rfl (by decide) (Nat.le_of_ble_eq_true rfl) (Nat.le_of_ble_eq_true rfl) (Nat.le_of_ble_eq_true rfl) dX12_length_54 rfl (fun r M' nx' p5 => ?_)
      obtain ⟨rfl, rfl, rfl⟩ := p5
      show SV E Γ 5 (mm (up2 (up2 (up2 (up2 (up2 ci 43 0 0) 50 k m) 51 k z) 43 13 0) 43 19 0) cl cr dy) nx 0 0 57 [(4, .int (ci 50 k)), (0, .ref 43), (1, .int q), (2, .int m), (3, .int z)] []
      refine sv_iload hΓ dX12_length_57 0 rfl rfl ?_
      exact sv_iret hΓ hQ dX12_length_59 (Nat.le_of_ble_eq_true rfl) (Nat.le_of_ble_eq_true rfl) (Or.inr ⟨⟨u2, u4⟩, by rw [ek, nI_clamp (by omega)], by rw [ek, nI_clamp (by omega)], rfl⟩)
    · replace u4 := bI_0.mp u4
      refine sv_iconst (v := (-1)) hΓ dX12_length_29 (by decide) rfl ?_
      exact sv_iret hΓ hQ dX12_length_30 (Nat.le_of_ble_eq_true rfl) (Nat.le_of_ble_eq_true rfl) (Or.inl ⟨by grind, rfl, rfl, rfl⟩)
set_option maxRecDepth 100000 in
set_option maxHeartbeats 4000000 in
/-- feed -/
theorem ct_X12_feed {E : aG} (l : Launch) (q : Int32) (v : Int64) {ci : Nat → Nat → Int32} {cl : Nat → Nat → Int64} {cr : Nat → Nat → Option Nat} {dy : aM} {nx : Nat} (hfd : ∀ k, k < 4 → ∃ f, f ≤ 20 ∧ ci 52 k = nI f) : CT E l yX12_feed cX12_feed 4 (some .int) 1 [.ref 43, .int q, .long v] (mm ci cl cr dy) nx 0 0 (fun r M' nx' => (¬ II 0 3 q ∧ r = some (.int (-1)) ∧ M' = mm (up2 ci 43 0 0) cl cr dy ∧ nx = nx') ∨ (∃ k f, k ≤ 3 ∧ q = nI k ∧ f ≤ 20 ∧ ci 52 k = nI f ∧ ((f = 20 ∧ r = some (.int (-2)) ∧ M' = mm (up2 ci 43 0 0) cl cr dy ∧ nx = nx') ∨ (f < 20 ∧ r = some (.int (nI (f + 1))) ∧ M' = mm (up2 (up2 ci 43 0 0) 52 k (nI (f + 1))) (up2 cl 53 (20 * k + f) v) cr dy ∧ nx = nx')))) := by
  refine CT_intro (by decide) (Nat.le_of_ble_eq_true rfl) (fun Γ hΓ hQ => ?_)
  replace hΓ : CK E RX12 cX12_feed 4 (some .int) "feed" 1 0 0 Γ := hΓ
  show SV E Γ 4 (mm ci cl cr dy) nx 0 0 0 [(0, .ref 43), (1, .int q), (2, .long v)] []
  refine sv_aload_n hΓ dX12_feed_0 rfl 0 rfl rfl ?_
  refine sv_iconst (v := 0) hΓ dX12_feed_1 (by decide) rfl ?_
  refine p_X12_99_43 hΓ dX12_feed_2 rfl ?_
  refine sv_iload_n hΓ dX12_feed_5 rfl 1 rfl rfl ?_
  refine sv_i2l hΓ dX12_feed_6 rfl rfl ?_
  refine sv_lconst (v := 0) hΓ dX12_feed_7 (by decide) rfl ?_
  refine sv_ldc2 hΓ dX12_feed_8 tb_1097 rfl ?_
  refine sv_callS hΓ (fun l => ct_X12_isInI l q 0 3 0 3 (by decide) (by decide) rfl rfl) wv_X12_118 tb_1080 rfl rfl (by decide) (Nat.le_of_ble_eq_true rfl) (Nat.le_of_ble_eq_true rfl) (Nat.le_of_ble_eq_true rfl) dX12_feed_11 rfl (fun r M' nx' p1 => ?_)
  obtain ⟨rfl, rfl, rfl⟩ := p1
  show SV E Γ 4 (mm (up2 ci 43 0 0) cl cr dy) nx 0 0 14 [(0, .ref 43), (1, .int q), (2, .long v)] [.int (bI (II 0 3 q))]
  refine sv_if_ne (tgt := 19) hΓ dX12_feed_14 (by decide) rfl (fun u2 => ?_) (fun u2 => ?_)
  · replace u2 := bI_ne.mp u2
    obtain ⟨k, hk0, hk3, ek⟩ := II.k u2
    obtain ⟨f, hf, ef⟩ := hfd k (by omega)
    subst ek
    refine sv_aload_n hΓ dX12_feed_19 rfl 0 rfl rfl ?_
    refine g_X12_36_43 hΓ dX12_feed_20 rfl ?_
    refine sv_iload_n hΓ dX12_feed_23 rfl 1 rfl rfl ?_
    refine ai_52 hΓ (k) rfl (by omega) dX12_feed_24 rfl ?_
    refine sv_bipush (v := 20) hΓ dX12_feed_25 (by decide) rfl ?_
    refine sv_icmp_ne (tgt := 33) hΓ dX12_feed_27 (by decide) rfl (fun u3 => ?_) (fun u3 => ?_)
    · replace u3 : ¬ ((ci 52 k) : Int32) = 20 := u3
      replace u3 : f < 20 := Nat.lt_of_le_of_ne hf (fun e => u3 (by rw [ef, e]; rfl))
      refine sv_aload_n hΓ dX12_feed_33 rfl 0 rfl rfl ?_
      refine g_X12_39_43 hΓ dX12_feed_34 rfl ?_
      refine sv_bipush (v := 20) hΓ dX12_feed_37 (by decide) rfl ?_
      refine sv_iload_n hΓ dX12_feed_39 rfl 1 rfl rfl ?_
      refine sv_imulE (v := nI (20 * k)) hΓ dX12_feed_40 (nx_mul rfl rfl) rfl ?_
      refine sv_aload_n hΓ dX12_feed_41 rfl 0 rfl rfl ?_
      refine g_X12_36_43 hΓ dX12_feed_42 rfl ?_
      refine sv_iload_n hΓ dX12_feed_45 rfl 1 rfl rfl ?_
      refine ai_52 hΓ (k) rfl (by omega) dX12_feed_46 rfl ?_
      refine sv_iaddE (v := nI (20 * k + f)) hΓ dX12_feed_47 (nx_add rfl ef) rfl ?_
      refine sv_lload_n hΓ dX12_feed_48 rfl 2 rfl rfl ?_
      refine at_53 hΓ (20 * k + f) rfl (by omega) dX12_feed_49 rfl ?_
      refine sv_aload_n hΓ dX12_feed_50 rfl 0 rfl rfl ?_
      refine g_X12_36_43 hΓ dX12_feed_51 rfl ?_
      refine sv_iload_n hΓ dX12_feed_54 rfl 1 rfl rfl ?_
      refine sv_dup2 hΓ dX12_feed_55 rfl rfl rfl ?_
      refine ai_52 hΓ (k) rfl (by omega) dX12_feed_56 rfl ?_
      refine sv_iconst (v := 1) hΓ dX12_feed_57 (by decide) rfl ?_
      refine sv_iaddE (v := nI (f + 1)) hΓ dX12_feed_58 (nx_add ef rfl) rfl ?_
      refine as_52 hΓ (k) rfl (by omega) dX12_feed_59 rfl ?_
      refine sv_aload_n hΓ dX12_feed_60 rfl 0 rfl rfl ?_
      refine g_X12_36_43 hΓ dX12_feed_61 rfl ?_
      refine sv_iload_n hΓ dX12_feed_64 rfl 1 rfl rfl ?_
      refine ai_52 hΓ (k) rfl (by omega) dX12_feed_65 rfl ?_
      show SV E Γ 4 (mm (up2 (up2 ci 43 0 0) 52 k (nI (f + 1))) (up2 cl 53 (20 * k + f) v) cr dy) nx 0 0 66 [(0, .ref 43), (1, .int (nI k)), (2, .long v)] [.int ((up2 (up2 ci 43 0 0) 52 k (nI (f + 1))) 52 k)]
      rw [up2_s]
      exact sv_iret hΓ hQ dX12_feed_66 (Nat.le_of_ble_eq_true rfl) (Nat.le_of_ble_eq_true rfl) (Or.inr ⟨k, f, hk3, rfl, hf, ef, Or.inr ⟨u3, rfl, rfl, rfl⟩⟩)
    · replace u3 : ((ci 52 k) : Int32) = 20 := u3
      refine sv_bipush (v := (-2)) hΓ dX12_feed_30 (by decide) rfl ?_
      exact sv_iret hΓ hQ dX12_feed_32 (Nat.le_of_ble_eq_true rfl) (Nat.le_of_ble_eq_true rfl) (Or.inr ⟨k, f, hk3, rfl, hf, ef, Or.inl ⟨(nI_eq (b := 20) (by omega) (by decide)).mp (ef ▸ u3), rfl, rfl, rfl⟩⟩)
  · replace u2 := bI_0.mp u2
    refine sv_iconst (v := (-1)) hΓ dX12_feed_17 (by decide) rfl ?_
    exact sv_iret hΓ hQ dX12_feed_18 (Nat.le_of_ble_eq_true rfl) (Nat.le_of_ble_eq_true rfl) (Or.inl ⟨u2, rfl, rfl, rfl⟩)
set_option maxRecDepth 100000 in
set_option maxHeartbeats 4000000 in
/-- place -/
theorem ct_X12_place {E : aG} (l : Launch) (q : Int32) (v : Int64) {ci : Nat → Nat → Int32} {cl : Nat → Nat → Int64} {cr : Nat → Nat → Option Nat} {dy : aM} {nx : Nat}  : CT E l yX12_place cX12_place 4 (some .int) 1 [.ref 43, .int q, .long v] (mm ci cl cr dy) nx 0 0 (fun r M' nx' => (¬ (II 0 15 q) ∧ r = some (.int (-1)) ∧ M' = mm (up2 ci 43 0 0) cl cr dy ∧ nx = nx') ∨ ((II 0 15 q) ∧ r = some (.int (0)) ∧ M' = mm (up2 ci 43 0 0) (up2 cl 54 q.toNatClampNeg v) cr dy ∧ nx = nx')) := by
  refine CT_intro (by decide) (Nat.le_of_ble_eq_true rfl) (fun Γ hΓ hQ => ?_)
  replace hΓ : CK E RX12 cX12_place 4 (some .int) "place" 1 0 0 Γ := hΓ
  show SV E Γ 4 (mm ci cl cr dy) nx 0 0 0 [(0, .ref 43), (1, .int q), (2, .long v)] []
  refine sv_aload_n hΓ dX12_place_0 rfl 0 rfl rfl ?_
  refine sv_iconst (v := 0) hΓ dX12_place_1 (by decide) rfl ?_
  refine p_X12_99_43 hΓ dX12_place_2 rfl ?_
  refine sv_iload_n hΓ dX12_place_5 rfl 1 rfl rfl ?_
  refine sv_i2l hΓ dX12_place_6 rfl rfl ?_
  refine sv_lconst (v := 0) hΓ dX12_place_7 (by decide) rfl ?_
  refine sv_ldc2 hΓ dX12_place_8 tb_1138 rfl ?_
  refine sv_callS hΓ (fun l => ct_X12_isInI l q 0 15 0 15 (by decide) (by decide) rfl rfl) wv_X12_118 tb_1080 rfl rfl (by decide) (Nat.le_of_ble_eq_true rfl) (Nat.le_of_ble_eq_true rfl) (Nat.le_of_ble_eq_true rfl) dX12_place_11 rfl (fun r M' nx' p1 => ?_)
  obtain ⟨rfl, rfl, rfl⟩ := p1
  show SV E Γ 4 (mm (up2 ci 43 0 0) cl cr dy) nx 0 0 14 [(0, .ref 43), (1, .int q), (2, .long v)] [.int (bI (II 0 15 q))]
  refine sv_if_ne (tgt := 19) hΓ dX12_place_14 (by decide) rfl (fun u2 => ?_) (fun u2 => ?_)
  · replace u2 := bI_ne.mp u2
    obtain ⟨k, hk0, hk3, ek⟩ := II.k u2
    refine sv_aload_n hΓ dX12_place_19 rfl 0 rfl rfl ?_
    refine g_X12_42_43 hΓ dX12_place_20 rfl ?_
    refine sv_iload_n hΓ dX12_place_23 rfl 1 rfl rfl ?_
    refine sv_lload_n hΓ dX12_place_24 rfl 2 rfl rfl ?_
    refine at_54 hΓ (k) ek (by omega) dX12_place_25 rfl ?_
    refine sv_iconst (v := 0) hΓ dX12_place_26 (by decide) rfl ?_
    exact sv_iret hΓ hQ dX12_place_27 (Nat.le_of_ble_eq_true rfl) (Nat.le_of_ble_eq_true rfl) (Or.inr ⟨u2, rfl, by rw [ek, nI_clamp (by omega)], rfl⟩)
  · replace u2 := bI_0.mp u2
    refine sv_iconst (v := (-1)) hΓ dX12_place_17 (by decide) rfl ?_
    exact sv_iret hΓ hQ dX12_place_18 (Nat.le_of_ble_eq_true rfl) (Nat.le_of_ble_eq_true rfl) (Or.inl ⟨u2, rfl, rfl, rfl⟩)
