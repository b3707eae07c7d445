set_option maxRecDepth 100000 in
set_option maxHeartbeats 4000000 in
/-- isIn -/
theorem ct_X12_isIn {E : aG} (l : Launch) (v : Int64) (lo : Int64) (hi : Int64) {ci : Nat → Nat → Int32} {cl : Nat → Nat → Int64} {cr : Nat → Nat → Option Nat} {dy : aM} {nx : Nat}  : CT E l yX12_isIn cX12_isIn 6 (some .boolean) 0 [.long v, .long lo, .long hi] (mm ci cl cr dy) nx 0 0 (fun r M' nx' => r = some (.int (bI (¬ v < lo ∧ ¬ hi < v))) ∧ M' = mm ci cl cr dy ∧ nx = nx') := by
  refine CT_intro (by decide) (Nat.le_of_ble_eq_true rfl) (fun Γ hΓ hQ => ?_)
  replace hΓ : CK E RX12 cX12_isIn 6 (some .boolean) "isIn" 0 0 0 Γ := hΓ
  show SV E Γ 6 (mm ci cl cr dy) nx 0 0 0 [(0, .long v), (2, .long lo), (4, .long hi)] []
  refine sv_lload_n hΓ dX12_isIn_0 rfl 0 rfl rfl ?_
  refine sv_lload_n hΓ dX12_isIn_1 rfl 1 rfl rfl ?_
  refine sv_lcmp hΓ dX12_isIn_2 rfl ?_
  refine sv_if_lt (tgt := 17) hΓ dX12_isIn_3 (by decide) rfl (fun u1 => ?_) (fun u1 => ?_)
  · replace u1 := lgc_lt.mp u1
    refine sv_iconst (v := 0) hΓ dX12_isIn_17 (by decide) rfl ?_
    exact sv_zret hΓ hQ dX12_isIn_18 (Nat.le_of_ble_eq_true rfl) (Nat.le_of_ble_eq_true rfl) rfl ⟨by simp [bI, u1], rfl, rfl⟩
  · replace u1 := mt lgc_lt.mpr u1
    refine sv_lload_n hΓ dX12_isIn_6 rfl 0 rfl rfl ?_
    refine sv_lload hΓ dX12_isIn_7 2 rfl rfl ?_
    refine sv_lcmp hΓ dX12_isIn_9 rfl ?_
    refine sv_if_gt (tgt := 17) hΓ dX12_isIn_10 (by decide) rfl (fun u2 => ?_) (fun u2 => ?_)
    · replace u2 := lgc_gt.mp u2
      refine sv_iconst (v := 0) hΓ dX12_isIn_17 (by decide) rfl ?_
      exact sv_zret hΓ hQ dX12_isIn_18 (Nat.le_of_ble_eq_true rfl) (Nat.le_of_ble_eq_true rfl) rfl ⟨by simp [bI, u1, u2], rfl, rfl⟩
    · replace u2 := mt lgc_gt.mpr u2
      refine sv_iconst (v := 1) hΓ dX12_isIn_13 (by decide) rfl ?_
      refine sv_goto (pc' := 18) hΓ dX12_isIn_14 (by decide) ?_
      exact sv_zret hΓ hQ dX12_isIn_18 (Nat.le_of_ble_eq_true rfl) (Nat.le_of_ble_eq_true rfl) rfl ⟨by simp [bI, u1, u2], rfl, rfl⟩
set_option maxRecDepth 100000 in
set_option maxHeartbeats 4000000 in
/-- isAct -/
theorem ct_X12_isAct {E : aG} (l : Launch) (a : Int32) {ci : Nat → Nat → Int32} {cl : Nat → Nat → Int64} {cr : Nat → Nat → Option Nat} {dy : aM} {nx : Nat}  : CT E l yX12_isAct cX12_isAct 2 (some .boolean) 0 [.ref 43, .int a] (mm ci cl cr dy) nx 0 0 (fun r M' nx' => r = some (.int (bI (¬ a < 0 ∧ ¬ ci 43 1 ≤ a))) ∧ M' = mm ci cl cr dy ∧ nx = nx') := by
  refine CT_intro (by decide) (Nat.le_of_ble_eq_true rfl) (fun Γ hΓ hQ => ?_)
  replace hΓ : CK E RX12 cX12_isAct 2 (some .boolean) "isAct" 0 0 0 Γ := hΓ
  show SV E Γ 2 (mm ci cl cr dy) nx 0 0 0 [(0, .ref 43), (1, .int a)] []
  refine sv_iload_n hΓ dX12_isAct_0 rfl 1 rfl rfl ?_
  refine sv_if_lt (tgt := 16) hΓ dX12_isAct_1 (by decide) rfl (fun u1 => ?_) (fun u1 => ?_)
  · refine sv_iconst (v := 0) hΓ dX12_isAct_16 (by decide) rfl ?_
    exact sv_zret hΓ hQ dX12_isAct_17 (Nat.le_of_ble_eq_true rfl) (Nat.le_of_ble_eq_true rfl) rfl ⟨by simp [bI, u1], rfl, rfl⟩
  · refine sv_iload_n hΓ dX12_isAct_4 rfl 1 rfl rfl ?_
    refine sv_aload_n hΓ dX12_isAct_5 rfl 0 rfl rfl ?_
    refine g_X12_103_43 hΓ dX12_isAct_6 rfl ?_
    refine sv_icmp_ge (tgt := 16) hΓ dX12_isAct_9 (by decide) rfl (fun u2 => ?_) (fun u2 => ?_)
    · refine sv_iconst (v := 0) hΓ dX12_isAct_16 (by decide) rfl ?_
      exact sv_zret hΓ hQ dX12_isAct_17 (Nat.le_of_ble_eq_true rfl) (Nat.le_of_ble_eq_true rfl) rfl ⟨by simp [bI, u1, u2], rfl, rfl⟩
    · refine sv_iconst (v := 1) hΓ dX12_isAct_12 (by decide) rfl ?_
      refine sv_goto (pc' := 17) hΓ dX12_isAct_13 (by decide) ?_
      exact sv_zret hΓ hQ dX12_isAct_17 (Nat.le_of_ble_eq_true rfl) (Nat.le_of_ble_eq_true rfl) rfl ⟨by simp [bI, u1, u2], rfl, rfl⟩
set_option maxRecDepth 100000 in
set_option maxHeartbeats 4000000 in
/-- cut -/
theorem ct_X12_cut {E : aG} (l : Launch) (v : Int64) (w : Int32) {ci : Nat → Nat → Int32} {cl : Nat → Nat → Int64} {cr : Nat → Nat → Option Nat} {dy : aM} {nx : Nat}  : CT E l yX12_cut cX12_cut 3 (some .long) 0 [.long v, .int w] (mm ci cl cr dy) nx 0 0 (fun r M' nx' => r = some (.long (v <<< ((64 - w).toInt64 &&& 63) >>> ((64 - w).toInt64 &&& 63))) ∧ M' = mm ci cl cr dy ∧ nx = nx') := by
  refine CT_intro (by decide) (Nat.le_of_ble_eq_true rfl) (fun Γ hΓ hQ => ?_)
  replace hΓ : CK E RX12 cX12_cut 3 (some .long) "cut" 0 0 0 Γ := hΓ
  show SV E Γ 3 (mm ci cl cr dy) nx 0 0 0 [(0, .long v), (2, .int w)] []
  refine sv_lload_n hΓ dX12_cut_0 rfl 0 rfl rfl ?_
  refine sv_bipush (v := 64) hΓ dX12_cut_1 (by decide) rfl ?_
  refine sv_iload_n hΓ dX12_cut_3 rfl 1 rfl rfl ?_
  refine sv_isub hΓ dX12_cut_4 rfl ?_
  refine sv_lshl hΓ dX12_cut_5 rfl rfl ?_
  refine sv_bipush (v := 64) hΓ dX12_cut_6 (by decide) rfl ?_
  refine sv_iload_n hΓ dX12_cut_8 rfl 1 rfl rfl ?_
  refine sv_isub hΓ dX12_cut_9 rfl ?_
  refine sv_lshr hΓ dX12_cut_10 rfl rfl ?_
  exact sv_lret hΓ hQ dX12_cut_11 (Nat.le_of_ble_eq_true rfl) (Nat.le_of_ble_eq_true rfl) ⟨rfl, rfl, rfl⟩
set_option maxRecDepth 100000 in
set_option maxHeartbeats 4000000 in
/-- changed -/
theorem ct_X12_changed {E : aG} (l : Launch)  {ci : Nat → Nat → Int32} {cl : Nat → Nat → Int64} {cr : Nat → Nat → Option Nat} {dy : aM} {nx : Nat}  : CT E l yX12_changed cX12_changed 1 none 0 [.ref 43] (mm ci cl cr dy) nx 0 0 (fun r M' nx' => r = none ∧ M' = mm (up2 (up2 ci 43 13 0) 43 19 0) cl cr dy ∧ nx = nx') := by
  refine CT_intro (by decide) (Nat.le_of_ble_eq_true rfl) (fun Γ hΓ hQ => ?_)
  replace hΓ : CK E RX12 cX12_changed 1 none "changed" 0 0 0 Γ := hΓ
  show SV E Γ 1 (mm ci cl cr dy) nx 0 0 0 [(0, .ref 43)] []
  refine sv_aload_n hΓ dX12_changed_0 rfl 0 rfl rfl ?_
  refine sv_iconst (v := 0) hΓ dX12_changed_1 (by decide) rfl ?_
  refine p_X12_106_43 hΓ ⟨rfl, rfl⟩ dX12_changed_2 rfl ?_
  refine sv_aload_n hΓ dX12_changed_5 rfl 0 rfl rfl ?_
  refine sv_iconst (v := 0) hΓ dX12_changed_6 (by decide) rfl ?_
  refine p_X12_110_43 hΓ ⟨rfl, rfl⟩ dX12_changed_7 rfl ?_
  exact sv_vret hΓ hQ dX12_changed_10 (Nat.le_of_ble_eq_true rfl) (Nat.le_of_ble_eq_true rfl) ⟨rfl, rfl, rfl⟩
set_option maxRecDepth 100000 in
set_option maxHeartbeats 4000000 in
/-- thrown -/
theorem ct_X12_thrown {E : aG} (l : Launch)  {ci : Nat → Nat → Int32} {cl : Nat → Nat → Int64} {cr : Nat → Nat → Option Nat} {dy : aM} {nx : Nat}  : CT E l yX12_thrown cX12_thrown 1 (some .int) 0 [.ref 43] (mm ci cl cr dy) nx 0 0 (fun r M' nx' => r = some (.int (ci 43 0)) ∧ M' = mm ci cl cr dy ∧ nx = nx') := by
  refine CT_intro (by decide) (Nat.le_of_ble_eq_true rfl) (fun Γ hΓ hQ => ?_)
  replace hΓ : CK E RX12 cX12_thrown 1 (some .int) "thrown" 0 0 0 Γ := hΓ
  show SV E Γ 1 (mm ci cl cr dy) nx 0 0 0 [(0, .ref 43)] []
  refine sv_aload_n hΓ dX12_thrown_0 rfl 0 rfl rfl ?_
  refine g_X12_99_43 hΓ dX12_thrown_1 rfl ?_
  exact sv_iret hΓ hQ dX12_thrown_4 (Nat.le_of_ble_eq_true rfl) (Nat.le_of_ble_eq_true rfl) ⟨rfl, rfl, rfl⟩
set_option maxRecDepth 100000 in
set_option maxHeartbeats 4000000 in
/-- kindOf -/
theorem ct_X12_kindOf {E : aG} (l : Launch) (a : Nat) {ci : Nat → Nat → Int32} {cl : Nat → Nat → Int64} {cr : Nat → Nat → Option Nat} {dy : aM} {nx : Nat} (ha : a < 16) : CT E l yX12_kindOf cX12_kindOf 2 (some .int) 0 [.ref 43, .int (nI a)] (mm ci cl cr dy) nx 0 0 (fun r M' nx' => r = some (.int (kd (ci 44 a))) ∧ M' = mm ci cl cr dy ∧ nx = nx') := by
  refine CT_intro (by decide) (Nat.le_of_ble_eq_true rfl) (fun Γ hΓ hQ => ?_)
  replace hΓ : CK E RX12 cX12_kindOf 2 (some .int) "kindOf" 0 0 0 Γ := hΓ
  show SV E Γ 2 (mm ci cl cr dy) nx 0 0 0 [(0, .ref 43), (1, .int (nI a))] []
  refine sv_aload_n hΓ dX12_kindOf_0 rfl 0 rfl rfl ?_
  refine g_X12_7_43 hΓ dX12_kindOf_1 rfl ?_
  refine sv_iload_n hΓ dX12_kindOf_4 rfl 1 rfl rfl ?_
  refine ai_44 hΓ (a) rfl (by omega) dX12_kindOf_5 rfl ?_
  refine sv_table (x := ci 44 a) (lo := 2) (hi := 9) 7 rfl (fun u1 => ?_) (fun k hk u1 => ?_)
  · refine sv_tableOut (pc' := 60) hΓ dX12_kindOf_6 u1 (by decide) ?_
    refine sv_bipush (v := (-2)) hΓ dX12_kindOf_60 (by decide) rfl ?_
    exact sv_iret hΓ hQ dX12_kindOf_62 (Nat.le_of_ble_eq_true rfl) (Nat.le_of_ble_eq_true rfl) ⟨by rw [kd_out u1], rfl, rfl⟩
  · obtain rfl | rfl | rfl | rfl | rfl | rfl | rfl | rfl : k = 0 ∨ k = 1 ∨ k = 2 ∨ k = 3 ∨ k = 4 ∨ k = 5 ∨ k = 6 ∨ k = 7 := by omega
    · refine sv_tableIn (off := 46) (pc' := 52) hΓ dX12_kindOf_6 (by omega) (by omega) (by rw [u1]; rfl) (by decide) ?_
      replace u1 : ci 44 a = (2 : Int32) := Int32.toInt_inj.mp (u1.trans (by decide))
      refine sv_iconst (v := 0) hΓ dX12_kindOf_52 (by decide) rfl ?_
      exact sv_iret hΓ hQ dX12_kindOf_53 (Nat.le_of_ble_eq_true rfl) (Nat.le_of_ble_eq_true rfl) ⟨by rw [u1]; rfl, rfl, rfl⟩
    · refine sv_tableIn (off := 46) (pc' := 52) hΓ dX12_kindOf_6 (by omega) (by omega) (by rw [u1]; rfl) (by decide) ?_
      replace u1 : ci 44 a = (3 : Int32) := Int32.toInt_inj.mp (u1.trans (by decide))
      refine sv_iconst (v := 0) hΓ dX12_kindOf_52 (by decide) rfl ?_
      exact sv_iret hΓ hQ dX12_kindOf_53 (Nat.le_of_ble_eq_true rfl) (Nat.le_of_ble_eq_true rfl) ⟨by rw [u1]; rfl, rfl, rfl⟩
    · refine sv_tableIn (off := 48) (pc' := 54) hΓ dX12_kindOf_6 (by omega) (by omega) (by rw [u1]; rfl) (by decide) ?_
      replace u1 : ci 44 a = (4 : Int32) := Int32.toInt_inj.mp (u1.trans (by decide))
      refine sv_iconst (v := 1) hΓ dX12_kindOf_54 (by decide) rfl ?_
      exact sv_iret hΓ hQ dX12_kindOf_55 (Nat.le_of_ble_eq_true rfl) (Nat.le_of_ble_eq_true rfl) ⟨by rw [u1]; rfl, rfl, rfl⟩
    · refine sv_tableIn (off := 50) (pc' := 56) hΓ dX12_kindOf_6 (by omega) (by omega) (by rw [u1]; rfl) (by decide) ?_
      replace u1 : ci 44 a = (5 : Int32) := Int32.toInt_inj.mp (u1.trans (by decide))
      refine sv_iconst (v := 2) hΓ dX12_kindOf_56 (by decide) rfl ?_
      exact sv_iret hΓ hQ dX12_kindOf_57 (Nat.le_of_ble_eq_true rfl) (Nat.le_of_ble_eq_true rfl) ⟨by rw [u1]; rfl, rfl, rfl⟩
    · refine sv_tableIn (off := 46) (pc' := 52) hΓ dX12_kindOf_6 (by omega) (by omega) (by rw [u1]; rfl) (by decide) ?_
      replace u1 : ci 44 a = (6 : Int32) := Int32.toInt_inj.mp (u1.trans (by decide))
      refine sv_iconst (v := 0) hΓ dX12_kindOf_52 (by decide) rfl ?_
      exact sv_iret hΓ hQ dX12_kindOf_53 (Nat.le_of_ble_eq_true rfl) (Nat.le_of_ble_eq_true rfl) ⟨by rw [u1]; rfl, rfl, rfl⟩
    · refine sv_tableIn (off := 54) (pc' := 60) hΓ dX12_kindOf_6 (by omega) (by omega) (by rw [u1]; rfl) (by decide) ?_
      replace u1 : ci 44 a = (7 : Int32) := Int32.toInt_inj.mp (u1.trans (by decide))
      refine sv_bipush (v := (-2)) hΓ dX12_kindOf_60 (by decide) rfl ?_
      exact sv_iret hΓ hQ dX12_kindOf_62 (Nat.le_of_ble_eq_true rfl) (Nat.le_of_ble_eq_true rfl) ⟨by rw [u1]; rfl, rfl, rfl⟩
    · refine sv_tableIn (off := 52) (pc' := 58) hΓ dX12_kindOf_6 (by omega) (by omega) (by rw [u1]; rfl) (by decide) ?_
      replace u1 : ci 44 a = (8 : Int32) := Int32.toInt_inj.mp (u1.trans (by decide))
      refine sv_iconst (v := 3) hΓ dX12_kindOf_58 (by decide) rfl ?_
      exact sv_iret hΓ hQ dX12_kindOf_59 (Nat.le_of_ble_eq_true rfl) (Nat.le_of_ble_eq_true rfl) ⟨by rw [u1]; rfl, rfl, rfl⟩
    · refine sv_tableIn (off := 52) (pc' := 58) hΓ dX12_kindOf_6 (by omega) (by omega) (by rw [u1]; rfl) (by decide) ?_
      replace u1 : ci 44 a = (9 : Int32) := Int32.toInt_inj.mp (u1.trans (by decide))
      refine sv_iconst (v := 3) hΓ dX12_kindOf_58 (by decide) rfl ?_
      exact sv_iret hΓ hQ dX12_kindOf_59 (Nat.le_of_ble_eq_true rfl) (Nat.le_of_ble_eq_true rfl) ⟨by rw [u1]; rfl, rfl, rfl⟩
set_option maxRecDepth 100000 in
set_option maxHeartbeats 4000000 in
/-- lesser -/
theorem ct_X12_lesser {E : aG} (l : Launch) (a : Int64) (b : Int64) {ci : Nat → Nat → Int32} {cl : Nat → Nat → Int64} {cr : Nat → Nat → Option Nat} {dy : aM} {nx : Nat}  : CT E l yX12_lesser cX12_lesser 4 (some .long) 0 [.long a, .long b] (mm ci cl cr dy) nx 0 0 (fun r M' nx' => r = some (.long (if b ≤ a then b else a)) ∧ M' = mm ci cl cr dy ∧ nx = nx') := by
  refine CT_intro (by decide) (Nat.le_of_ble_eq_true rfl) (fun Γ hΓ hQ => ?_)
  replace hΓ : CK E RX12 cX12_lesser 4 (some .long) "lesser" 0 0 0 Γ := hΓ
  show SV E Γ 4 (mm ci cl cr dy) nx 0 0 0 [(0, .long a), (2, .long b)] []
  refine sv_lload_n hΓ dX12_lesser_0 rfl 0 rfl rfl ?_
  refine sv_lload_n hΓ dX12_lesser_1 rfl 1 rfl rfl ?_
  refine sv_lcmp hΓ dX12_lesser_2 rfl ?_
  refine sv_if_ge (tgt := 10) hΓ dX12_lesser_3 (by decide) rfl (fun u1 => ?_) (fun u1 => ?_)
  · replace u1 := lgc_ge.mp u1
    refine sv_lload_n hΓ dX12_lesser_10 rfl 1 rfl rfl ?_
    exact sv_lret hΓ hQ dX12_lesser_11 (Nat.le_of_ble_eq_true rfl) (Nat.le_of_ble_eq_true rfl) ⟨by rw [if_pos u1], rfl, rfl⟩
  · replace u1 := mt lgc_ge.mpr u1
    refine sv_lload_n hΓ dX12_lesser_6 rfl 0 rfl rfl ?_
    refine sv_goto (pc' := 11) hΓ dX12_lesser_7 (by decide) ?_
    exact sv_lret hΓ hQ dX12_lesser_11 (Nat.le_of_ble_eq_true rfl) (Nat.le_of_ble_eq_true rfl) ⟨by rw [if_neg u1], rfl, rfl⟩
set_option maxRecDepth 100000 in
set_option maxHeartbeats 4000000 in
/-- greater -/
theorem ct_X12_greater {E : aG} (l : Launch) (a : Int64) (b : Int64) {ci : Nat → Nat → Int32} {cl : Nat → Nat → Int64} {cr : Nat → Nat → Option Nat} {dy : aM} {nx : Nat}  : CT E l yX12_greater cX12_greater 4 (some .long) 0 [.long a, .long b] (mm ci cl cr dy) nx 0 0 (fun r M' nx' => r = some (.long (if a ≤ b then b else a)) ∧ M' = mm ci cl cr dy ∧ nx = nx') := by
  refine CT_intro (by decide) (Nat.le_of_ble_eq_true rfl) (fun Γ hΓ hQ => ?_)
  replace hΓ : CK E RX12 cX12_greater 4 (some .long) "greater" 0 0 0 Γ := hΓ
  show SV E Γ 4 (mm ci cl cr dy) nx 0 0 0 [(0, .long a), (2, .long b)] []
  refine sv_lload_n hΓ dX12_greater_0 rfl 0 rfl rfl ?_
  refine sv_lload_n hΓ dX12_greater_1 rfl 1 rfl rfl ?_
  refine sv_lcmp hΓ dX12_greater_2 rfl ?_
  refine sv_if_le (tgt := 10) hΓ dX12_greater_3 (by decide) rfl (fun u1 => ?_) (fun u1 => ?_)
  · replace u1 := lgc_le.mp u1
    refine sv_lload_n hΓ dX12_greater_10 rfl 1 rfl rfl ?_
    exact sv_lret hΓ hQ dX12_greater_11 (Nat.le_of_ble_eq_true rfl) (Nat.le_of_ble_eq_true rfl) ⟨by rw [if_pos u1], rfl, rfl⟩
  · replace u1 := mt lgc_le.mpr u1
    refine sv_lload_n hΓ dX12_greater_6 rfl 0 rfl rfl ?_
    refine sv_goto (pc' := 11) hΓ dX12_greater_7 (by decide) ?_
    exact sv_lret hΓ hQ dX12_greater_11 (Nat.le_of_ble_eq_true rfl) (Nat.le_of_ble_eq_true rfl) ⟨by rw [if_neg u1], rfl, rfl⟩
set_option maxRecDepth 100000 in
set_option maxHeartbeats 4000000 in
/-- lengthOf -/
theorem ct_X12_lengthOf {E : aG} (l : Launch) (a : Nat) {ci : Nat → Nat → Int32} {cl : Nat → Nat → Int64} {cr : Nat → Nat → Option Nat} {dy : aM} {nx : Nat} (ha : a < 16) : CT E l yX12_lengthOf cX12_lengthOf 3 (some .int) 1 [.ref 43, .int (nI a)] (mm ci cl cr dy) nx 0 0 (fun r M' nx' => r = some (.int (ln ci a)) ∧ M' = mm ci cl cr dy ∧ nx = nx') := by
  refine CT_intro (by decide) (Nat.le_of_ble_eq_true rfl) (fun Γ hΓ hQ => ?_)
  replace hΓ : CK E RX12 cX12_lengthOf 3 (some .int) "lengthOf" 1 0 0 Γ := hΓ
  show SV E Γ 3 (mm ci cl cr dy) nx 0 0 0 [(0, .ref 43), (1, .int (nI a))] []
  refine sv_aload_n hΓ dX12_lengthOf_0 rfl 0 rfl rfl ?_
  refine sv_iload_n hΓ dX12_lengthOf_1 rfl 1 rfl rfl ?_
  refine sv_callV hΓ (fun l => ct_X12_kindOf l a (by omega)) wv_X12_146 vs_X12_kindOf rfl m_43 rfl rfl (by decide) (Nat.le_of_ble_eq_true rfl) (Nat.le_of_ble_eq_true rfl) (Nat.le_of_ble_eq_true rfl) dX12_lengthOf_2 rfl (fun r M' nx' p1 => ?_)
  obtain ⟨rfl, rfl, rfl⟩ := p1
  show SV E Γ 3 (mm ci cl cr dy) nx 0 0 5 [(0, .ref 43), (1, .int (nI a))] [.int (kd (ci 44 a))]
  refine sv_istore_n (lv' := [(2, .int (kd (ci 44 a))), (0, .ref 43), (1, .int (nI a))]) hΓ dX12_lengthOf_5 rfl (by decide) rfl rfl ?_
  refine sv_iload_n hΓ dX12_lengthOf_6 rfl 0 rfl rfl ?_
  refine sv_if_lt (tgt := 19) hΓ dX12_lengthOf_7 (by decide) rfl (fun u2 => ?_) (fun u2 => ?_)
  · refine sv_aload_n hΓ dX12_lengthOf_19 rfl 1 rfl rfl ?_
    refine g_X12_7_43 hΓ dX12_lengthOf_20 rfl ?_
    refine sv_iload_n hΓ dX12_lengthOf_23 rfl 2 rfl rfl ?_
    refine ai_44 hΓ (a) rfl (by omega) dX12_lengthOf_24 rfl ?_
    refine sv_if_ne (tgt := 32) hΓ dX12_lengthOf_25 (by decide) rfl (fun u3 => ?_) (fun u3 => ?_)
    · refine sv_iconst (v := 1) hΓ dX12_lengthOf_32 (by decide) rfl ?_
      exact sv_iret hΓ hQ dX12_lengthOf_33 (Nat.le_of_ble_eq_true rfl) (Nat.le_of_ble_eq_true rfl) ⟨by simp only [ln]; rw [if_pos u2, if_neg u3], rfl, rfl⟩
    · refine sv_iconst (v := 0) hΓ dX12_lengthOf_28 (by decide) rfl ?_
      refine sv_goto (pc' := 33) hΓ dX12_lengthOf_29 (by decide) ?_
      exact sv_iret hΓ hQ dX12_lengthOf_33 (Nat.le_of_ble_eq_true rfl) (Nat.le_of_ble_eq_true rfl) ⟨by simp only [ln]; rw [if_pos u2, if_pos u3], rfl, rfl⟩
  · obtain ⟨k, hk, ek⟩ := kd_in _ u2
    refine sv_aload_n hΓ dX12_lengthOf_10 rfl 1 rfl rfl ?_
    refine g_X12_29_43 hΓ dX12_lengthOf_11 rfl ?_
    refine sv_iload_n hΓ dX12_lengthOf_14 rfl 0 rfl rfl ?_
    refine ai_50 hΓ (k) ek hk dX12_lengthOf_15 rfl ?_
    refine sv_goto (pc' := 33) hΓ dX12_lengthOf_16 (by decide) ?_
    exact sv_iret hΓ hQ dX12_lengthOf_33 (Nat.le_of_ble_eq_true rfl) (Nat.le_of_ble_eq_true rfl) ⟨by simp only [ln]; rw [if_neg u2, ek, nI_clamp (by omega)], rfl, rfl⟩
set_option maxRecDepth 100000 in
set_option maxHeartbeats 4000000 in
/-- fills -/
theorem ct_X12_fills {E : aG} (l : Launch) (a : Nat) {ci : Nat → Nat → Int32} {cl : Nat → Nat → Int64} {cr : Nat → Nat → Option Nat} {dy : aM} {nx : Nat} (ha : a < 16) : CT E l yX12_fills cX12_fills 3 (some .int) 1 [.ref 43, .int (nI a)] (mm ci cl cr dy) nx 0 0 (fun r M' nx' => r = some (.int (fl ci a)) ∧ M' = mm ci cl cr dy ∧ nx = nx') := by
  refine CT_intro (by decide) (Nat.le_of_ble_eq_true rfl) (fun Γ hΓ hQ => ?_)
  replace hΓ : CK E RX12 cX12_fills 3 (some .int) "fills" 1 0 0 Γ := hΓ
  show SV E Γ 3 (mm ci cl cr dy) nx 0 0 0 [(0, .ref 43), (1, .int (nI a))] []
  refine sv_aload_n hΓ dX12_fills_0 rfl 0 rfl rfl ?_
  refine sv_iload_n hΓ dX12_fills_1 rfl 1 rfl rfl ?_
  refine sv_callV hΓ (fun l => ct_X12_kindOf l a (by omega)) wv_X12_146 vs_X12_kindOf rfl m_43 rfl rfl (by decide) (Nat.le_of_ble_eq_true rfl) (Nat.le_of_ble_eq_true rfl) (Nat.le_of_ble_eq_true rfl) dX12_fills_2 rfl (fun r M' nx' p1 => ?_)
  obtain ⟨rfl, rfl, rfl⟩ := p1
  show SV E Γ 3 (mm ci cl cr dy) nx 0 0 5 [(0, .ref 43), (1, .int (nI a))] [.int (kd (ci 44 a))]
  refine sv_istore_n (lv' := [(2, .int (kd (ci 44 a))), (0, .ref 43), (1, .int (nI a))]) hΓ dX12_fills_5 rfl (by decide) rfl rfl ?_
  refine sv_iload_n hΓ dX12_fills_6 rfl 0 rfl rfl ?_
  refine sv_if_ge (tgt := 14) hΓ dX12_fills_7 (by decide) rfl (fun u2 => ?_) (fun u2 => ?_)
  · obtain ⟨k, hk, ek⟩ := kd_in _ (Int32.not_lt.mpr u2)
    refine sv_aload_n hΓ dX12_fills_14 rfl 1 rfl rfl ?_
    refine g_X12_32_43 hΓ dX12_fills_15 rfl ?_
    refine sv_iload_n hΓ dX12_fills_18 rfl 0 rfl rfl ?_
    refine az_51 hΓ (k) ek hk dX12_fills_19 rfl ?_
    refine sv_if_eq (tgt := 27) hΓ dX12_fills_20 (by decide) rfl (fun u3 => ?_) (fun u3 => ?_)
    · refine sv_aload_n hΓ dX12_fills_27 rfl 1 rfl rfl ?_
      refine g_X12_29_43 hΓ dX12_fills_28 rfl ?_
      refine sv_iload_n hΓ dX12_fills_31 rfl 0 rfl rfl ?_
      refine ai_50 hΓ (k) ek hk dX12_fills_32 rfl ?_
      exact sv_iret hΓ hQ dX12_fills_33 (Nat.le_of_ble_eq_true rfl) (Nat.le_of_ble_eq_true rfl) ⟨by simp only [fl]; rw [if_pos u2, ek, nI_clamp (by omega), if_pos u3], rfl, rfl⟩
    · refine sv_iconst (v := 1) hΓ dX12_fills_23 (by decide) rfl ?_
      refine sv_goto (pc' := 33) hΓ dX12_fills_24 (by decide) ?_
      exact sv_iret hΓ hQ dX12_fills_33 (Nat.le_of_ble_eq_true rfl) (Nat.le_of_ble_eq_true rfl) ⟨by simp only [fl]; rw [if_pos u2, ek, nI_clamp (by omega), if_neg u3], rfl, rfl⟩
  · refine sv_iconst (v := 0) hΓ dX12_fills_10 (by decide) rfl ?_
    refine sv_goto (pc' := 33) hΓ dX12_fills_11 (by decide) ?_
    exact sv_iret hΓ hQ dX12_fills_33 (Nat.le_of_ble_eq_true rfl) (Nat.le_of_ble_eq_true rfl) ⟨by simp [fl, u2], rfl, rfl⟩
set_option maxRecDepth 100000 in
set_option maxHeartbeats 4000000 in
/-- isOperand -/
theorem ct_X12_isOperand {E : aG} (l : Launch) (a : Int32) (b : Nat) {ci : Nat → Nat → Int32} {cl : Nat → Nat → Int64} {cr : Nat → Nat → Option Nat} {dy : aM} {nx : Nat} (hb : b < 16) : CT E l yX12_isOperand cX12_isOperand 3 (some .boolean) 0 [.ref 43, .int a, .int (nI b)] (mm ci cl cr dy) nx 0 0 (fun r M' nx' => r = some (.int (bI (isO ci a b))) ∧ M' = mm ci cl cr dy ∧ nx = nx') := by
  refine CT_intro (by decide) (Nat.le_of_ble_eq_true rfl) (fun Γ hΓ hQ => ?_)
  replace hΓ : CK E RX12 cX12_isOperand 3 (some .boolean) "isOperand" 0 0 0 Γ := hΓ
  show SV E Γ 3 (mm ci cl cr dy) nx 0 0 0 [(0, .ref 43), (1, .int a), (2, .int (nI b))] []
  refine sv_aload_n hΓ dX12_isOperand_0 rfl 0 rfl rfl ?_
  refine g_X12_16_43 hΓ dX12_isOperand_1 rfl ?_
  refine sv_iconst (v := 3) hΓ dX12_isOperand_4 (by decide) rfl ?_
  refine sv_iload_n hΓ dX12_isOperand_5 rfl 2 rfl rfl ?_
  refine sv_imulE (v := nI (3 * b)) hΓ dX12_isOperand_6 (nx_mul rfl rfl) rfl ?_
  refine ai_46 hΓ (3 * b) rfl (by omega) dX12_isOperand_7 rfl ?_
  refine sv_iload_n hΓ dX12_isOperand_8 rfl 1 rfl rfl ?_
  refine sv_icmp_eq (tgt := 40) hΓ dX12_isOperand_9 (by decide) rfl (fun u1 => ?_) (fun u1 => ?_)
  · refine sv_iconst (v := 1) hΓ dX12_isOperand_40 (by decide) rfl ?_
    refine sv_goto (pc' := 45) hΓ dX12_isOperand_41 (by decide) ?_
    exact sv_zret hΓ hQ dX12_isOperand_45 (Nat.le_of_ble_eq_true rfl) (Nat.le_of_ble_eq_true rfl) rfl ⟨by simp [bI, isO, u1], rfl, rfl⟩
  · refine sv_aload_n hΓ dX12_isOperand_12 rfl 0 rfl rfl ?_
    refine g_X12_16_43 hΓ dX12_isOperand_13 rfl ?_
    refine sv_iconst (v := 3) hΓ dX12_isOperand_16 (by decide) rfl ?_
    refine sv_iload_n hΓ dX12_isOperand_17 rfl 2 rfl rfl ?_
    refine sv_imulE (v := nI (3 * b)) hΓ dX12_isOperand_18 (nx_mul rfl rfl) rfl ?_
    refine sv_iconst (v := 1) hΓ dX12_isOperand_19 (by decide) rfl ?_
    refine sv_iaddE (v := nI (3 * b + 1)) hΓ dX12_isOperand_20 (nx_add rfl rfl) rfl ?_
    refine ai_46 hΓ (3 * b + 1) rfl (by omega) dX12_isOperand_21 rfl ?_
    refine sv_iload_n hΓ dX12_isOperand_22 rfl 1 rfl rfl ?_
    refine sv_icmp_eq (tgt := 40) hΓ dX12_isOperand_23 (by decide) rfl (fun u2 => ?_) (fun u2 => ?_)
    · refine sv_iconst (v := 1) hΓ dX12_isOperand_40 (by decide) rfl ?_
      refine sv_goto (pc' := 45) hΓ dX12_isOperand_41 (by decide) ?_
      exact sv_zret hΓ hQ dX12_isOperand_45 (Nat.le_of_ble_eq_true rfl) (Nat.le_of_ble_eq_true rfl) rfl ⟨by simp [bI, isO, u1, u2], rfl, rfl⟩
    · refine sv_aload_n hΓ dX12_isOperand_26 rfl 0 rfl rfl ?_
      refine g_X12_16_43 hΓ dX12_isOperand_27 rfl ?_
      refine sv_iconst (v := 3) hΓ dX12_isOperand_30 (by decide) rfl ?_
      refine sv_iload_n hΓ dX12_isOperand_31 rfl 2 rfl rfl ?_
      refine sv_imulE (v := nI (3 * b)) hΓ dX12_isOperand_32 (nx_mul rfl rfl) rfl ?_
      refine sv_iconst (v := 2) hΓ dX12_isOperand_33 (by decide) rfl ?_
      refine sv_iaddE (v := nI (3 * b + 2)) hΓ dX12_isOperand_34 (nx_add rfl rfl) rfl ?_
      refine ai_46 hΓ (3 * b + 2) rfl (by omega) dX12_isOperand_35 rfl ?_
      refine sv_iload_n hΓ dX12_isOperand_36 rfl 1 rfl rfl ?_
      refine sv_icmp_ne (tgt := 44) hΓ dX12_isOperand_37 (by decide) rfl (fun u3 => ?_) (fun u3 => ?_)
      · refine sv_iconst (v := 0) hΓ dX12_isOperand_44 (by decide) rfl ?_
        exact sv_zret hΓ hQ dX12_isOperand_45 (Nat.le_of_ble_eq_true rfl) (Nat.le_of_ble_eq_true rfl) rfl ⟨by simp [bI, isO, u1, u2, u3], rfl, rfl⟩
      · refine sv_iconst (v := 1) hΓ dX12_isOperand_40 (by decide) rfl ?_
        refine sv_goto (pc' := 45) hΓ dX12_isOperand_41 (by decide) ?_
        exact sv_zret hΓ hQ dX12_isOperand_45 (Nat.le_of_ble_eq_true rfl) (Nat.le_of_ble_eq_true rfl) rfl ⟨by simp [bI, isO, u1, u2, u3], rfl, rfl⟩
set_option maxRecDepth 100000 in
set_option maxHeartbeats 4000000 in
/-- canFail -/
theorem ct_X12_canFail {E : aG} (l : Launch) (a : Nat) {ci : Nat → Nat → Int32} {cl : Nat → Nat → Int64} {cr : Nat → Nat → Option Nat} {dy : aM} {nx : Nat} (ha : a < 16) : CT E l yX12_canFail cX12_canFail 2 (some .boolean) 0 [.ref 43, .int (nI a)] (mm ci cl cr dy) nx 0 0 (fun r M' nx' => r = some (.int (bI (cF (ci 44 a)))) ∧ M' = mm ci cl cr dy ∧ nx = nx') := by
  refine CT_intro (by decide) (Nat.le_of_ble_eq_true rfl) (fun Γ hΓ hQ => ?_)
  replace hΓ : CK E RX12 cX12_canFail 2 (some .boolean) "canFail" 0 0 0 Γ := hΓ
  show SV E Γ 2 (mm ci cl cr dy) nx 0 0 0 [(0, .ref 43), (1, .int (nI a))] []
  refine sv_aload_n hΓ dX12_canFail_0 rfl 0 rfl rfl ?_
  refine g_X12_7_43 hΓ dX12_canFail_1 rfl ?_
  refine sv_iload_n hΓ dX12_canFail_4 rfl 1 rfl rfl ?_
  refine ai_44 hΓ (a) rfl (by omega) dX12_canFail_5 rfl ?_
  refine sv_iconst (v := 1) hΓ dX12_canFail_6 (by decide) rfl ?_
  refine sv_icmp_eq (tgt := 42) hΓ dX12_canFail_7 (by decide) rfl (fun u1 => ?_) (fun u1 => ?_)
  · refine sv_iconst (v := 1) hΓ dX12_canFail_42 (by decide) rfl ?_
    refine sv_goto (pc' := 47) hΓ dX12_canFail_43 (by decide) ?_
    exact sv_zret hΓ hQ dX12_canFail_47 (Nat.le_of_ble_eq_true rfl) (Nat.le_of_ble_eq_true rfl) rfl ⟨by simp [bI, cF, u1], rfl, rfl⟩
  · refine sv_aload_n hΓ dX12_canFail_10 rfl 0 rfl rfl ?_
    refine g_X12_7_43 hΓ dX12_canFail_11 rfl ?_
    refine sv_iload_n hΓ dX12_canFail_14 rfl 1 rfl rfl ?_
    refine ai_44 hΓ (a) rfl (by omega) dX12_canFail_15 rfl ?_
    refine sv_iconst (v := 5) hΓ dX12_canFail_16 (by decide) rfl ?_
    refine sv_icmp_eq (tgt := 42) hΓ dX12_canFail_17 (by decide) rfl (fun u2 => ?_) (fun u2 => ?_)
    · refine sv_iconst (v := 1) hΓ dX12_canFail_42 (by decide) rfl ?_
      refine sv_goto (pc' := 47) hΓ dX12_canFail_43 (by decide) ?_
      exact sv_zret hΓ hQ dX12_canFail_47 (Nat.le_of_ble_eq_true rfl) (Nat.le_of_ble_eq_true rfl) rfl ⟨by simp [bI, cF, u1, u2], rfl, rfl⟩
    · refine sv_aload_n hΓ dX12_canFail_20 rfl 0 rfl rfl ?_
      refine g_X12_7_43 hΓ dX12_canFail_21 rfl ?_
      refine sv_iload_n hΓ dX12_canFail_24 rfl 1 rfl rfl ?_
      refine ai_44 hΓ (a) rfl (by omega) dX12_canFail_25 rfl ?_
      refine sv_bipush (v := 8) hΓ dX12_canFail_26 (by decide) rfl ?_
      refine sv_icmp_eq (tgt := 42) hΓ dX12_canFail_28 (by decide) rfl (fun u3 => ?_) (fun u3 => ?_)
      · refine sv_iconst (v := 1) hΓ dX12_canFail_42 (by decide) rfl ?_
        refine sv_goto (pc' := 47) hΓ dX12_canFail_43 (by decide) ?_
        exact sv_zret hΓ hQ dX12_canFail_47 (Nat.le_of_ble_eq_true rfl) (Nat.le_of_ble_eq_true rfl) rfl ⟨by simp [bI, cF, u1, u2, u3], rfl, rfl⟩
      · refine sv_aload_n hΓ dX12_canFail_31 rfl 0 rfl rfl ?_
        refine g_X12_7_43 hΓ dX12_canFail_32 rfl ?_
        refine sv_iload_n hΓ dX12_canFail_35 rfl 1 rfl rfl ?_
        refine ai_44 hΓ (a) rfl (by omega) dX12_canFail_36 rfl ?_
        refine sv_bipush (v := 9) hΓ dX12_canFail_37 (by decide) rfl ?_
        refine sv_icmp_ne (tgt := 46) hΓ dX12_canFail_39 (by decide) rfl (fun u4 => ?_) (fun u4 => ?_)
        · refine sv_iconst (v := 0) hΓ dX12_canFail_46 (by decide) rfl ?_
          exact sv_zret hΓ hQ dX12_canFail_47 (Nat.le_of_ble_eq_true rfl) (Nat.le_of_ble_eq_true rfl) rfl ⟨by simp [bI, cF, u1, u2, u3, u4], rfl, rfl⟩
        · refine sv_iconst (v := 1) hΓ dX12_canFail_42 (by decide) rfl ?_
          refine sv_goto (pc' := 47) hΓ dX12_canFail_43 (by decide) ?_
          exact sv_zret hΓ hQ dX12_canFail_47 (Nat.le_of_ble_eq_true rfl) (Nat.le_of_ble_eq_true rfl) rfl ⟨by simp [bI, cF, u1, u2, u3, u4], rfl, rfl⟩
set_option maxRecDepth 100000 in
set_option maxHeartbeats 4000000 in
/-- lifeBegin -/
theorem ct_X12_lifeBegin {E : aG} (l : Launch) (a : Nat) {ci : Nat → Nat → Int32} {cl : Nat → Nat → Int64} {cr : Nat → Nat → Option Nat} {dy : aM} {nx : Nat} (ha : a < 16) : CT E l yX12_lifeBegin cX12_lifeBegin 2 (some .int) 2 [.ref 43, .int (nI a)] (mm ci cl cr dy) nx 0 0 (fun r M' nx' => r = some (.int (ci 55 a + ln ci a)) ∧ M' = mm ci cl cr dy ∧ nx = nx') := by
  refine CT_intro (by decide) (Nat.le_of_ble_eq_true rfl) (fun Γ hΓ hQ => ?_)
  replace hΓ : CK E RX12 cX12_lifeBegin 2 (some .int) "lifeBegin" 2 0 0 Γ := hΓ
  show SV E Γ 2 (mm ci cl cr dy) nx 0 0 0 [(0, .ref 43), (1, .int (nI a))] []
  refine sv_aload_n hΓ dX12_lifeBegin_0 rfl 0 rfl rfl ?_
  refine g_X12_45_43 hΓ dX12_lifeBegin_1 rfl ?_
  refine sv_iload_n hΓ dX12_lifeBegin_4 rfl 1 rfl rfl ?_
  refine ai_55 hΓ (a) rfl (by omega) dX12_lifeBegin_5 rfl ?_
  refine sv_aload_n hΓ dX12_lifeBegin_6 rfl 0 rfl rfl ?_
  refine sv_iload_n hΓ dX12_lifeBegin_7 rfl 1 rfl rfl ?_
  refine sv_callV hΓ (fun l => ct_X12_lengthOf l a (by omega)) wv_X12_168 vs_X12_lengthOf rfl m_43 rfl rfl (by decide) (Nat.le_of_ble_eq_true rfl) (Nat.le_of_ble_eq_true rfl) (Nat.le_of_ble_eq_true rfl) dX12_lifeBegin_8 rfl (fun r M' nx' p1 => ?_)
  obtain ⟨rfl, rfl, rfl⟩ := p1
  show SV E Γ 2 (mm ci cl cr dy) nx 0 0 11 [(0, .ref 43), (1, .int (nI a))] [.int (ln ci a), .int (ci 55 a)]
  refine sv_iadd hΓ dX12_lifeBegin_11 rfl ?_
  exact sv_iret hΓ hQ dX12_lifeBegin_12 (Nat.le_of_ble_eq_true rfl) (Nat.le_of_ble_eq_true rfl) ⟨rfl, rfl, rfl⟩
set_option maxRecDepth 100000 in
set_option maxHeartbeats 4000000 in
/-- isShelf -/
theorem ct_X12_isShelf {E : aG} (l : Launch) (d : Int32) {ci : Nat → Nat → Int32} {cl : Nat → Nat → Int64} {cr : Nat → Nat → Option Nat} {dy : aM} {nx : Nat}  : CT E l yX12_isShelf cX12_isShelf 1 (some .boolean) 0 [.int d] (mm ci cl cr dy) nx 0 0 (fun r M' nx' => r = some (.int (bI (¬ d < 0 ∧ ¬ 8 ≤ d))) ∧ M' = mm ci cl cr dy ∧ nx = nx') := by
  refine CT_intro (by decide) (Nat.le_of_ble_eq_true rfl) (fun Γ hΓ hQ => ?_)
  replace hΓ : CK E RX12 cX12_isShelf 1 (some .boolean) "isShelf" 0 0 0 Γ := hΓ
  show SV E Γ 1 (mm ci cl cr dy) nx 0 0 0 [(0, .int d)] []
  refine sv_iload_n hΓ dX12_isShelf_0 rfl 0 rfl rfl ?_
  refine sv_if_lt (tgt := 14) hΓ dX12_isShelf_1 (by decide) rfl (fun u1 => ?_) (fun u1 => ?_)
  · refine sv_iconst (v := 0) hΓ dX12_isShelf_14 (by decide) rfl ?_
    exact sv_zret hΓ hQ dX12_isShelf_15 (Nat.le_of_ble_eq_true rfl) (Nat.le_of_ble_eq_true rfl) rfl ⟨by simp [bI, u1], rfl, rfl⟩
  · refine sv_iload_n hΓ dX12_isShelf_4 rfl 0 rfl rfl ?_
    refine sv_bipush (v := 8) hΓ dX12_isShelf_5 (by decide) rfl ?_
    refine sv_icmp_ge (tgt := 14) hΓ dX12_isShelf_7 (by decide) rfl (fun u2 => ?_) (fun u2 => ?_)
    · refine sv_iconst (v := 0) hΓ dX12_isShelf_14 (by decide) rfl ?_
      exact sv_zret hΓ hQ dX12_isShelf_15 (Nat.le_of_ble_eq_true rfl) (Nat.le_of_ble_eq_true rfl) rfl ⟨by simp [bI, u1, u2], rfl, rfl⟩
    · refine sv_iconst (v := 1) hΓ dX12_isShelf_10 (by decide) rfl ?_
      refine sv_goto (pc' := 15) hΓ dX12_isShelf_11 (by decide) ?_
      exact sv_zret hΓ hQ dX12_isShelf_15 (Nat.le_of_ble_eq_true rfl) (Nat.le_of_ble_eq_true rfl) rfl ⟨by simp [bI, u1, u2], rfl, rfl⟩
