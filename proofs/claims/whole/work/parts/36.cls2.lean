set_option maxRecDepth 100000 in
set_option maxHeartbeats 1000000 in
/-- within -/
theorem ct_X11_within {E : aG} (l : Launch) (n : Int32) (lo : Int32) (hi : Int32) {ci : Nat → Nat → Int32} {cl : Nat → Nat → Int64} {cr : Nat → Nat → Option Nat} {dy : aM} {nx : Nat}  : CT E l yX11_within cX11_within 3 (some .boolean) 0 [.int n, .int lo, .int hi] (mm ci cl cr dy) nx 0 0 (fun r M' nx' => r = some (.int (bI (¬ n < lo ∧ ¬ hi < n))) ∧ M' = mm ci cl cr dy ∧ nx = nx') := by
  refine CT_intro (by decide) (Nat.le_of_ble_eq_true rfl) (fun Γ hΓ hQ => ?_)
  replace hΓ : CK E RX11 cX11_within 3 (some .boolean) "within" 0 0 0 Γ := hΓ
  show SV E Γ 3 (mm ci cl cr dy) nx 0 0 0 [(0, .int n), (1, .int lo), (2, .int hi)] []
  refine sv_iload_n hΓ dX11_within_0 rfl 0 rfl rfl ?_
  refine sv_iload_n hΓ dX11_within_1 rfl 1 rfl rfl ?_
  refine sv_icmp_lt (tgt := 14) hΓ dX11_within_2 (by decide) rfl (fun u1 => ?_) (fun u1 => ?_)
  · refine sv_iconst (v := 0) hΓ dX11_within_14 (by decide) rfl ?_
    exact sv_zret hΓ hQ dX11_within_15 (Nat.le_of_ble_eq_true rfl) (Nat.le_of_ble_eq_true rfl) rfl ⟨by simp [bI, u1], rfl, rfl⟩
  · refine sv_iload_n hΓ dX11_within_5 rfl 0 rfl rfl ?_
    refine sv_iload_n hΓ dX11_within_6 rfl 2 rfl rfl ?_
    refine sv_icmp_gt (tgt := 14) hΓ dX11_within_7 (by decide) rfl (fun u2 => ?_) (fun u2 => ?_)
    · refine sv_iconst (v := 0) hΓ dX11_within_14 (by decide) rfl ?_
      exact sv_zret hΓ hQ dX11_within_15 (Nat.le_of_ble_eq_true rfl) (Nat.le_of_ble_eq_true rfl) rfl ⟨by simp [bI, u1, u2], rfl, rfl⟩
    · refine sv_iconst (v := 1) hΓ dX11_within_10 (by decide) rfl ?_
      refine sv_goto (pc' := 15) hΓ dX11_within_11 (by decide) ?_
      exact sv_zret hΓ hQ dX11_within_15 (Nat.le_of_ble_eq_true rfl) (Nat.le_of_ble_eq_true rfl) rfl ⟨by simp [bI, u1, u2], rfl, rfl⟩
set_option maxRecDepth 100000 in
set_option maxHeartbeats 1000000 in
/-- within -/
theorem ct_X11_withinI {E : aG} (l : Launch) (w : Int32) (a : Nat) (b : Nat) (lo : Int32) (hi : Int32) {ci : Nat → Nat → Int32} {cl : Nat → Nat → Int64} {cr : Nat → Nat → Option Nat} {dy : aM} {nx : Nat} (hb : b < 2 ^ 31) (ha : a < 2 ^ 31) (hlo : lo = nI a) (hhi : hi = nI b) : CT E l yX11_within cX11_within 3 (some .boolean) 0 [.int w, .int lo, .int hi] (mm ci cl cr dy) nx 0 0 (fun r M' nx' => r = some (.int (bI (II a b w))) ∧ M' = mm ci cl cr dy ∧ nx = nx') := by
  refine CT_intro (by decide) (Nat.le_of_ble_eq_true rfl) (fun Γ hΓ hQ => ?_)
  replace hΓ : CK E RX11 cX11_within 3 (some .boolean) "within" 0 0 0 Γ := hΓ
  show SV E Γ 3 (mm ci cl cr dy) nx 0 0 0 [(0, .int w), (1, .int lo), (2, .int hi)] []
  refine sv_iload_n hΓ dX11_within_0 rfl 0 rfl rfl ?_
  refine sv_iload_n hΓ dX11_within_1 rfl 1 rfl rfl ?_
  refine sv_icmp_lt (tgt := 14) hΓ dX11_within_2 (by decide) rfl (fun u1 => ?_) (fun u1 => ?_)
  · refine sv_iconst (v := 0) hΓ dX11_within_14 (by decide) rfl ?_
    exact sv_zret hΓ hQ dX11_within_15 (Nat.le_of_ble_eq_true rfl) (Nat.le_of_ble_eq_true rfl) rfl ⟨by rw [bI_iff (wi_i hb ha hlo hhi).symm]; simp [bI, u1], rfl, rfl⟩
  · refine sv_iload_n hΓ dX11_within_5 rfl 0 rfl rfl ?_
    refine sv_iload_n hΓ dX11_within_6 rfl 2 rfl rfl ?_
    refine sv_icmp_gt (tgt := 14) hΓ dX11_within_7 (by decide) rfl (fun u2 => ?_) (fun u2 => ?_)
    · refine sv_iconst (v := 0) hΓ dX11_within_14 (by decide) rfl ?_
      exact sv_zret hΓ hQ dX11_within_15 (Nat.le_of_ble_eq_true rfl) (Nat.le_of_ble_eq_true rfl) rfl ⟨by rw [bI_iff (wi_i hb ha hlo hhi).symm]; simp [bI, u1, u2], rfl, rfl⟩
    · refine sv_iconst (v := 1) hΓ dX11_within_10 (by decide) rfl ?_
      refine sv_goto (pc' := 15) hΓ dX11_within_11 (by decide) ?_
      exact sv_zret hΓ hQ dX11_within_15 (Nat.le_of_ble_eq_true rfl) (Nat.le_of_ble_eq_true rfl) rfl ⟨by rw [bI_iff (wi_i hb ha hlo hhi).symm]; simp [bI, u1, u2], rfl, rfl⟩
set_option maxRecDepth 100000 in
set_option maxHeartbeats 1000000 in
/-- isWidth -/
theorem ct_X11_isWidth {E : aG} (l : Launch) (w : Int32) {ci : Nat → Nat → Int32} {cl : Nat → Nat → Int64} {cr : Nat → Nat → Option Nat} {dy : aM} {nx : Nat}  : CT E l yX11_isWidth cX11_isWidth 1 (some .boolean) 1 [.int w] (mm ci cl cr dy) nx 0 0 (fun r M' nx' => r = some (.int (bI (II 1 32 w))) ∧ M' = mm ci cl cr dy ∧ nx = nx') := by
  refine CT_intro (by decide) (Nat.le_of_ble_eq_true rfl) (fun Γ hΓ hQ => ?_)
  replace hΓ : CK E RX11 cX11_isWidth 1 (some .boolean) "isWidth" 1 0 0 Γ := hΓ
  show SV E Γ 1 (mm ci cl cr dy) nx 0 0 0 [(0, .int w)] []
  refine sv_iload_n hΓ dX11_isWidth_0 rfl 0 rfl rfl ?_
  refine sv_iconst (v := 1) hΓ dX11_isWidth_1 (by decide) rfl ?_
  refine sv_bipush (v := 32) hΓ dX11_isWidth_2 (by decide) rfl ?_
  refine sv_callS hΓ (fun l => ct_X11_withinI l w 1 32 1 32 (by decide) (by decide) rfl rfl) wv_X11_115 tb_256 rfl rfl (by decide) (Nat.le_of_ble_eq_true rfl) (Nat.le_of_ble_eq_true rfl) (Nat.le_of_ble_eq_true rfl) dX11_isWidth_4 rfl (fun r M' nx' p1 => ?_)
  obtain ⟨rfl, rfl, rfl⟩ := p1
  show SV E Γ 1 (mm ci cl cr dy) nx 0 0 7 [(0, .int w)] [.int (bI (II 1 32 w))]
  exact sv_zret hΓ hQ dX11_isWidth_7 (Nat.le_of_ble_eq_true rfl) (Nat.le_of_ble_eq_true rfl) (bI_n _) ⟨rfl, rfl, rfl⟩
set_option maxRecDepth 100000 in
set_option maxHeartbeats 1000000 in
/-- isPort -/
theorem ct_X11_isPort {E : aG} (l : Launch) (w : Int32) {ci : Nat → Nat → Int32} {cl : Nat → Nat → Int64} {cr : Nat → Nat → Option Nat} {dy : aM} {nx : Nat}  : CT E l yX11_isPort cX11_isPort 1 (some .boolean) 1 [.int w] (mm ci cl cr dy) nx 0 0 (fun r M' nx' => r = some (.int (bI (II 0 3 w))) ∧ M' = mm ci cl cr dy ∧ nx = nx') := by
  refine CT_intro (by decide) (Nat.le_of_ble_eq_true rfl) (fun Γ hΓ hQ => ?_)
  replace hΓ : CK E RX11 cX11_isPort 1 (some .boolean) "isPort" 1 0 0 Γ := hΓ
  show SV E Γ 1 (mm ci cl cr dy) nx 0 0 0 [(0, .int w)] []
  refine sv_iload_n hΓ dX11_isPort_0 rfl 0 rfl rfl ?_
  refine sv_iconst (v := 0) hΓ dX11_isPort_1 (by decide) rfl ?_
  refine sv_iconst (v := 3) hΓ dX11_isPort_2 (by decide) rfl ?_
  refine sv_callS hΓ (fun l => ct_X11_withinI l w 0 3 0 3 (by decide) (by decide) rfl rfl) wv_X11_115 tb_256 rfl rfl (by decide) (Nat.le_of_ble_eq_true rfl) (Nat.le_of_ble_eq_true rfl) (Nat.le_of_ble_eq_true rfl) dX11_isPort_3 rfl (fun r M' nx' p1 => ?_)
  obtain ⟨rfl, rfl, rfl⟩ := p1
  show SV E Γ 1 (mm ci cl cr dy) nx 0 0 6 [(0, .int w)] [.int (bI (II 0 3 w))]
  exact sv_zret hΓ hQ dX11_isPort_6 (Nat.le_of_ble_eq_true rfl) (Nat.le_of_ble_eq_true rfl) (bI_n _) ⟨rfl, rfl, rfl⟩
set_option maxRecDepth 100000 in
set_option maxHeartbeats 1000000 in
/-- isKind -/
theorem ct_X11_isKind {E : aG} (l : Launch) (w : Int32) {ci : Nat → Nat → Int32} {cl : Nat → Nat → Int64} {cr : Nat → Nat → Option Nat} {dy : aM} {nx : Nat}  : CT E l yX11_isKind cX11_isKind 1 (some .boolean) 1 [.int w] (mm ci cl cr dy) nx 0 0 (fun r M' nx' => r = some (.int (bI (II 0 3 w))) ∧ M' = mm ci cl cr dy ∧ nx = nx') := by
  refine CT_intro (by decide) (Nat.le_of_ble_eq_true rfl) (fun Γ hΓ hQ => ?_)
  replace hΓ : CK E RX11 cX11_isKind 1 (some .boolean) "isKind" 1 0 0 Γ := hΓ
  show SV E Γ 1 (mm ci cl cr dy) nx 0 0 0 [(0, .int w)] []
  refine sv_iload_n hΓ dX11_isKind_0 rfl 0 rfl rfl ?_
  refine sv_iconst (v := 0) hΓ dX11_isKind_1 (by decide) rfl ?_
  refine sv_iconst (v := 3) hΓ dX11_isKind_2 (by decide) rfl ?_
  refine sv_callS hΓ (fun l => ct_X11_withinI l w 0 3 0 3 (by decide) (by decide) rfl rfl) wv_X11_115 tb_256 rfl rfl (by decide) (Nat.le_of_ble_eq_true rfl) (Nat.le_of_ble_eq_true rfl) (Nat.le_of_ble_eq_true rfl) dX11_isKind_3 rfl (fun r M' nx' p1 => ?_)
  obtain ⟨rfl, rfl, rfl⟩ := p1
  show SV E Γ 1 (mm ci cl cr dy) nx 0 0 6 [(0, .int w)] [.int (bI (II 0 3 w))]
  exact sv_zret hΓ hQ dX11_isKind_6 (Nat.le_of_ble_eq_true rfl) (Nat.le_of_ble_eq_true rfl) (bI_n _) ⟨rfl, rfl, rfl⟩
set_option maxRecDepth 100000 in
set_option maxHeartbeats 1000000 in
/-- isShelf -/
theorem ct_X11_isShelf {E : aG} (l : Launch) (w : Int32) {ci : Nat → Nat → Int32} {cl : Nat → Nat → Int64} {cr : Nat → Nat → Option Nat} {dy : aM} {nx : Nat}  : CT E l yX11_isShelf cX11_isShelf 1 (some .boolean) 1 [.int w] (mm ci cl cr dy) nx 0 0 (fun r M' nx' => r = some (.int (bI (AI 8 w))) ∧ M' = mm ci cl cr dy ∧ nx = nx') := by
  refine CT_intro (by decide) (Nat.le_of_ble_eq_true rfl) (fun Γ hΓ hQ => ?_)
  replace hΓ : CK E RX11 cX11_isShelf 1 (some .boolean) "isShelf" 1 0 0 Γ := hΓ
  show SV E Γ 1 (mm ci cl cr dy) nx 0 0 0 [(0, .int w)] []
  refine sv_iload_n hΓ dX11_isShelf_0 rfl 0 rfl rfl ?_
  refine sv_iconst (v := 0) hΓ dX11_isShelf_1 (by decide) rfl ?_
  refine sv_bipush (v := 7) hΓ dX11_isShelf_2 (by decide) rfl ?_
  refine sv_callS hΓ (fun l => ct_X11_withinI l w 0 7 0 7 (by decide) (by decide) rfl rfl) wv_X11_115 tb_256 rfl rfl (by decide) (Nat.le_of_ble_eq_true rfl) (Nat.le_of_ble_eq_true rfl) (Nat.le_of_ble_eq_true rfl) dX11_isShelf_4 rfl (fun r M' nx' p1 => ?_)
  obtain ⟨rfl, rfl, rfl⟩ := p1
  show SV E Γ 1 (mm ci cl cr dy) nx 0 0 7 [(0, .int w)] [.int (bI (II 0 7 w))]
  exact sv_zret hΓ hQ dX11_isShelf_7 (Nat.le_of_ble_eq_true rfl) (Nat.le_of_ble_eq_true rfl) (bI_n _) ⟨by rw [bI_iff sh7], rfl, rfl⟩
set_option maxRecDepth 100000 in
set_option maxHeartbeats 1000000 in
/-- isPlace -/
theorem ct_X11_isPlace {E : aG} (l : Launch) (v : Int64) {ci : Nat → Nat → Int32} {cl : Nat → Nat → Int64} {cr : Nat → Nat → Option Nat} {dy : aM} {nx : Nat}  : CT E l yX11_isPlace cX11_isPlace 2 (some .boolean) 0 [.long v] (mm ci cl cr dy) nx 0 0 (fun r M' nx' => r = some (.int (bI (¬ v < 0 ∧ ¬ 15 < v))) ∧ M' = mm ci cl cr dy ∧ nx = nx') := by
  refine CT_intro (by decide) (Nat.le_of_ble_eq_true rfl) (fun Γ hΓ hQ => ?_)
  replace hΓ : CK E RX11 cX11_isPlace 2 (some .boolean) "isPlace" 0 0 0 Γ := hΓ
  show SV E Γ 2 (mm ci cl cr dy) nx 0 0 0 [(0, .long v)] []
  refine sv_lload_n hΓ dX11_isPlace_0 rfl 0 rfl rfl ?_
  refine sv_lconst (v := 0) hΓ dX11_isPlace_1 (by decide) rfl ?_
  refine sv_lcmp hΓ dX11_isPlace_2 rfl ?_
  refine sv_if_lt (tgt := 18) hΓ dX11_isPlace_3 (by decide) rfl (fun u1 => ?_) (fun u1 => ?_)
  · replace u1 := lgc_lt.mp u1
    refine sv_iconst (v := 0) hΓ dX11_isPlace_18 (by decide) rfl ?_
    exact sv_zret hΓ hQ dX11_isPlace_19 (Nat.le_of_ble_eq_true rfl) (Nat.le_of_ble_eq_true rfl) rfl ⟨by rw [bI_iff pl_i.symm]; simp [bI, u1], rfl, rfl⟩
  · replace u1 := mt lgc_lt.mpr u1
    refine sv_lload_n hΓ dX11_isPlace_6 rfl 0 rfl rfl ?_
    refine sv_ldc2 hΓ dX11_isPlace_7 tb_462 rfl ?_
    refine sv_lcmp hΓ dX11_isPlace_10 rfl ?_
    refine sv_if_ge (tgt := 18) hΓ dX11_isPlace_11 (by decide) rfl (fun u2 => ?_) (fun u2 => ?_)
    · replace u2 := lgc_ge.mp u2
      refine sv_iconst (v := 0) hΓ dX11_isPlace_18 (by decide) rfl ?_
      exact sv_zret hΓ hQ dX11_isPlace_19 (Nat.le_of_ble_eq_true rfl) (Nat.le_of_ble_eq_true rfl) rfl ⟨by rw [bI_iff pl_i.symm]; simp [bI, u1, u2], rfl, rfl⟩
    · replace u2 := mt lgc_ge.mpr u2
      refine sv_iconst (v := 1) hΓ dX11_isPlace_14 (by decide) rfl ?_
      refine sv_goto (pc' := 19) hΓ dX11_isPlace_15 (by decide) ?_
      exact sv_zret hΓ hQ dX11_isPlace_19 (Nat.le_of_ble_eq_true rfl) (Nat.le_of_ble_eq_true rfl) rfl ⟨by rw [bI_iff pl_i.symm]; simp [bI, u1, u2], rfl, rfl⟩
set_option maxRecDepth 100000 in
set_option maxHeartbeats 1000000 in
/-- cut -/
theorem ct_X11_cut {E : aG} (l : Launch) (v : Int64) (w : Int32) {ci : Nat → Nat → Int32} {cl : Nat → Nat → Int64} {cr : Nat → Nat → Option Nat} {dy : aM} {nx : Nat}  : CT E l yX11_cut cX11_cut 4 (some .long) 0 [.long v, .int w] (mm ci cl cr dy) nx 0 0 (fun r M' nx' => r = some (.long (cutF v w)) ∧ M' = mm ci cl cr dy ∧ nx = nx') := by
  refine CT_intro (by decide) (Nat.le_of_ble_eq_true rfl) (fun Γ hΓ hQ => ?_)
  replace hΓ : CK E RX11 cX11_cut 4 (some .long) "cut" 0 0 0 Γ := hΓ
  show SV E Γ 4 (mm ci cl cr dy) nx 0 0 0 [(0, .long v), (2, .int w)] []
  refine sv_bipush (v := 64) hΓ dX11_cut_0 (by decide) rfl ?_
  refine sv_iload_n hΓ dX11_cut_2 rfl 1 rfl rfl ?_
  refine sv_isub hΓ dX11_cut_3 rfl ?_
  refine sv_istore_n (lv' := [(3, .int (64 - w)), (0, .long v), (2, .int w)]) hΓ dX11_cut_4 rfl (by decide) rfl rfl ?_
  refine sv_lload_n hΓ dX11_cut_5 rfl 1 rfl rfl ?_
  refine sv_iload_n hΓ dX11_cut_6 rfl 0 rfl rfl ?_
  refine sv_lshl hΓ dX11_cut_7 rfl rfl ?_
  refine sv_iload_n hΓ dX11_cut_8 rfl 0 rfl rfl ?_
  refine sv_lshr hΓ dX11_cut_9 rfl rfl ?_
  exact sv_lret hΓ hQ dX11_cut_10 (Nat.le_of_ble_eq_true rfl) (Nat.le_of_ble_eq_true rfl) ⟨rfl, rfl, rfl⟩
set_option maxRecDepth 100000 in
set_option maxHeartbeats 1000000 in
/-- forget -/
theorem ct_X11_forget {E : aG} (l : Launch)  {ci : Nat → Nat → Int32} {cl : Nat → Nat → Int64} {cr : Nat → Nat → Option Nat} {dy : aM} {nx : Nat}  : CT E l yX11_forget cX11_forget 1 none 0 [.ref 1] (mm ci cl cr dy) nx 0 0 (fun r M' nx' => r = none ∧ M' = mm (up2 (up2 ci 1 7 0) 1 8 0) cl cr dy ∧ nx = nx') := by
  refine CT_intro (by decide) (Nat.le_of_ble_eq_true rfl) (fun Γ hΓ hQ => ?_)
  replace hΓ : CK E RX11 cX11_forget 1 none "forget" 0 0 0 Γ := hΓ
  show SV E Γ 1 (mm ci cl cr dy) nx 0 0 0 [(0, .ref 1)] []
  refine sv_aload_n hΓ dX11_forget_0 rfl 0 rfl rfl ?_
  refine sv_iconst (v := 0) hΓ dX11_forget_1 (by decide) rfl ?_
  refine p_X11_65_1 hΓ ⟨rfl, rfl⟩ dX11_forget_2 rfl ?_
  refine sv_aload_n hΓ dX11_forget_5 rfl 0 rfl rfl ?_
  refine sv_iconst (v := 0) hΓ dX11_forget_6 (by decide) rfl ?_
  refine p_X11_69_1 hΓ ⟨rfl, rfl⟩ dX11_forget_7 rfl ?_
  exact sv_vret hΓ hQ dX11_forget_10 (Nat.le_of_ble_eq_true rfl) (Nat.le_of_ble_eq_true rfl) ⟨rfl, rfl, rfl⟩
set_option maxRecDepth 100000 in
set_option maxHeartbeats 1000000 in
/-- kind -/
theorem ct_X0_kind {E : aG} (l : Launch) (c : aI) (nu : Nat → Int64) (a : Nat) (k : Nat) (s : Nat) {ci : Nat → Nat → Int32} {cl : Nat → Nat → Int64} {cr : Nat → Nat → Option Nat} {dy : aM} {nx : Nat} (hA : AT c nu dy a k s) : CT E l yX0_kind cX0_kind 1 (some .int) 0 [.ref k] (mm ci cl cr dy) nx 0 0 (fun r M' nx' => r = some (.int (kd (c 44 a))) ∧ M' = mm ci cl cr dy ∧ nx = nx') := by
  refine CT_intro (by decide) (Nat.le_of_ble_eq_true rfl) (fun Γ hΓ hQ => ?_)
  replace hΓ : CK E RX0 cX0_kind 1 (some .int) "kind" 0 0 0 Γ := hΓ
  show SV E Γ 1 (mm ci cl cr dy) nx 0 0 0 [(0, .ref k)] []
  refine sv_aload_n hΓ dX0_kind_0 rfl 0 rfl rfl ?_
  refine gt_X0_9 hΓ hA.m rfl dX0_kind_1 rfl ?_
  refine sv_table (x := c 44 a) (lo := 2) (hi := 9) 7 rfl (fun u1 => ?_) (fun k hk u1 => ?_)
  · refine sv_tableOut (pc' := 60) hΓ dX0_kind_4 u1 (by decide) ?_
    refine sv_bipush (v := (-2)) hΓ dX0_kind_60 (by decide) rfl ?_
    exact sv_iret hΓ hQ dX0_kind_62 (Nat.le_of_ble_eq_true rfl) (Nat.le_of_ble_eq_true rfl) ⟨by rw [kd_out u1], rfl, rfl⟩
  · obtain rfl | rfl | rfl | rfl | rfl | rfl | rfl | rfl : k = 0 ∨ k = 1 ∨ k = 2 ∨ k = 3 ∨ k = 4 ∨ k = 5 ∨ k = 6 ∨ k = 7 := by omega
    · refine sv_tableIn (off := 48) (pc' := 52) hΓ dX0_kind_4 (by omega) (by omega) (by rw [u1]; rfl) (by decide) ?_
      replace u1 : c 44 a = (2 : Int32) := Int32.toInt_inj.mp (u1.trans (by decide))
      refine sv_iconst (v := 0) hΓ dX0_kind_52 (by decide) rfl ?_
      exact sv_iret hΓ hQ dX0_kind_53 (Nat.le_of_ble_eq_true rfl) (Nat.le_of_ble_eq_true rfl) ⟨by rw [u1]; rfl, rfl, rfl⟩
    · refine sv_tableIn (off := 48) (pc' := 52) hΓ dX0_kind_4 (by omega) (by omega) (by rw [u1]; rfl) (by decide) ?_
      replace u1 : c 44 a = (3 : Int32) := Int32.toInt_inj.mp (u1.trans (by decide))
      refine sv_iconst (v := 0) hΓ dX0_kind_52 (by decide) rfl ?_
      exact sv_iret hΓ hQ dX0_kind_53 (Nat.le_of_ble_eq_true rfl) (Nat.le_of_ble_eq_true rfl) ⟨by rw [u1]; rfl, rfl, rfl⟩
    · refine sv_tableIn (off := 50) (pc' := 54) hΓ dX0_kind_4 (by omega) (by omega) (by rw [u1]; rfl) (by decide) ?_
      replace u1 : c 44 a = (4 : Int32) := Int32.toInt_inj.mp (u1.trans (by decide))
      refine sv_iconst (v := 1) hΓ dX0_kind_54 (by decide) rfl ?_
      exact sv_iret hΓ hQ dX0_kind_55 (Nat.le_of_ble_eq_true rfl) (Nat.le_of_ble_eq_true rfl) ⟨by rw [u1]; rfl, rfl, rfl⟩
    · refine sv_tableIn (off := 52) (pc' := 56) hΓ dX0_kind_4 (by omega) (by omega) (by rw [u1]; rfl) (by decide) ?_
      replace u1 : c 44 a = (5 : Int32) := Int32.toInt_inj.mp (u1.trans (by decide))
      refine sv_iconst (v := 2) hΓ dX0_kind_56 (by decide) rfl ?_
      exact sv_iret hΓ hQ dX0_kind_57 (Nat.le_of_ble_eq_true rfl) (Nat.le_of_ble_eq_true rfl) ⟨by rw [u1]; rfl, rfl, rfl⟩
    · refine sv_tableIn (off := 48) (pc' := 52) hΓ dX0_kind_4 (by omega) (by omega) (by rw [u1]; rfl) (by decide) ?_
      replace u1 : c 44 a = (6 : Int32) := Int32.toInt_inj.mp (u1.trans (by decide))
      refine sv_iconst (v := 0) hΓ dX0_kind_52 (by decide) rfl ?_
      exact sv_iret hΓ hQ dX0_kind_53 (Nat.le_of_ble_eq_true rfl) (Nat.le_of_ble_eq_true rfl) ⟨by rw [u1]; rfl, rfl, rfl⟩
    · refine sv_tableIn (off := 56) (pc' := 60) hΓ dX0_kind_4 (by omega) (by omega) (by rw [u1]; rfl) (by decide) ?_
      replace u1 : c 44 a = (7 : Int32) := Int32.toInt_inj.mp (u1.trans (by decide))
      refine sv_bipush (v := (-2)) hΓ dX0_kind_60 (by decide) rfl ?_
      exact sv_iret hΓ hQ dX0_kind_62 (Nat.le_of_ble_eq_true rfl) (Nat.le_of_ble_eq_true rfl) ⟨by rw [u1]; rfl, rfl, rfl⟩
    · refine sv_tableIn (off := 54) (pc' := 58) hΓ dX0_kind_4 (by omega) (by omega) (by rw [u1]; rfl) (by decide) ?_
      replace u1 : c 44 a = (8 : Int32) := Int32.toInt_inj.mp (u1.trans (by decide))
      refine sv_iconst (v := 3) hΓ dX0_kind_58 (by decide) rfl ?_
      exact sv_iret hΓ hQ dX0_kind_59 (Nat.le_of_ble_eq_true rfl) (Nat.le_of_ble_eq_true rfl) ⟨by rw [u1]; rfl, rfl, rfl⟩
    · refine sv_tableIn (off := 54) (pc' := 58) hΓ dX0_kind_4 (by omega) (by omega) (by rw [u1]; rfl) (by decide) ?_
      replace u1 : c 44 a = (9 : Int32) := Int32.toInt_inj.mp (u1.trans (by decide))
      refine sv_iconst (v := 3) hΓ dX0_kind_58 (by decide) rfl ?_
      exact sv_iret hΓ hQ dX0_kind_59 (Nat.le_of_ble_eq_true rfl) (Nat.le_of_ble_eq_true rfl) ⟨by rw [u1]; rfl, rfl, rfl⟩
set_option maxRecDepth 100000 in
set_option maxHeartbeats 1000000 in
/-- operands -/
theorem ct_X0_operands {E : aG} (l : Launch) (c : aI) (nu : Nat → Int64) (a : Nat) (k : Nat) (s : Nat) {ci : Nat → Nat → Int32} {cl : Nat → Nat → Int64} {cr : Nat → Nat → Option Nat} {dy : aM} {nx : Nat} (hA : AT c nu dy a k s) : CT E l yX0_operands cX0_operands 1 (some .int) 0 [.ref k] (mm ci cl cr dy) nx 0 0 (fun r M' nx' => r = some (.int (nI (opN c a 3))) ∧ M' = mm ci cl cr dy ∧ nx = nx') := by
  refine CT_intro (by decide) (Nat.le_of_ble_eq_true rfl) (fun Γ hΓ hQ => ?_)
  replace hΓ : CK E RX0 cX0_operands 1 (some .int) "operands" 0 0 0 Γ := hΓ
  show SV E Γ 1 (mm ci cl cr dy) nx 0 0 0 [(0, .ref k)] []
  refine sv_aload_n hΓ dX0_operands_0 rfl 0 rfl rfl ?_
  refine gt_X0_21 hΓ hA.m rfl dX0_operands_1 rfl ?_
  refine sv_bipush (v := (-2)) hΓ dX0_operands_4 (by decide) rfl ?_
  refine sv_icmp_ne (tgt := 13) hΓ dX0_operands_6 (by decide) rfl (fun u1 => ?_) (fun u1 => ?_)
  · refine sv_iconst (v := 1) hΓ dX0_operands_13 (by decide) rfl ?_
    refine sv_aload_n hΓ dX0_operands_14 rfl 0 rfl rfl ?_
    refine gt_X0_24 hΓ hA.m rfl dX0_operands_15 rfl ?_
    refine sv_bipush (v := (-2)) hΓ dX0_operands_18 (by decide) rfl ?_
    refine sv_icmp_ne (tgt := 27) hΓ dX0_operands_20 (by decide) rfl (fun u2 => ?_) (fun u2 => ?_)
    · refine sv_iconst (v := 1) hΓ dX0_operands_27 (by decide) rfl ?_
      refine sv_iaddE (v := nI (1 + 1)) hΓ dX0_operands_28 (nx_add rfl rfl) rfl ?_
      refine sv_aload_n hΓ dX0_operands_29 rfl 0 rfl rfl ?_
      refine gt_X0_27 hΓ hA.m rfl dX0_operands_30 rfl ?_
      refine sv_bipush (v := (-2)) hΓ dX0_operands_33 (by decide) rfl ?_
      refine sv_icmp_ne (tgt := 42) hΓ dX0_operands_35 (by decide) rfl (fun u3 => ?_) (fun u3 => ?_)
      · refine sv_iconst (v := 1) hΓ dX0_operands_42 (by decide) rfl ?_
        refine sv_iaddE (v := nI (1 + 1 + 1)) hΓ dX0_operands_43 (nx_add rfl rfl) rfl ?_
        exact sv_iret hΓ hQ dX0_operands_44 (Nat.le_of_ble_eq_true rfl) (Nat.le_of_ble_eq_true rfl) ⟨by rw [opN3, if_neg u1, if_neg u2, if_neg u3], rfl, rfl⟩
      · refine sv_iconst (v := 0) hΓ dX0_operands_38 (by decide) rfl ?_
        refine sv_goto (pc' := 43) hΓ dX0_operands_39 (by decide) ?_
        refine sv_iaddE (v := nI (1 + 1 + 0)) hΓ dX0_operands_43 (nx_add rfl rfl) rfl ?_
        exact sv_iret hΓ hQ dX0_operands_44 (Nat.le_of_ble_eq_true rfl) (Nat.le_of_ble_eq_true rfl) ⟨by rw [opN3, if_neg u1, if_neg u2, if_pos u3], rfl, rfl⟩
    · refine sv_iconst (v := 0) hΓ dX0_operands_23 (by decide) rfl ?_
      refine sv_goto (pc' := 28) hΓ dX0_operands_24 (by decide) ?_
      refine sv_iaddE (v := nI (1 + 0)) hΓ dX0_operands_28 (nx_add rfl rfl) rfl ?_
      refine sv_aload_n hΓ dX0_operands_29 rfl 0 rfl rfl ?_
      refine gt_X0_27 hΓ hA.m rfl dX0_operands_30 rfl ?_
      refine sv_bipush (v := (-2)) hΓ dX0_operands_33 (by decide) rfl ?_
      refine sv_icmp_ne (tgt := 42) hΓ dX0_operands_35 (by decide) rfl (fun u4 => ?_) (fun u4 => ?_)
      · refine sv_iconst (v := 1) hΓ dX0_operands_42 (by decide) rfl ?_
        refine sv_iaddE (v := nI (1 + 0 + 1)) hΓ dX0_operands_43 (nx_add rfl rfl) rfl ?_
        exact sv_iret hΓ hQ dX0_operands_44 (Nat.le_of_ble_eq_true rfl) (Nat.le_of_ble_eq_true rfl) ⟨by rw [opN3, if_neg u1, if_pos u2, if_neg u4], rfl, rfl⟩
      · refine sv_iconst (v := 0) hΓ dX0_operands_38 (by decide) rfl ?_
        refine sv_goto (pc' := 43) hΓ dX0_operands_39 (by decide) ?_
        refine sv_iaddE (v := nI (1 + 0 + 0)) hΓ dX0_operands_43 (nx_add rfl rfl) rfl ?_
        exact sv_iret hΓ hQ dX0_operands_44 (Nat.le_of_ble_eq_true rfl) (Nat.le_of_ble_eq_true rfl) ⟨by rw [opN3, if_neg u1, if_pos u2, if_pos u4], rfl, rfl⟩
  · refine sv_iconst (v := 0) hΓ dX0_operands_9 (by decide) rfl ?_
    refine sv_goto (pc' := 14) hΓ dX0_operands_10 (by decide) ?_
    refine sv_aload_n hΓ dX0_operands_14 rfl 0 rfl rfl ?_
    refine gt_X0_24 hΓ hA.m rfl dX0_operands_15 rfl ?_
    refine sv_bipush (v := (-2)) hΓ dX0_operands_18 (by decide) rfl ?_
    refine sv_icmp_ne (tgt := 27) hΓ dX0_operands_20 (by decide) rfl (fun u5 => ?_) (fun u5 => ?_)
    · refine sv_iconst (v := 1) hΓ dX0_operands_27 (by decide) rfl ?_
      refine sv_iaddE (v := nI (0 + 1)) hΓ dX0_operands_28 (nx_add rfl rfl) rfl ?_
      refine sv_aload_n hΓ dX0_operands_29 rfl 0 rfl rfl ?_
      refine gt_X0_27 hΓ hA.m rfl dX0_operands_30 rfl ?_
      refine sv_bipush (v := (-2)) hΓ dX0_operands_33 (by decide) rfl ?_
      refine sv_icmp_ne (tgt := 42) hΓ dX0_operands_35 (by decide) rfl (fun u6 => ?_) (fun u6 => ?_)
      · refine sv_iconst (v := 1) hΓ dX0_operands_42 (by decide) rfl ?_
        refine sv_iaddE (v := nI (0 + 1 + 1)) hΓ dX0_operands_43 (nx_add rfl rfl) rfl ?_
        exact sv_iret hΓ hQ dX0_operands_44 (Nat.le_of_ble_eq_true rfl) (Nat.le_of_ble_eq_true rfl) ⟨by rw [opN3, if_pos u1, if_neg u5, if_neg u6], rfl, rfl⟩
      · refine sv_iconst (v := 0) hΓ dX0_operands_38 (by decide) rfl ?_
        refine sv_goto (pc' := 43) hΓ dX0_operands_39 (by decide) ?_
        refine sv_iaddE (v := nI (0 + 1 + 0)) hΓ dX0_operands_43 (nx_add rfl rfl) rfl ?_
        exact sv_iret hΓ hQ dX0_operands_44 (Nat.le_of_ble_eq_true rfl) (Nat.le_of_ble_eq_true rfl) ⟨by rw [opN3, if_pos u1, if_neg u5, if_pos u6], rfl, rfl⟩
    · refine sv_iconst (v := 0) hΓ dX0_operands_23 (by decide) rfl ?_
      refine sv_goto (pc' := 28) hΓ dX0_operands_24 (by decide) ?_
      refine sv_iaddE (v := nI (0 + 0)) hΓ dX0_operands_28 (nx_add rfl rfl) rfl ?_
      refine sv_aload_n hΓ dX0_operands_29 rfl 0 rfl rfl ?_
      refine gt_X0_27 hΓ hA.m rfl dX0_operands_30 rfl ?_
      refine sv_bipush (v := (-2)) hΓ dX0_operands_33 (by decide) rfl ?_
      refine sv_icmp_ne (tgt := 42) hΓ dX0_operands_35 (by decide) rfl (fun u7 => ?_) (fun u7 => ?_)
      · refine sv_iconst (v := 1) hΓ dX0_operands_42 (by decide) rfl ?_
        refine sv_iaddE (v := nI (0 + 0 + 1)) hΓ dX0_operands_43 (nx_add rfl rfl) rfl ?_
        exact sv_iret hΓ hQ dX0_operands_44 (Nat.le_of_ble_eq_true rfl) (Nat.le_of_ble_eq_true rfl) ⟨by rw [opN3, if_pos u1, if_pos u5, if_neg u7], rfl, rfl⟩
      · refine sv_iconst (v := 0) hΓ dX0_operands_38 (by decide) rfl ?_
        refine sv_goto (pc' := 43) hΓ dX0_operands_39 (by decide) ?_
        refine sv_iaddE (v := nI (0 + 0 + 0)) hΓ dX0_operands_43 (nx_add rfl rfl) rfl ?_
        exact sv_iret hΓ hQ dX0_operands_44 (Nat.le_of_ble_eq_true rfl) (Nat.le_of_ble_eq_true rfl) ⟨by rw [opN3, if_pos u1, if_pos u5, if_pos u7], rfl, rfl⟩
set_option maxRecDepth 100000 in
set_option maxHeartbeats 1000000 in
/-- takes -/
theorem ct_X0_takes {E : aG} (l : Launch) (c : aI) (nu : Nat → Int64) (a : Nat) (k : Nat) (s : Nat) (j : Nat) {ci : Nat → Nat → Int32} {cl : Nat → Nat → Int64} {cr : Nat → Nat → Option Nat} {dy : aM} {nx : Nat} (hA : AT c nu dy a k s) (hj : j < 2 ^ 31) : CT E l yX0_takes cX0_takes 2 (some .boolean) 0 [.ref k, .int (nI j)] (mm ci cl cr dy) nx 0 0 (fun r M' nx' => r = some (.int (bI (isO c (nI j) a))) ∧ M' = mm ci cl cr dy ∧ nx = nx') := by
  refine CT_intro (by decide) (Nat.le_of_ble_eq_true rfl) (fun Γ hΓ hQ => ?_)
  replace hΓ : CK E RX0 cX0_takes 2 (some .boolean) "takes" 0 0 0 Γ := hΓ
  show SV E Γ 2 (mm ci cl cr dy) nx 0 0 0 [(0, .ref k), (1, .int (nI j))] []
  refine sv_aload_n hΓ dX0_takes_0 rfl 0 rfl rfl ?_
  refine gt_X0_21 hΓ hA.m rfl dX0_takes_1 rfl ?_
  refine sv_iload_n hΓ dX0_takes_4 rfl 1 rfl rfl ?_
  refine sv_icmp_eq (tgt := 24) hΓ dX0_takes_5 (by decide) rfl (fun u1 => ?_) (fun u1 => ?_)
  · refine sv_iconst (v := 1) hΓ dX0_takes_24 (by decide) rfl ?_
    refine sv_goto (pc' := 29) hΓ dX0_takes_25 (by decide) ?_
    exact sv_zret hΓ hQ dX0_takes_29 (Nat.le_of_ble_eq_true rfl) (Nat.le_of_ble_eq_true rfl) rfl ⟨by rw [bI_iff (takes_i hj)]; simp [bI, u1], rfl, rfl⟩
  · refine sv_aload_n hΓ dX0_takes_8 rfl 0 rfl rfl ?_
    refine gt_X0_24 hΓ hA.m rfl dX0_takes_9 rfl ?_
    refine sv_iload_n hΓ dX0_takes_12 rfl 1 rfl rfl ?_
    refine sv_icmp_eq (tgt := 24) hΓ dX0_takes_13 (by decide) rfl (fun u2 => ?_) (fun u2 => ?_)
    · refine sv_iconst (v := 1) hΓ dX0_takes_24 (by decide) rfl ?_
      refine sv_goto (pc' := 29) hΓ dX0_takes_25 (by decide) ?_
      exact sv_zret hΓ hQ dX0_takes_29 (Nat.le_of_ble_eq_true rfl) (Nat.le_of_ble_eq_true rfl) rfl ⟨by rw [bI_iff (takes_i hj)]; simp [bI, u1, u2], rfl, rfl⟩
    · refine sv_aload_n hΓ dX0_takes_16 rfl 0 rfl rfl ?_
      refine gt_X0_27 hΓ hA.m rfl dX0_takes_17 rfl ?_
      refine sv_iload_n hΓ dX0_takes_20 rfl 1 rfl rfl ?_
      refine sv_icmp_ne (tgt := 28) hΓ dX0_takes_21 (by decide) rfl (fun u3 => ?_) (fun u3 => ?_)
      · refine sv_iconst (v := 0) hΓ dX0_takes_28 (by decide) rfl ?_
        exact sv_zret hΓ hQ dX0_takes_29 (Nat.le_of_ble_eq_true rfl) (Nat.le_of_ble_eq_true rfl) rfl ⟨by rw [bI_iff (takes_i hj)]; simp [bI, u1, u2, u3], rfl, rfl⟩
      · refine sv_iconst (v := 1) hΓ dX0_takes_24 (by decide) rfl ?_
        refine sv_goto (pc' := 29) hΓ dX0_takes_25 (by decide) ?_
        exact sv_zret hΓ hQ dX0_takes_29 (Nat.le_of_ble_eq_true rfl) (Nat.le_of_ble_eq_true rfl) rfl ⟨by rw [bI_iff (takes_i hj)]; simp [bI, u1, u2, u3], rfl, rfl⟩
set_option maxRecDepth 100000 in
set_option maxHeartbeats 1000000 in
/-- failure -/
theorem ct_X0_failure {E : aG} (l : Launch) (c : aI) (nu : Nat → Int64) (a : Nat) (k : Nat) (s : Nat) {ci : Nat → Nat → Int32} {cl : Nat → Nat → Int64} {cr : Nat → Nat → Option Nat} {dy : aM} {nx : Nat} (hA : AT c nu dy a k s) : CT E l yX0_failure cX0_failure 1 (some .int) 0 [.ref k] (mm ci cl cr dy) nx 0 0 (fun r M' nx' => r = some (.int (flF (c 44 a))) ∧ M' = mm ci cl cr dy ∧ nx = nx') := by
  refine CT_intro (by decide) (Nat.le_of_ble_eq_true rfl) (fun Γ hΓ hQ => ?_)
  replace hΓ : CK E RX0 cX0_failure 1 (some .int) "failure" 0 0 0 Γ := hΓ
  show SV E Γ 1 (mm ci cl cr dy) nx 0 0 0 [(0, .ref k)] []
  refine sv_aload_n hΓ dX0_failure_0 rfl 0 rfl rfl ?_
  refine gt_X0_9 hΓ hA.m rfl dX0_failure_1 rfl ?_
  refine sv_table (x := c 44 a) (lo := 1) (hi := 9) 8 rfl (fun u1 => ?_) (fun k hk u1 => ?_)
  · refine sv_tableOut (pc' := 62) hΓ dX0_failure_4 u1 (by decide) ?_
    refine sv_iconst (v := 0) hΓ dX0_failure_62 (by decide) rfl ?_
    exact sv_iret hΓ hQ dX0_failure_63 (Nat.le_of_ble_eq_true rfl) (Nat.le_of_ble_eq_true rfl) ⟨by rw [flF_out u1], rfl, rfl⟩
  · obtain rfl | rfl | rfl | rfl | rfl | rfl | rfl | rfl | rfl : k = 0 ∨ k = 1 ∨ k = 2 ∨ k = 3 ∨ k = 4 ∨ k = 5 ∨ k = 6 ∨ k = 7 ∨ k = 8 := by omega
    · refine sv_tableIn (off := 56) (pc' := 60) hΓ dX0_failure_4 (by omega) (by omega) (by rw [u1]; rfl) (by decide) ?_
      replace u1 : c 44 a = (1 : Int32) := Int32.toInt_inj.mp (u1.trans (by decide))
      refine sv_iconst (v := 3) hΓ dX0_failure_60 (by decide) rfl ?_
      exact sv_iret hΓ hQ dX0_failure_61 (Nat.le_of_ble_eq_true rfl) (Nat.le_of_ble_eq_true rfl) ⟨by rw [u1]; rfl, rfl, rfl⟩
    · refine sv_tableIn (off := 58) (pc' := 62) hΓ dX0_failure_4 (by omega) (by omega) (by rw [u1]; rfl) (by decide) ?_
      replace u1 : c 44 a = (2 : Int32) := Int32.toInt_inj.mp (u1.trans (by decide))
      refine sv_iconst (v := 0) hΓ dX0_failure_62 (by decide) rfl ?_
      exact sv_iret hΓ hQ dX0_failure_63 (Nat.le_of_ble_eq_true rfl) (Nat.le_of_ble_eq_true rfl) ⟨by rw [u1]; rfl, rfl, rfl⟩
    · refine sv_tableIn (off := 58) (pc' := 62) hΓ dX0_failure_4 (by omega) (by omega) (by rw [u1]; rfl) (by decide) ?_
      replace u1 : c 44 a = (3 : Int32) := Int32.toInt_inj.mp (u1.trans (by decide))
      refine sv_iconst (v := 0) hΓ dX0_failure_62 (by decide) rfl ?_
      exact sv_iret hΓ hQ dX0_failure_63 (Nat.le_of_ble_eq_true rfl) (Nat.le_of_ble_eq_true rfl) ⟨by rw [u1]; rfl, rfl, rfl⟩
    · refine sv_tableIn (off := 58) (pc' := 62) hΓ dX0_failure_4 (by omega) (by omega) (by rw [u1]; rfl) (by decide) ?_
      replace u1 : c 44 a = (4 : Int32) := Int32.toInt_inj.mp (u1.trans (by decide))
      refine sv_iconst (v := 0) hΓ dX0_failure_62 (by decide) rfl ?_
      exact sv_iret hΓ hQ dX0_failure_63 (Nat.le_of_ble_eq_true rfl) (Nat.le_of_ble_eq_true rfl) ⟨by rw [u1]; rfl, rfl, rfl⟩
    · refine sv_tableIn (off := 52) (pc' := 56) hΓ dX0_failure_4 (by omega) (by omega) (by rw [u1]; rfl) (by decide) ?_
      replace u1 : c 44 a = (5 : Int32) := Int32.toInt_inj.mp (u1.trans (by decide))
      refine sv_iconst (v := 1) hΓ dX0_failure_56 (by decide) rfl ?_
      exact sv_iret hΓ hQ dX0_failure_57 (Nat.le_of_ble_eq_true rfl) (Nat.le_of_ble_eq_true rfl) ⟨by rw [u1]; rfl, rfl, rfl⟩
    · refine sv_tableIn (off := 58) (pc' := 62) hΓ dX0_failure_4 (by omega) (by omega) (by rw [u1]; rfl) (by decide) ?_
      replace u1 : c 44 a = (6 : Int32) := Int32.toInt_inj.mp (u1.trans (by decide))
      refine sv_iconst (v := 0) hΓ dX0_failure_62 (by decide) rfl ?_
      exact sv_iret hΓ hQ dX0_failure_63 (Nat.le_of_ble_eq_true rfl) (Nat.le_of_ble_eq_true rfl) ⟨by rw [u1]; rfl, rfl, rfl⟩
    · refine sv_tableIn (off := 58) (pc' := 62) hΓ dX0_failure_4 (by omega) (by omega) (by rw [u1]; rfl) (by decide) ?_
      replace u1 : c 44 a = (7 : Int32) := Int32.toInt_inj.mp (u1.trans (by decide))
      refine sv_iconst (v := 0) hΓ dX0_failure_62 (by decide) rfl ?_
      exact sv_iret hΓ hQ dX0_failure_63 (Nat.le_of_ble_eq_true rfl) (Nat.le_of_ble_eq_true rfl) ⟨by rw [u1]; rfl, rfl, rfl⟩
    · refine sv_tableIn (off := 54) (pc' := 58) hΓ dX0_failure_4 (by omega) (by omega) (by rw [u1]; rfl) (by decide) ?_
      replace u1 : c 44 a = (8 : Int32) := Int32.toInt_inj.mp (u1.trans (by decide))
      refine sv_iconst (v := 2) hΓ dX0_failure_58 (by decide) rfl ?_
      exact sv_iret hΓ hQ dX0_failure_59 (Nat.le_of_ble_eq_true rfl) (Nat.le_of_ble_eq_true rfl) ⟨by rw [u1]; rfl, rfl, rfl⟩
    · refine sv_tableIn (off := 54) (pc' := 58) hΓ dX0_failure_4 (by omega) (by omega) (by rw [u1]; rfl) (by decide) ?_
      replace u1 : c 44 a = (9 : Int32) := Int32.toInt_inj.mp (u1.trans (by decide))
      refine sv_iconst (v := 2) hΓ dX0_failure_58 (by decide) rfl ?_
      exact sv_iret hΓ hQ dX0_failure_59 (Nat.le_of_ble_eq_true rfl) (Nat.le_of_ble_eq_true rfl) ⟨by rw [u1]; rfl, rfl, rfl⟩
set_option maxRecDepth 100000 in
set_option maxHeartbeats 1000000 in
/-- canFail -/
theorem ct_X0_canFail {E : aG} (l : Launch) (c : aI) (nu : Nat → Int64) (a : Nat) (k : Nat) (s : Nat) {ci : Nat → Nat → Int32} {cl : Nat → Nat → Int64} {cr : Nat → Nat → Option Nat} {dy : aM} {nx : Nat} (hA : AT c nu dy a k s) : CT E l yX0_canFail cX0_canFail 1 (some .boolean) 1 [.ref k] (mm ci cl cr dy) nx 0 0 (fun r M' nx' => r = some (.int (bI (cF (c 44 a)))) ∧ M' = mm ci cl cr dy ∧ nx = nx') := by
  refine CT_intro (by decide) (Nat.le_of_ble_eq_true rfl) (fun Γ hΓ hQ => ?_)
  replace hΓ : CK E RX0 cX0_canFail 1 (some .boolean) "canFail" 1 0 0 Γ := hΓ
  show SV E Γ 1 (mm ci cl cr dy) nx 0 0 0 [(0, .ref k)] []
  refine sv_aload_n hΓ dX0_canFail_0 rfl 0 rfl rfl ?_
  refine sv_callV hΓ (fun l => ct_X0_failure l c nu a k s hA) wv_X0_34 vs_X0_failure rfl hA.m rfl rfl (by decide) (Nat.le_of_ble_eq_true rfl) (Nat.le_of_ble_eq_true rfl) (Nat.le_of_ble_eq_true rfl) dX0_canFail_1 rfl (fun r M' nx' p1 => ?_)
  obtain ⟨rfl, rfl, rfl⟩ := p1
  show SV E Γ 1 (mm ci cl cr dy) nx 0 0 4 [(0, .ref k)] [.int (flF (c 44 a))]
  refine sv_if_eq (tgt := 11) hΓ dX0_canFail_4 (by decide) rfl (fun u2 => ?_) (fun u2 => ?_)
  · refine sv_iconst (v := 0) hΓ dX0_canFail_11 (by decide) rfl ?_
    exact sv_zret hΓ hQ dX0_canFail_12 (Nat.le_of_ble_eq_true rfl) (Nat.le_of_ble_eq_true rfl) rfl ⟨by rw [bI_f (fun q => (flF_0 _).mpr q u2)], rfl, rfl⟩
  · refine sv_iconst (v := 1) hΓ dX0_canFail_7 (by decide) rfl ?_
    refine sv_goto (pc' := 12) hΓ dX0_canFail_8 (by decide) ?_
    exact sv_zret hΓ hQ dX0_canFail_12 (Nat.le_of_ble_eq_true rfl) (Nat.le_of_ble_eq_true rfl) rfl ⟨by rw [bI_t ((flF_0 _).mp u2)], rfl, rfl⟩
set_option maxRecDepth 100000 in
set_option maxHeartbeats 1000000 in
/-- changesOutside -/
theorem ct_X0_changesOutside {E : aG} (l : Launch) (c : aI) (nu : Nat → Int64) (a : Nat) (k : Nat) (s : Nat) {ci : Nat → Nat → Int32} {cl : Nat → Nat → Int64} {cr : Nat → Nat → Option Nat} {dy : aM} {nx : Nat} (hA : AT c nu dy a k s) : CT E l yX0_changesOutside cX0_changesOutside 1 (some .boolean) 0 [.ref k] (mm ci cl cr dy) nx 0 0 (fun r M' nx' => r = some (.int (bI (c 44 a = 1 ∨ c 44 a = 9 ∨ c 44 a = 10))) ∧ M' = mm ci cl cr dy ∧ nx = nx') := by
  refine CT_intro (by decide) (Nat.le_of_ble_eq_true rfl) (fun Γ hΓ hQ => ?_)
  replace hΓ : CK E RX0 cX0_changesOutside 1 (some .boolean) "changesOutside" 0 0 0 Γ := hΓ
  show SV E Γ 1 (mm ci cl cr dy) nx 0 0 0 [(0, .ref k)] []
  refine sv_aload_n hΓ dX0_changesOutside_0 rfl 0 rfl rfl ?_
  refine gt_X0_9 hΓ hA.m rfl dX0_changesOutside_1 rfl ?_
  refine sv_iconst (v := 1) hΓ dX0_changesOutside_4 (by decide) rfl ?_
  refine sv_icmp_eq (tgt := 26) hΓ dX0_changesOutside_5 (by decide) rfl (fun u1 => ?_) (fun u1 => ?_)
  · refine sv_iconst (v := 1) hΓ dX0_changesOutside_26 (by decide) rfl ?_
    refine sv_goto (pc' := 31) hΓ dX0_changesOutside_27 (by decide) ?_
    exact sv_zret hΓ hQ dX0_changesOutside_31 (Nat.le_of_ble_eq_true rfl) (Nat.le_of_ble_eq_true rfl) rfl ⟨by simp [bI, u1], rfl, rfl⟩
  · refine sv_aload_n hΓ dX0_changesOutside_8 rfl 0 rfl rfl ?_
    refine gt_X0_9 hΓ hA.m rfl dX0_changesOutside_9 rfl ?_
    refine sv_bipush (v := 9) hΓ dX0_changesOutside_12 (by decide) rfl ?_
    refine sv_icmp_eq (tgt := 26) hΓ dX0_changesOutside_14 (by decide) rfl (fun u2 => ?_) (fun u2 => ?_)
    · refine sv_iconst (v := 1) hΓ dX0_changesOutside_26 (by decide) rfl ?_
      refine sv_goto (pc' := 31) hΓ dX0_changesOutside_27 (by decide) ?_
      exact sv_zret hΓ hQ dX0_changesOutside_31 (Nat.le_of_ble_eq_true rfl) (Nat.le_of_ble_eq_true rfl) rfl ⟨by simp [bI, u1, u2], rfl, rfl⟩
    · refine sv_aload_n hΓ dX0_changesOutside_17 rfl 0 rfl rfl ?_
      refine gt_X0_9 hΓ hA.m rfl dX0_changesOutside_18 rfl ?_
      refine sv_bipush (v := 10) hΓ dX0_changesOutside_21 (by decide) rfl ?_
      refine sv_icmp_ne (tgt := 30) hΓ dX0_changesOutside_23 (by decide) rfl (fun u3 => ?_) (fun u3 => ?_)
      · refine sv_iconst (v := 0) hΓ dX0_changesOutside_30 (by decide) rfl ?_
        exact sv_zret hΓ hQ dX0_changesOutside_31 (Nat.le_of_ble_eq_true rfl) (Nat.le_of_ble_eq_true rfl) rfl ⟨by simp [bI, u1, u2, u3], rfl, rfl⟩
      · refine sv_iconst (v := 1) hΓ dX0_changesOutside_26 (by decide) rfl ?_
        refine sv_goto (pc' := 31) hΓ dX0_changesOutside_27 (by decide) ?_
        exact sv_zret hΓ hQ dX0_changesOutside_31 (Nat.le_of_ble_eq_true rfl) (Nat.le_of_ble_eq_true rfl) rfl ⟨by simp [bI, u1, u2, u3], rfl, rfl⟩
set_option maxRecDepth 100000 in
set_option maxHeartbeats 1000000 in
/-- heft -/
theorem ct_X0_heft {E : aG} (l : Launch) (c : aI) (nu : Nat → Int64) (a : Nat) (k : Nat) (s : Nat) {ci : Nat → Nat → Int32} {cl : Nat → Nat → Int64} {cr : Nat → Nat → Option Nat} {dy : aM} {nx : Nat} (hA : AT c nu dy a k s) : CT E l yX0_heft cX0_heft 2 (some .int) 1 [.ref k] (mm ci cl cr dy) nx 0 0 (fun r M' nx' => r = some (.int (wtF c a)) ∧ M' = mm ci cl cr dy ∧ nx = nx') := by
  refine CT_intro (by decide) (Nat.le_of_ble_eq_true rfl) (fun Γ hΓ hQ => ?_)
  replace hΓ : CK E RX0 cX0_heft 2 (some .int) "heft" 1 0 0 Γ := hΓ
  show SV E Γ 2 (mm ci cl cr dy) nx 0 0 0 [(0, .ref k)] []
  refine sv_aload_n hΓ dX0_heft_0 rfl 0 rfl rfl ?_
  refine gt_X0_15 hΓ hA.m rfl dX0_heft_1 rfl ?_
  refine sv_bipush (v := 10) hΓ dX0_heft_4 (by decide) rfl ?_
  refine sv_aload_n hΓ dX0_heft_6 rfl 0 rfl rfl ?_
  refine sv_callV hΓ (fun l => ct_X0_operands l c nu a k s hA) wv_X0_55 vs_X0_operands rfl hA.m rfl rfl (by decide) (Nat.le_of_ble_eq_true rfl) (Nat.le_of_ble_eq_true rfl) (Nat.le_of_ble_eq_true rfl) dX0_heft_7 rfl (fun r M' nx' p1 => ?_)
  obtain ⟨rfl, rfl, rfl⟩ := p1
  show SV E Γ 2 (mm ci cl cr dy) nx 0 0 10 [(0, .ref k)] [.int (nI (opN c a 3)), .int 10, .int (c 45 a)]
  refine sv_imulE (v := nI (10 * (opN c a 3))) hΓ dX0_heft_10 (nx_mul rfl rfl) rfl ?_
  refine sv_iadd hΓ dX0_heft_11 rfl ?_
  refine sv_istore_n (lv' := [(1, .int ((c 45 a) + (nI (10 * (opN c a 3))))), (0, .ref k)]) hΓ dX0_heft_12 rfl (by decide) rfl rfl ?_
  refine sv_aload_n hΓ dX0_heft_13 rfl 1 rfl rfl ?_
  refine gt_X0_9 hΓ hA.m rfl dX0_heft_14 rfl ?_
  refine sv_table (x := c 44 a) (lo := 1) (hi := 10) 9 rfl (fun u2 => ?_) (fun k hk u2 => ?_)
  · refine sv_tableOut (pc' := 98) hΓ dX0_heft_17 u2 (by decide) ?_
    refine sv_iload_n hΓ dX0_heft_98 rfl 0 rfl rfl ?_
    exact sv_iret hΓ hQ dX0_heft_99 (Nat.le_of_ble_eq_true rfl) (Nat.le_of_ble_eq_true rfl) ⟨by rw [wtF, if_neg (out_ne u2 4 (by decide)), if_neg (out_ne u2 5 (by decide)), if_neg (not_or_intro (out_ne u2 8 (by decide)) (out_ne u2 9 (by decide))), if_neg (not_or_intro (out_ne u2 1 (by decide)) (out_ne u2 10 (by decide)))], rfl, rfl⟩
  · obtain rfl | rfl | rfl | rfl | rfl | rfl | rfl | rfl | rfl | rfl : k = 0 ∨ k = 1 ∨ k = 2 ∨ k = 3 ∨ k = 4 ∨ k = 5 ∨ k = 6 ∨ k = 7 ∨ k = 8 ∨ k = 9 := by omega
    · refine sv_tableIn (off := 72) (pc' := 89) hΓ dX0_heft_17 (by omega) (by omega) (by rw [u2]; rfl) (by decide) ?_
      replace u2 : c 44 a = (1 : Int32) := Int32.toInt_inj.mp (u2.trans (by decide))
      refine sv_iload_n hΓ dX0_heft_89 rfl 0 rfl rfl ?_
      refine sv_bipush (v := 7) hΓ dX0_heft_90 (by decide) rfl ?_
      refine sv_iadd hΓ dX0_heft_92 rfl ?_
      refine sv_sipush (v := 1000) hΓ dX0_heft_93 (by decide) rfl ?_
      refine sv_iadd hΓ dX0_heft_96 rfl ?_
      exact sv_iret hΓ hQ dX0_heft_97 (Nat.le_of_ble_eq_true rfl) (Nat.le_of_ble_eq_true rfl) ⟨by simp [wtF, u2, Int32.add_assoc], rfl, rfl⟩
    · refine sv_tableIn (off := 81) (pc' := 98) hΓ dX0_heft_17 (by omega) (by omega) (by rw [u2]; rfl) (by decide) ?_
      replace u2 : c 44 a = (2 : Int32) := Int32.toInt_inj.mp (u2.trans (by decide))
      refine sv_iload_n hΓ dX0_heft_98 rfl 0 rfl rfl ?_
      exact sv_iret hΓ hQ dX0_heft_99 (Nat.le_of_ble_eq_true rfl) (Nat.le_of_ble_eq_true rfl) ⟨by simp [wtF, u2], rfl, rfl⟩
    · refine sv_tableIn (off := 81) (pc' := 98) hΓ dX0_heft_17 (by omega) (by omega) (by rw [u2]; rfl) (by decide) ?_
      replace u2 : c 44 a = (3 : Int32) := Int32.toInt_inj.mp (u2.trans (by decide))
      refine sv_iload_n hΓ dX0_heft_98 rfl 0 rfl rfl ?_
      exact sv_iret hΓ hQ dX0_heft_99 (Nat.le_of_ble_eq_true rfl) (Nat.le_of_ble_eq_true rfl) ⟨by simp [wtF, u2], rfl, rfl⟩
    · refine sv_tableIn (off := 55) (pc' := 72) hΓ dX0_heft_17 (by omega) (by omega) (by rw [u2]; rfl) (by decide) ?_
      replace u2 : c 44 a = (4 : Int32) := Int32.toInt_inj.mp (u2.trans (by decide))
      refine sv_iload_n hΓ dX0_heft_72 rfl 0 rfl rfl ?_
      refine sv_bipush (v := 100) hΓ dX0_heft_73 (by decide) rfl ?_
      refine sv_iadd hΓ dX0_heft_75 rfl ?_
      exact sv_iret hΓ hQ dX0_heft_76 (Nat.le_of_ble_eq_true rfl) (Nat.le_of_ble_eq_true rfl) ⟨by simp [wtF, u2], rfl, rfl⟩
    · refine sv_tableIn (off := 60) (pc' := 77) hΓ dX0_heft_17 (by omega) (by omega) (by rw [u2]; rfl) (by decide) ?_
      replace u2 : c 44 a = (5 : Int32) := Int32.toInt_inj.mp (u2.trans (by decide))
      refine sv_iconst (v := 2) hΓ dX0_heft_77 (by decide) rfl ?_
      refine sv_iload_n hΓ dX0_heft_78 rfl 0 rfl rfl ?_
      refine sv_bipush (v := 100) hΓ dX0_heft_79 (by decide) rfl ?_
      refine sv_iadd hΓ dX0_heft_81 rfl ?_
      refine sv_imul hΓ dX0_heft_82 rfl ?_
      exact sv_iret hΓ hQ dX0_heft_83 (Nat.le_of_ble_eq_true rfl) (Nat.le_of_ble_eq_true rfl) ⟨by simp [wtF, u2], rfl, rfl⟩
    · refine sv_tableIn (off := 81) (pc' := 98) hΓ dX0_heft_17 (by omega) (by omega) (by rw [u2]; rfl) (by decide) ?_
      replace u2 : c 44 a = (6 : Int32) := Int32.toInt_inj.mp (u2.trans (by decide))
      refine sv_iload_n hΓ dX0_heft_98 rfl 0 rfl rfl ?_
      exact sv_iret hΓ hQ dX0_heft_99 (Nat.le_of_ble_eq_true rfl) (Nat.le_of_ble_eq_true rfl) ⟨by simp [wtF, u2], rfl, rfl⟩
    · refine sv_tableIn (off := 81) (pc' := 98) hΓ dX0_heft_17 (by omega) (by omega) (by rw [u2]; rfl) (by decide) ?_
      replace u2 : c 44 a = (7 : Int32) := Int32.toInt_inj.mp (u2.trans (by decide))
      refine sv_iload_n hΓ dX0_heft_98 rfl 0 rfl rfl ?_
      exact sv_iret hΓ hQ dX0_heft_99 (Nat.le_of_ble_eq_true rfl) (Nat.le_of_ble_eq_true rfl) ⟨by simp [wtF, u2], rfl, rfl⟩
    · refine sv_tableIn (off := 67) (pc' := 84) hΓ dX0_heft_17 (by omega) (by omega) (by rw [u2]; rfl) (by decide) ?_
      replace u2 : c 44 a = (8 : Int32) := Int32.toInt_inj.mp (u2.trans (by decide))
      refine sv_iload_n hΓ dX0_heft_84 rfl 0 rfl rfl ?_
      refine sv_bipush (v := 7) hΓ dX0_heft_85 (by decide) rfl ?_
      refine sv_iadd hΓ dX0_heft_87 rfl ?_
      exact sv_iret hΓ hQ dX0_heft_88 (Nat.le_of_ble_eq_true rfl) (Nat.le_of_ble_eq_true rfl) ⟨by simp [wtF, u2], rfl, rfl⟩
    · refine sv_tableIn (off := 67) (pc' := 84) hΓ dX0_heft_17 (by omega) (by omega) (by rw [u2]; rfl) (by decide) ?_
      replace u2 : c 44 a = (9 : Int32) := Int32.toInt_inj.mp (u2.trans (by decide))
      refine sv_iload_n hΓ dX0_heft_84 rfl 0 rfl rfl ?_
      refine sv_bipush (v := 7) hΓ dX0_heft_85 (by decide) rfl ?_
      refine sv_iadd hΓ dX0_heft_87 rfl ?_
      exact sv_iret hΓ hQ dX0_heft_88 (Nat.le_of_ble_eq_true rfl) (Nat.le_of_ble_eq_true rfl) ⟨by simp [wtF, u2], rfl, rfl⟩
    · refine sv_tableIn (off := 72) (pc' := 89) hΓ dX0_heft_17 (by omega) (by omega) (by rw [u2]; rfl) (by decide) ?_
      replace u2 : c 44 a = (10 : Int32) := Int32.toInt_inj.mp (u2.trans (by decide))
      refine sv_iload_n hΓ dX0_heft_89 rfl 0 rfl rfl ?_
      refine sv_bipush (v := 7) hΓ dX0_heft_90 (by decide) rfl ?_
      refine sv_iadd hΓ dX0_heft_92 rfl ?_
      refine sv_sipush (v := 1000) hΓ dX0_heft_93 (by decide) rfl ?_
      refine sv_iadd hΓ dX0_heft_96 rfl ?_
      exact sv_iret hΓ hQ dX0_heft_97 (Nat.le_of_ble_eq_true rfl) (Nat.le_of_ble_eq_true rfl) ⟨by simp [wtF, u2, Int32.add_assoc], rfl, rfl⟩
