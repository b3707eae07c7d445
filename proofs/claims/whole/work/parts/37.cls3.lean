set_option maxRecDepth 100000 in
set_option maxHeartbeats 1000000 in
/-- fits -/
theorem ct_X8_fits {E : aG} (l : Launch) (s : Nat) (lo : Int64) (hi : Int64) (w : Int32) {ci : Nat → Nat → Int32} {cl : Nat → Nat → Int64} {cr : Nat → Nat → Option Nat} {dy : aM} {nx : Nat} (hS : SP dy s lo hi) : CT E l yX8_fits cX8_fits 4 (some .boolean) 0 [.ref s, .int w] (mm ci cl cr dy) nx 0 0 (fun r M' nx' => r = some (.int (bI (¬ lo < -pw w ∧ ¬ pw w ≤ hi))) ∧ M' = mm ci cl cr dy ∧ nx = nx') := by
  refine CT_intro (by decide) (Nat.le_of_ble_eq_true rfl) (fun Γ hΓ hQ => ?_)
  replace hΓ : CK E RX8 cX8_fits 4 (some .boolean) "fits" 0 0 0 Γ := hΓ
  show SV E Γ 4 (mm ci cl cr dy) nx 0 0 0 [(0, .ref s), (1, .int w)] []
  refine sv_lconst (v := 1) hΓ dX8_fits_0 (by decide) rfl ?_
  refine sv_iload_n hΓ dX8_fits_1 rfl 1 rfl rfl ?_
  refine sv_iconst (v := 1) hΓ dX8_fits_2 (by decide) rfl ?_
  refine sv_isub hΓ dX8_fits_3 rfl ?_
  refine sv_lshl hΓ dX8_fits_4 rfl rfl ?_
  refine sv_lstore_n (lv' := [(2, .long (1 <<< ((w - 1 : Int32).toInt64 &&& 63))), (0, .ref s), (1, .int w)]) hΓ dX8_fits_5 rfl (by decide) rfl rfl ?_
  refine sv_aload_n hΓ dX8_fits_6 rfl 1 rfl rfl ?_
  refine gt_X8_9 hΓ hS.m rfl dX8_fits_7 rfl ?_
  refine sv_lload_n hΓ dX8_fits_10 rfl 0 rfl rfl ?_
  refine sv_lneg hΓ dX8_fits_11 rfl ?_
  refine sv_lcmp hΓ dX8_fits_12 rfl ?_
  refine sv_if_lt (tgt := 29) hΓ dX8_fits_13 (by decide) rfl (fun u1 => ?_) (fun u1 => ?_)
  · replace u1 := lgc_lt.mp u1
    refine sv_iconst (v := 0) hΓ dX8_fits_29 (by decide) rfl ?_
    exact sv_zret hΓ hQ dX8_fits_30 (Nat.le_of_ble_eq_true rfl) (Nat.le_of_ble_eq_true rfl) rfl ⟨by rw [bI_f (fun q => q.1 u1)], rfl, rfl⟩
  · replace u1 := mt lgc_lt.mpr u1
    refine sv_aload_n hΓ dX8_fits_16 rfl 1 rfl rfl ?_
    refine gt_X8_15 hΓ hS.m rfl dX8_fits_17 rfl ?_
    refine sv_lload_n hΓ dX8_fits_20 rfl 0 rfl rfl ?_
    refine sv_lcmp hΓ dX8_fits_21 rfl ?_
    refine sv_if_ge (tgt := 29) hΓ dX8_fits_22 (by decide) rfl (fun u2 => ?_) (fun u2 => ?_)
    · replace u2 := lgc_ge.mp u2
      refine sv_iconst (v := 0) hΓ dX8_fits_29 (by decide) rfl ?_
      exact sv_zret hΓ hQ dX8_fits_30 (Nat.le_of_ble_eq_true rfl) (Nat.le_of_ble_eq_true rfl) rfl ⟨by rw [bI_f (fun q => q.2 u2)], rfl, rfl⟩
    · replace u2 := mt lgc_ge.mpr u2
      refine sv_iconst (v := 1) hΓ dX8_fits_25 (by decide) rfl ?_
      refine sv_goto (pc' := 30) hΓ dX8_fits_26 (by decide) ?_
      exact sv_zret hΓ hQ dX8_fits_30 (Nat.le_of_ble_eq_true rfl) (Nat.le_of_ble_eq_true rfl) rfl ⟨by rw [bI_t ⟨u1, u2⟩], rfl, rfl⟩
set_option maxRecDepth 100000 in
set_option maxHeartbeats 1000000 in
/-- meets -/
theorem ct_X8_meets {E : aG} (l : Launch) (s : Nat) (lo : Int64) (hi : Int64) (s2 : Nat) (lo2 : Int64) (hi2 : Int64) {ci : Nat → Nat → Int32} {cl : Nat → Nat → Int64} {cr : Nat → Nat → Option Nat} {dy : aM} {nx : Nat} (hS : SP dy s lo hi) (hS2 : SP dy s2 lo2 hi2) : CT E l yX8_meets cX8_meets 2 (some .boolean) 0 [.ref s, .ref s2] (mm ci cl cr dy) nx 0 0 (fun r M' nx' => r = some (.int (bI (¬ hi2 < lo ∧ ¬ hi < lo2))) ∧ M' = mm ci cl cr dy ∧ nx = nx') := by
  refine CT_intro (by decide) (Nat.le_of_ble_eq_true rfl) (fun Γ hΓ hQ => ?_)
  replace hΓ : CK E RX8 cX8_meets 2 (some .boolean) "meets" 0 0 0 Γ := hΓ
  show SV E Γ 2 (mm ci cl cr dy) nx 0 0 0 [(0, .ref s), (1, .ref s2)] []
  refine sv_aload_n hΓ dX8_meets_0 rfl 0 rfl rfl ?_
  refine gt_X8_9 hΓ hS.m rfl dX8_meets_1 rfl ?_
  refine sv_aload_n hΓ dX8_meets_4 rfl 1 rfl rfl ?_
  refine gt_X8_15 hΓ hS2.m rfl dX8_meets_5 rfl ?_
  refine sv_lcmp hΓ dX8_meets_8 rfl ?_
  refine sv_if_gt (tgt := 28) hΓ dX8_meets_9 (by decide) rfl (fun u1 => ?_) (fun u1 => ?_)
  · replace u1 := lgc_gt.mp u1
    refine sv_iconst (v := 0) hΓ dX8_meets_28 (by decide) rfl ?_
    exact sv_zret hΓ hQ dX8_meets_29 (Nat.le_of_ble_eq_true rfl) (Nat.le_of_ble_eq_true rfl) rfl ⟨by rw [bI_f (fun q => q.1 u1)], rfl, rfl⟩
  · replace u1 := mt lgc_gt.mpr u1
    refine sv_aload_n hΓ dX8_meets_12 rfl 1 rfl rfl ?_
    refine gt_X8_9 hΓ hS2.m rfl dX8_meets_13 rfl ?_
    refine sv_aload_n hΓ dX8_meets_16 rfl 0 rfl rfl ?_
    refine gt_X8_15 hΓ hS.m rfl dX8_meets_17 rfl ?_
    refine sv_lcmp hΓ dX8_meets_20 rfl ?_
    refine sv_if_gt (tgt := 28) hΓ dX8_meets_21 (by decide) rfl (fun u2 => ?_) (fun u2 => ?_)
    · replace u2 := lgc_gt.mp u2
      refine sv_iconst (v := 0) hΓ dX8_meets_28 (by decide) rfl ?_
      exact sv_zret hΓ hQ dX8_meets_29 (Nat.le_of_ble_eq_true rfl) (Nat.le_of_ble_eq_true rfl) rfl ⟨by rw [bI_f (fun q => q.2 u2)], rfl, rfl⟩
    · replace u2 := mt lgc_gt.mpr u2
      refine sv_iconst (v := 1) hΓ dX8_meets_24 (by decide) rfl ?_
      refine sv_goto (pc' := 29) hΓ dX8_meets_25 (by decide) ?_
      exact sv_zret hΓ hQ dX8_meets_29 (Nat.le_of_ble_eq_true rfl) (Nat.le_of_ble_eq_true rfl) rfl ⟨by rw [bI_t ⟨u1, u2⟩], rfl, rfl⟩
set_option maxRecDepth 100000 in
set_option maxHeartbeats 1000000 in
/-- bits -/
theorem ct_X8_bits {E : aG} (l : Launch) (s : Nat) (lo : Int64) (hi : Int64) {ci : Nat → Nat → Int32} {cl : Nat → Nat → Int64} {cr : Nat → Nat → Option Nat} {dy : aM} {nx : Nat} (hS : SP dy s lo hi) (hfit : fit lo hi (nI 32)) : CT E l yX8_bits cX8_bits 2 (some .int) 1 [.ref s] (mm ci cl cr dy) nx 0 0 (fun r M' nx' => r = some (.int (nI (btF lo hi 32 1))) ∧ M' = mm ci cl cr dy ∧ nx = nx') := by
  refine CT_intro (by decide) (Nat.le_of_ble_eq_true rfl) (fun Γ hΓ hQ => ?_)
  replace hΓ : CK E RX8 cX8_bits 2 (some .int) "bits" 1 0 0 Γ := hΓ
  show SV E Γ 2 (mm ci cl cr dy) nx 0 0 0 [(0, .ref s)] []
  refine sv_iconst (v := 1) hΓ dX8_bits_0 (by decide) rfl ?_
  refine sv_istore_n (lv' := [(1, .int 1), (0, .ref s)]) hΓ dX8_bits_1 rfl (by decide) rfl rfl ?_
  have LP2 : ∀ kq n : Nat, n + kq = 32 → 1 ≤ n → btF lo hi (kq + 1) n = btF lo hi 32 1 → SV E Γ 2 (mm ci cl cr dy) nx 0 0 2 [(1, .int (nI n)), (0, .ref s)] [] := by
    intro kq
    induction kq with
    | zero =>
      intro n ha
      have ea : n = 32 := by omega
      intro h1 hf
      refine sv_iload_n hΓ dX8_bits_2 rfl 0 rfl rfl ?_
      refine sv_bipush (v := 32) hΓ dX8_bits_3 (by decide) rfl ?_
      refine sv_icmp_ge (tgt := 22) hΓ dX8_bits_5 (by decide) rfl (fun u1 => ?_) (fun u1 => absurd (nI_le (a := 32) (by omega) (by omega)) u1)
      refine sv_iload_n hΓ dX8_bits_22 rfl 0 rfl rfl ?_
      exact sv_iret hΓ hQ dX8_bits_23 (Nat.le_of_ble_eq_true rfl) (Nat.le_of_ble_eq_true rfl) ⟨by rw [← hf, ea]; simp only [btF]; rw [if_pos hfit], rfl, rfl⟩
    | succ kq ih =>
      intro n ha
      intro h1 hf
      refine sv_iload_n hΓ dX8_bits_2 rfl 0 rfl rfl ?_
      refine sv_bipush (v := 32) hΓ dX8_bits_3 (by decide) rfl ?_
      refine sv_icmp_ge (tgt := 22) hΓ dX8_bits_5 (by decide) rfl (fun u2 => absurd u2 (nI_ge (b := 32) (by omega) (by omega))) (fun u2 => ?_)
      refine sv_aload_n hΓ dX8_bits_8 rfl 1 rfl rfl ?_
      refine sv_iload_n hΓ dX8_bits_9 rfl 0 rfl rfl ?_
      refine sv_callV hΓ (fun l => ct_X8_fits l s lo hi (nI n) hS) wv_X8_21 vs_X8_fits rfl hS.m rfl rfl (by decide) (Nat.le_of_ble_eq_true rfl) (Nat.le_of_ble_eq_true rfl) (Nat.le_of_ble_eq_true rfl) dX8_bits_10 rfl (fun r M' nx' p3 => ?_)
      obtain ⟨rfl, rfl, rfl⟩ := p3
      show SV E Γ 2 (mm ci cl cr dy) nx 0 0 13 [(1, .int (nI n)), (0, .ref s)] [.int (bI (¬ lo < -pw (nI n) ∧ ¬ pw (nI n) ≤ hi))]
      refine sv_if_ne (tgt := 22) hΓ dX8_bits_13 (by decide) rfl (fun u4 => ?_) (fun u4 => ?_)
      · replace u4 := bI_ne.mp u4
        refine sv_iload_n hΓ dX8_bits_22 rfl 0 rfl rfl ?_
        exact sv_iret hΓ hQ dX8_bits_23 (Nat.le_of_ble_eq_true rfl) (Nat.le_of_ble_eq_true rfl) ⟨by rw [← hf]; exact congrArg (fun z => some (Value.int (nI z))) (if_pos (c := fit lo hi (nI n)) (t := n) ⟨u4.1, Int64.not_le.mp u4.2⟩).symm, rfl, rfl⟩
      · replace u4 := bI_0.mp u4
        refine sv_iinc (v := nI (n + 1)) (lv' := [(1, .int (nI (n + 1))), (0, .ref s)]) hΓ dX8_bits_16 0 rfl (nx_inc rfl) (by decide) rfl rfl ?_
        refine sv_goto (pc' := 2) hΓ dX8_bits_19 (by decide) ?_
        exact SV_lv [0, 1] rfl (ih (n + 1) (by omega) (by omega) (by rw [← hf]; exact (if_neg (fun q => u4 ⟨q.1, Int64.not_le.mpr q.2⟩)).symm))
  exact SV_lv [0, 1] rfl (LP2 31 1 (by omega) (by omega) rfl)
set_option maxRecDepth 100000 in
set_option maxHeartbeats 1000000 in
/-- init -/
theorem ct_X2_init {E : aG} (l : Launch) (k : Nat) {ci : Nat → Nat → Int32} {cl : Nat → Nat → Int64} {cr : Nat → Nat → Option Nat} {dy : aM} {nx : Nat}  : CT E l yX2_init cX2_init 1 none 1 [.ref k] (mm ci cl cr dy) nx 0 0 (fun r M' nx' => r = none ∧ M' = mm ci cl cr dy ∧ nx = nx') := by
  refine CT_intro (by decide) (Nat.le_of_ble_eq_true rfl) (fun Γ hΓ hQ => ?_)
  replace hΓ : CK E RX2 cX2_init 1 none "<init>" 1 0 0 Γ := hΓ
  show SV E Γ 1 (mm ci cl cr dy) nx 0 0 0 [(0, .ref k)] []
  refine sv_aload_n hΓ dX2_init_0 rfl 0 rfl rfl ?_
  refine sv_objInit hΓ ⟨tb_285, tb_29, tb_30⟩ (by decide) (Nat.le_of_ble_eq_true rfl) dX2_init_1 rfl ?_
  exact sv_vret hΓ hQ dX2_init_4 (Nat.le_of_ble_eq_true rfl) (Nat.le_of_ble_eq_true rfl) ⟨rfl, rfl, rfl⟩
set_option maxRecDepth 100000 in
set_option maxHeartbeats 1000000 in
/-- init -/
theorem ct_X8_init {E : aG} (l : Launch) (k : Nat) (lo : Int64) (hi : Int64) {ci : Nat → Nat → Int32} {cl : Nat → Nat → Int64} {cr : Nat → Nat → Option Nat} {dy : aM} {nx : Nat} (h74 : 74 ≤ k) (hk : dy k = some (.inr (7, [.long 0, .long 0]))) : CT E l yX8_init cX8_init 5 none 1 [.ref k, .long lo, .long hi] (mm ci cl cr dy) nx 0 0 (fun r M' nx' => r = none ∧ M' = mm ci cl cr (va_up dy k (some (.inr (7, [.long lo, .long hi])))) ∧ nx = nx') := by
  refine CT_intro (by decide) (Nat.le_of_ble_eq_true rfl) (fun Γ hΓ hQ => ?_)
  replace hΓ : CK E RX8 cX8_init 5 none "<init>" 1 0 0 Γ := hΓ
  show SV E Γ 5 (mm ci cl cr dy) nx 0 0 0 [(0, .ref k), (1, .long lo), (3, .long hi)] []
  refine sv_aload_n hΓ dX8_init_0 rfl 0 rfl rfl ?_
  refine sv_objInit hΓ ⟨tb_268, tb_29, tb_30⟩ (by decide) (Nat.le_of_ble_eq_true rfl) dX8_init_1 rfl ?_
  refine sv_aload_n hΓ dX8_init_4 rfl 0 rfl rfl ?_
  refine sv_lload_n hΓ dX8_init_5 rfl 1 rfl rfl ?_
  refine pf_X8_9 hΓ ((mm_hi h74).trans hk) ⟨rfl, rfl⟩ (Nat.lt_of_succ_le (Nat.le_of_ble_eq_true rfl)) dX8_init_6 rfl ?_
  rw [mm_dy h74]
  show SV E Γ 5 (mm ci cl cr (va_up dy k (some (.inr (7, [.long lo, .long 0]))))) nx 0 0 9 [(0, .ref k), (1, .long lo), (3, .long hi)] []
  refine sv_aload_n hΓ dX8_init_9 rfl 0 rfl rfl ?_
  refine sv_lload_n hΓ dX8_init_10 rfl 2 rfl rfl ?_
  refine pf_X8_15 hΓ ((mm_hi h74).trans (va_up_self _ _ _)) ⟨rfl, rfl⟩ (Nat.lt_of_succ_le (Nat.le_of_ble_eq_true rfl)) dX8_init_11 rfl ?_
  rw [mm_dy h74]
  rw [va_up_up]
  show SV E Γ 5 (mm ci cl cr (va_up dy k (some (.inr (7, [.long lo, .long hi]))))) nx 0 0 14 [(0, .ref k), (1, .long lo), (3, .long hi)] []
  exact sv_vret hΓ hQ dX8_init_14 (Nat.le_of_ble_eq_true rfl) (Nat.le_of_ble_eq_true rfl) ⟨rfl, rfl, rfl⟩
set_option maxRecDepth 100000 in
set_option maxHeartbeats 1000000 in
/-- init -/
theorem ct_X0_init {E : aG} (l : Launch) (k : Nat) (o : Int32) (w : Int32) (q : Int32) (x : Int32) (y : Int32) (z : Int32) (sp : Nat) {ci : Nat → Nat → Int32} {cl : Nat → Nat → Int64} {cr : Nat → Nat → Option Nat} {dy : aM} {nx : Nat} (h74 : 74 ≤ k) (hk : dy k = some (.inr (0, [.int 0, .int 0, .int 0, .int 0, .int 0, .int 0, .null]))) (hNW : NW E) : CT E l yX0_init cX0_init 8 none 2 [.ref k, .int o, .int w, .int q, .int x, .int y, .int z, .ref sp] (mm ci cl cr dy) nx 0 0 (fun r M' nx' => r = none ∧ M' = mm ci cl cr (va_up dy k (some (.inr (0, [.int o, .int w, .int q, .int x, .int y, .int z, .ref sp])))) ∧ nx = nx') := by
  refine CT_intro (by decide) (Nat.le_of_ble_eq_true rfl) (fun Γ hΓ hQ => ?_)
  replace hΓ : CK E RX0 cX0_init 8 none "<init>" 2 0 0 Γ := hΓ
  show SV E Γ 8 (mm ci cl cr dy) nx 0 0 0 [(0, .ref k), (1, .int o), (2, .int w), (3, .int q), (4, .int x), (5, .int y), (6, .int z), (7, .ref sp)] []
  refine sv_aload_n hΓ dX0_init_0 rfl 0 rfl rfl ?_
  refine sv_callIN hΓ (fun l => ct_X2_init l k ) hNW.2.2.1 tb_283 rfl rfl rfl (by decide) (Nat.le_of_ble_eq_true rfl) (Nat.le_of_ble_eq_true rfl) (Nat.le_of_ble_eq_true rfl) dX0_init_1 rfl (fun r M' nx' p1 => ?_)
  obtain ⟨rfl, rfl, rfl⟩ := p1
  show SV E Γ 8 (mm ci cl cr dy) nx 0 0 4 [(0, .ref k), (1, .int o), (2, .int w), (3, .int q), (4, .int x), (5, .int y), (6, .int z), (7, .ref sp)] []
  refine sv_aload_n hΓ dX0_init_4 rfl 0 rfl rfl ?_
  refine sv_iload_n hΓ dX0_init_5 rfl 1 rfl rfl ?_
  refine pf_X0_9 hΓ ((mm_hi h74).trans hk) ⟨rfl, rfl⟩ (Nat.lt_of_succ_le (Nat.le_of_ble_eq_true rfl)) dX0_init_6 rfl ?_
  rw [mm_dy h74]
  show SV E Γ 8 (mm ci cl cr (va_up dy k (some (.inr (0, [.int o, .int 0, .int 0, .int 0, .int 0, .int 0, .null]))))) nx 0 0 9 [(0, .ref k), (1, .int o), (2, .int w), (3, .int q), (4, .int x), (5, .int y), (6, .int z), (7, .ref sp)] []
  refine sv_aload_n hΓ dX0_init_9 rfl 0 rfl rfl ?_
  refine sv_iload_n hΓ dX0_init_10 rfl 2 rfl rfl ?_
  refine pf_X0_15 hΓ ((mm_hi h74).trans (va_up_self _ _ _)) ⟨rfl, rfl⟩ (Nat.lt_of_succ_le (Nat.le_of_ble_eq_true rfl)) dX0_init_11 rfl ?_
  rw [mm_dy h74]
  rw [va_up_up]
  show SV E Γ 8 (mm ci cl cr (va_up dy k (some (.inr (0, [.int o, .int w, .int 0, .int 0, .int 0, .int 0, .null]))))) nx 0 0 14 [(0, .ref k), (1, .int o), (2, .int w), (3, .int q), (4, .int x), (5, .int y), (6, .int z), (7, .ref sp)] []
  refine sv_aload_n hΓ dX0_init_14 rfl 0 rfl rfl ?_
  refine sv_iload_n hΓ dX0_init_15 rfl 3 rfl rfl ?_
  refine pf_X0_18 hΓ ((mm_hi h74).trans (va_up_self _ _ _)) ⟨rfl, rfl⟩ (Nat.lt_of_succ_le (Nat.le_of_ble_eq_true rfl)) dX0_init_16 rfl ?_
  rw [mm_dy h74]
  rw [va_up_up]
  show SV E Γ 8 (mm ci cl cr (va_up dy k (some (.inr (0, [.int o, .int w, .int q, .int 0, .int 0, .int 0, .null]))))) nx 0 0 19 [(0, .ref k), (1, .int o), (2, .int w), (3, .int q), (4, .int x), (5, .int y), (6, .int z), (7, .ref sp)] []
  refine sv_aload_n hΓ dX0_init_19 rfl 0 rfl rfl ?_
  refine sv_iload hΓ dX0_init_20 4 rfl rfl ?_
  refine pf_X0_21 hΓ ((mm_hi h74).trans (va_up_self _ _ _)) ⟨rfl, rfl⟩ (Nat.lt_of_succ_le (Nat.le_of_ble_eq_true rfl)) dX0_init_22 rfl ?_
  rw [mm_dy h74]
  rw [va_up_up]
  show SV E Γ 8 (mm ci cl cr (va_up dy k (some (.inr (0, [.int o, .int w, .int q, .int x, .int 0, .int 0, .null]))))) nx 0 0 25 [(0, .ref k), (1, .int o), (2, .int w), (3, .int q), (4, .int x), (5, .int y), (6, .int z), (7, .ref sp)] []
  refine sv_aload_n hΓ dX0_init_25 rfl 0 rfl rfl ?_
  refine sv_iload hΓ dX0_init_26 5 rfl rfl ?_
  refine pf_X0_24 hΓ ((mm_hi h74).trans (va_up_self _ _ _)) ⟨rfl, rfl⟩ (Nat.lt_of_succ_le (Nat.le_of_ble_eq_true rfl)) dX0_init_28 rfl ?_
  rw [mm_dy h74]
  rw [va_up_up]
  show SV E Γ 8 (mm ci cl cr (va_up dy k (some (.inr (0, [.int o, .int w, .int q, .int x, .int y, .int 0, .null]))))) nx 0 0 31 [(0, .ref k), (1, .int o), (2, .int w), (3, .int q), (4, .int x), (5, .int y), (6, .int z), (7, .ref sp)] []
  refine sv_aload_n hΓ dX0_init_31 rfl 0 rfl rfl ?_
  refine sv_iload hΓ dX0_init_32 6 rfl rfl ?_
  refine pf_X0_27 hΓ ((mm_hi h74).trans (va_up_self _ _ _)) ⟨rfl, rfl⟩ (Nat.lt_of_succ_le (Nat.le_of_ble_eq_true rfl)) dX0_init_34 rfl ?_
  rw [mm_dy h74]
  rw [va_up_up]
  show SV E Γ 8 (mm ci cl cr (va_up dy k (some (.inr (0, [.int o, .int w, .int q, .int x, .int y, .int z, .null]))))) nx 0 0 37 [(0, .ref k), (1, .int o), (2, .int w), (3, .int q), (4, .int x), (5, .int y), (6, .int z), (7, .ref sp)] []
  refine sv_aload_n hΓ dX0_init_37 rfl 0 rfl rfl ?_
  refine sv_aload hΓ dX0_init_38 7 rfl rfl ?_
  refine pf_X0_30 hΓ ((mm_hi h74).trans (va_up_self _ _ _)) ⟨rfl, rfl⟩ (Nat.lt_of_succ_le (Nat.le_of_ble_eq_true rfl)) dX0_init_40 rfl ?_
  rw [mm_dy h74]
  rw [va_up_up]
  show SV E Γ 8 (mm ci cl cr (va_up dy k (some (.inr (0, [.int o, .int w, .int q, .int x, .int y, .int z, .ref sp]))))) nx 0 0 43 [(0, .ref k), (1, .int o), (2, .int w), (3, .int q), (4, .int x), (5, .int y), (6, .int z), (7, .ref sp)] []
  exact sv_vret hΓ hQ dX0_init_43 (Nat.le_of_ble_eq_true rfl) (Nat.le_of_ble_eq_true rfl) ⟨rfl, rfl, rfl⟩
set_option maxRecDepth 100000 in
set_option maxHeartbeats 1000000 in
/-- init -/
theorem ct_X7_init {E : aG} (l : Launch) (k : Nat) (w : Int32) (q : Nat) {ci : Nat → Nat → Int32} {cl : Nat → Nat → Int64} {cr : Nat → Nat → Option Nat} {dy : aM} {nx : Nat} (h74 : 74 ≤ k) (hk : dy k = some (.inr (6, [.int 0, .null]))) (hNW : NW E) : CT E l yX7_init cX7_init 3 none 2 [.ref k, .int w, .ref q] (mm ci cl cr dy) nx 0 0 (fun r M' nx' => r = none ∧ M' = mm ci cl cr (va_up dy k (some (.inr (6, [.int w, .ref q])))) ∧ nx = nx') := by
  refine CT_intro (by decide) (Nat.le_of_ble_eq_true rfl) (fun Γ hΓ hQ => ?_)
  replace hΓ : CK E RX7 cX7_init 3 none "<init>" 2 0 0 Γ := hΓ
  show SV E Γ 3 (mm ci cl cr dy) nx 0 0 0 [(0, .ref k), (1, .int w), (2, .ref q)] []
  refine sv_aload_n hΓ dX7_init_0 rfl 0 rfl rfl ?_
  refine sv_callIN hΓ (fun l => ct_X2_init l k ) hNW.2.2.2.2.2.1 tb_283 rfl rfl rfl (by decide) (Nat.le_of_ble_eq_true rfl) (Nat.le_of_ble_eq_true rfl) (Nat.le_of_ble_eq_true rfl) dX7_init_1 rfl (fun r M' nx' p1 => ?_)
  obtain ⟨rfl, rfl, rfl⟩ := p1
  show SV E Γ 3 (mm ci cl cr dy) nx 0 0 4 [(0, .ref k), (1, .int w), (2, .ref q)] []
  refine sv_aload_n hΓ dX7_init_4 rfl 0 rfl rfl ?_
  refine sv_iload_n hΓ dX7_init_5 rfl 1 rfl rfl ?_
  refine pf_X7_7 hΓ ((mm_hi h74).trans hk) ⟨rfl, rfl⟩ (Nat.lt_of_succ_le (Nat.le_of_ble_eq_true rfl)) dX7_init_6 rfl ?_
  rw [mm_dy h74]
  show SV E Γ 3 (mm ci cl cr (va_up dy k (some (.inr (6, [.int w, .null]))))) nx 0 0 9 [(0, .ref k), (1, .int w), (2, .ref q)] []
  refine sv_aload_n hΓ dX7_init_9 rfl 0 rfl rfl ?_
  refine sv_aload_n hΓ dX7_init_10 rfl 2 rfl rfl ?_
  refine pf_X7_13 hΓ ((mm_hi h74).trans (va_up_self _ _ _)) ⟨rfl, rfl⟩ (Nat.lt_of_succ_le (Nat.le_of_ble_eq_true rfl)) dX7_init_11 rfl ?_
  rw [mm_dy h74]
  rw [va_up_up]
  show SV E Γ 3 (mm ci cl cr (va_up dy k (some (.inr (6, [.int w, .ref q]))))) nx 0 0 14 [(0, .ref k), (1, .int w), (2, .ref q)] []
  exact sv_vret hΓ hQ dX7_init_14 (Nat.le_of_ble_eq_true rfl) (Nat.le_of_ble_eq_true rfl) ⟨rfl, rfl, rfl⟩
set_option maxRecDepth 100000 in
set_option maxHeartbeats 1000000 in
/-- wide -/
theorem ct_X8_wide {E : aG} (l : Launch) (w : Int32) {ci : Nat → Nat → Int32} {cl : Nat → Nat → Int64} {cr : Nat → Nat → Option Nat} {dy : aM} {nx : Nat} (h74 : 74 ≤ nx) (hD : DN dy nx) : CT E l yX8_wide cX8_wide 3 (some (.object "GateMaker$Span")) 2 [.int w] (mm ci cl cr dy) nx 1 2 (fun r M' nx' => ∃ s' dy', r = some (.ref s') ∧ M' = mm ci cl cr dy' ∧ SP dy' s' (-pw w) (pw w - 1) ∧ EX dy nx dy' nx') := by
  refine CT_intro (by decide) (Nat.le_of_ble_eq_true rfl) (fun Γ hΓ hQ => ?_)
  replace hΓ : CK E RX8 cX8_wide 3 (some (.object "GateMaker$Span")) "wide" 2 1 2 Γ := hΓ
  show SV E Γ 3 (mm ci cl cr dy) nx 0 0 0 [(0, .int w)] []
  refine sv_lconst (v := 1) hΓ dX8_wide_0 (by decide) rfl ?_
  refine sv_iload_n hΓ dX8_wide_1 rfl 0 rfl rfl ?_
  refine sv_iconst (v := 1) hΓ dX8_wide_2 (by decide) rfl ?_
  refine sv_isub hΓ dX8_wide_3 rfl ?_
  refine sv_lshl hΓ dX8_wide_4 rfl rfl ?_
  refine sv_lstore_n (lv' := [(1, .long (1 <<< ((w - 1 : Int32).toInt64 &&& 63))), (0, .int w)]) hΓ dX8_wide_5 rfl (by decide) rfl rfl ?_
  refine nw_X8_10 hΓ dX8_wide_6 (Nat.le_of_ble_eq_true rfl) (Nat.le_of_ble_eq_true rfl) rfl ?_
  rw [mm_dy (by omega)]
  show SV E Γ 3 (mm ci cl cr (va_up dy nx (some (.inr (7, [.long 0, .long 0]))))) (nx + 1) 1 2 9 [(1, .long (1 <<< ((w - 1 : Int32).toInt64 &&& 63))), (0, .int w)] [.ref nx]
  refine sv_dup hΓ dX8_wide_9 rfl rfl ?_
  refine sv_lload_n hΓ dX8_wide_10 rfl 0 rfl rfl ?_
  refine sv_lneg hΓ dX8_wide_11 rfl ?_
  refine sv_lload_n hΓ dX8_wide_12 rfl 0 rfl rfl ?_
  refine sv_lconst (v := 1) hΓ dX8_wide_13 (by decide) rfl ?_
  refine sv_lsub hΓ dX8_wide_14 rfl ?_
  refine sv_callI hΓ (fun l => ct_X8_init l nx (-(1 <<< ((w - 1 : Int32).toInt64 &&& 63))) ((1 <<< ((w - 1 : Int32).toInt64 &&& 63)) - 1) (by omega) (va_up_self _ _ _)) wv_X8_18 tb_266 rfl rfl rfl (by decide) (Nat.le_of_ble_eq_true rfl) (Nat.le_of_ble_eq_true rfl) (Nat.le_of_ble_eq_true rfl) dX8_wide_15 rfl (fun r M' nx' p1 => ?_)
  obtain ⟨rfl, rfl, rfl⟩ := p1
  show SV E Γ 3 (mm ci cl cr (va_up (va_up dy nx (some (.inr (7, [.long 0, .long 0])))) nx (some (.inr (7, [.long ((-(1 <<< ((w - 1 : Int32).toInt64 &&& 63)))), .long (((1 <<< ((w - 1 : Int32).toInt64 &&& 63)) - 1))]))))) (nx + 1) 1 2 18 [(1, .long (1 <<< ((w - 1 : Int32).toInt64 &&& 63))), (0, .int w)] [.ref nx]
  exact sv_aret hΓ hQ dX8_wide_18 (Nat.le_of_ble_eq_true rfl) (Nat.le_of_ble_eq_true rfl) ⟨_, _, rfl, rfl, ⟨h74, by rw [va_up_self]⟩, (EX.new hD).set (Nat.le_refl _) (by omega)⟩
set_option maxRecDepth 100000 in
set_option maxHeartbeats 1000000 in
/-- fitted -/
theorem ct_X8_fitted {E : aG} (l : Launch) (s : Nat) (lo : Int64) (hi : Int64) (w : Int32) {ci : Nat → Nat → Int32} {cl : Nat → Nat → Int64} {cr : Nat → Nat → Option Nat} {dy : aM} {nx : Nat} (hS : SP dy s lo hi) (h74 : 74 ≤ nx) (hD : DN dy nx) : CT E l yX8_fitted cX8_fitted 2 (some (.object "GateMaker$Span")) 3 [.ref s, .int w] (mm ci cl cr dy) nx 1 2 (fun r M' nx' => ∃ s' dy', r = some (.ref s') ∧ M' = mm ci cl cr dy' ∧ SP dy' s' (ftLo lo hi w) (ftHi lo hi w) ∧ EX dy nx dy' nx') := by
  refine CT_intro (by decide) (Nat.le_of_ble_eq_true rfl) (fun Γ hΓ hQ => ?_)
  replace hΓ : CK E RX8 cX8_fitted 2 (some (.object "GateMaker$Span")) "fitted" 3 1 2 Γ := hΓ
  show SV E Γ 2 (mm ci cl cr dy) nx 0 0 0 [(0, .ref s), (1, .int w)] []
  refine sv_aload_n hΓ dX8_fitted_0 rfl 0 rfl rfl ?_
  refine sv_iload_n hΓ dX8_fitted_1 rfl 1 rfl rfl ?_
  refine sv_callV hΓ (fun l => ct_X8_fits l s lo hi w hS) wv_X8_21 vs_X8_fits rfl hS.m rfl rfl (by decide) (Nat.le_of_ble_eq_true rfl) (Nat.le_of_ble_eq_true rfl) (Nat.le_of_ble_eq_true rfl) dX8_fitted_2 rfl (fun r M' nx' p1 => ?_)
  obtain ⟨rfl, rfl, rfl⟩ := p1
  show SV E Γ 2 (mm ci cl cr dy) nx 0 0 5 [(0, .ref s), (1, .int w)] [.int (bI (¬ lo < -pw w ∧ ¬ pw w ≤ hi))]
  refine sv_if_eq (tgt := 12) hΓ dX8_fitted_5 (by decide) rfl (fun u2 => ?_) (fun u2 => ?_)
  · replace u2 := bI_0.mp u2
    refine sv_iload_n hΓ dX8_fitted_12 rfl 1 rfl rfl ?_
    refine sv_callS hΓ (fun l => ct_X8_wide l w h74 hD) wv_X8_25 tb_362 rfl rfl (by decide) (Nat.le_of_ble_eq_true rfl) (Nat.le_of_ble_eq_true rfl) (Nat.le_of_ble_eq_true rfl) dX8_fitted_13 rfl (fun r M' np3 p3 => ?_)
    obtain ⟨s1, dy1, rfl, rfl, hS1, hE1⟩ := p3
    show SV E Γ 2 (mm ci cl cr dy1) np3 1 2 16 [(0, .ref s), (1, .int w)] [.ref s1]
    exact sv_aret hΓ hQ dX8_fitted_16 (Nat.le_of_ble_eq_true rfl) (Nat.le_of_ble_eq_true rfl) ⟨_, _, rfl, rfl, by rw [ftLo, ftHi, if_neg u2, if_neg u2]; exact hS1, hE1⟩
  · replace u2 := bI_ne.mp u2
    refine sv_aload_n hΓ dX8_fitted_8 rfl 0 rfl rfl ?_
    refine sv_goto (pc' := 16) hΓ dX8_fitted_9 (by decide) ?_
    exact sv_aret hΓ hQ dX8_fitted_16 (Nat.le_of_ble_eq_true rfl) (Nat.le_of_ble_eq_true rfl) ⟨_, _, rfl, rfl, by rw [ftLo, ftHi, if_pos u2, if_pos u2]; exact hS, EX.rf hD⟩
set_option maxRecDepth 100000 in
set_option maxHeartbeats 1000000 in
/-- product -/
theorem ct_X8_product {E : aG} (l : Launch) (s : Nat) (lo : Int64) (hi : Int64) (s2 : Nat) (lo2 : Int64) (hi2 : Int64) {ci : Nat → Nat → Int32} {cl : Nat → Nat → Int64} {cr : Nat → Nat → Option Nat} {dy : aM} {nx : Nat} (hS : SP dy s lo hi) (hS2 : SP dy s2 lo2 hi2) (h74 : 74 ≤ nx) (hD : DN dy nx) : CT E l yX8_product cX8_product 10 (some (.object "GateMaker$Span")) 2 [.ref s, .ref s2] (mm ci cl cr dy) nx 1 2 (fun r M' nx' => ∃ s' dy', r = some (.ref s') ∧ M' = mm ci cl cr dy' ∧ SP dy' s' (mn (mn (lo * lo2) (lo * hi2)) (mn (hi * lo2) (hi * hi2))) (mx (mx (lo * lo2) (lo * hi2)) (mx (hi * lo2) (hi * hi2))) ∧ EX dy nx dy' nx') := by
  refine CT_intro (by decide) (Nat.le_of_ble_eq_true rfl) (fun Γ hΓ hQ => ?_)
  replace hΓ : CK E RX8 cX8_product 10 (some (.object "GateMaker$Span")) "product" 2 1 2 Γ := hΓ
  have ht1 := hD.lt hS.2
  have ht2 := hD.lt hS2.2
  show SV E Γ 10 (mm ci cl cr dy) nx 0 0 0 [(0, .ref s), (1, .ref s2)] []
  refine sv_aload_n hΓ dX8_product_0 rfl 0 rfl rfl ?_
  refine gt_X8_9 hΓ hS.m rfl dX8_product_1 rfl ?_
  refine sv_aload_n hΓ dX8_product_4 rfl 1 rfl rfl ?_
  refine gt_X8_9 hΓ hS2.m rfl dX8_product_5 rfl ?_
  refine sv_lmul hΓ dX8_product_8 rfl ?_
  refine sv_lstore_n (lv' := [(2, .long (lo * lo2)), (0, .ref s), (1, .ref s2)]) hΓ dX8_product_9 rfl (by decide) rfl rfl ?_
  refine sv_aload_n hΓ dX8_product_10 rfl 1 rfl rfl ?_
  refine gt_X8_9 hΓ hS.m rfl dX8_product_11 rfl ?_
  refine sv_aload_n hΓ dX8_product_14 rfl 2 rfl rfl ?_
  refine gt_X8_15 hΓ hS2.m rfl dX8_product_15 rfl ?_
  refine sv_lmul hΓ dX8_product_18 rfl ?_
  refine sv_lstore (lv' := [(4, .long (lo * hi2)), (2, .long (lo * lo2)), (0, .ref s), (1, .ref s2)]) hΓ dX8_product_19 (by decide) rfl rfl ?_
  refine sv_aload_n hΓ dX8_product_21 rfl 2 rfl rfl ?_
  refine gt_X8_15 hΓ hS.m rfl dX8_product_22 rfl ?_
  refine sv_aload_n hΓ dX8_product_25 rfl 3 rfl rfl ?_
  refine gt_X8_9 hΓ hS2.m rfl dX8_product_26 rfl ?_
  refine sv_lmul hΓ dX8_product_29 rfl ?_
  refine sv_lstore (lv' := [(6, .long (hi * lo2)), (4, .long (lo * hi2)), (2, .long (lo * lo2)), (0, .ref s), (1, .ref s2)]) hΓ dX8_product_30 (by decide) rfl rfl ?_
  refine sv_aload_n hΓ dX8_product_32 rfl 3 rfl rfl ?_
  refine gt_X8_15 hΓ hS.m rfl dX8_product_33 rfl ?_
  refine sv_aload_n hΓ dX8_product_36 rfl 4 rfl rfl ?_
  refine gt_X8_15 hΓ hS2.m rfl dX8_product_37 rfl ?_
  refine sv_lmul hΓ dX8_product_40 rfl ?_
  refine sv_lstore (lv' := [(8, .long (hi * hi2)), (6, .long (hi * lo2)), (4, .long (lo * hi2)), (2, .long (lo * lo2)), (0, .ref s), (1, .ref s2)]) hΓ dX8_product_41 (by decide) rfl rfl ?_
  refine nw_X8_10 hΓ dX8_product_43 (Nat.le_of_ble_eq_true rfl) (Nat.le_of_ble_eq_true rfl) rfl ?_
  rw [mm_dy (by omega)]
  show SV E Γ 10 (mm ci cl cr (va_up dy nx (some (.inr (7, [.long 0, .long 0]))))) (nx + 1) 1 2 46 [(8, .long (hi * hi2)), (6, .long (hi * lo2)), (4, .long (lo * hi2)), (2, .long (lo * lo2)), (0, .ref s), (1, .ref s2)] [.ref nx]
  refine sv_dup hΓ dX8_product_46 rfl rfl ?_
  refine sv_lload_n hΓ dX8_product_47 rfl 3 rfl rfl ?_
  refine sv_lload hΓ dX8_product_48 2 rfl rfl ?_
  refine sv_mminl hΓ ⟨tb_391, tb_392, tb_13, tb_393⟩ (by decide) (Nat.le_of_ble_eq_true rfl) (Nat.le_of_ble_eq_true rfl) (Nat.le_of_ble_eq_true rfl) dX8_product_50 rfl ?_
  refine sv_lload hΓ dX8_product_53 1 rfl rfl ?_
  refine sv_lload hΓ dX8_product_55 0 rfl rfl ?_
  refine sv_mminl hΓ ⟨tb_391, tb_392, tb_13, tb_393⟩ (by decide) (Nat.le_of_ble_eq_true rfl) (Nat.le_of_ble_eq_true rfl) (Nat.le_of_ble_eq_true rfl) dX8_product_57 rfl ?_
  refine sv_mminl hΓ ⟨tb_391, tb_392, tb_13, tb_393⟩ (by decide) (Nat.le_of_ble_eq_true rfl) (Nat.le_of_ble_eq_true rfl) (Nat.le_of_ble_eq_true rfl) dX8_product_60 rfl ?_
  refine sv_lload_n hΓ dX8_product_63 rfl 3 rfl rfl ?_
  refine sv_lload hΓ dX8_product_64 2 rfl rfl ?_
  refine sv_mmaxl hΓ ⟨tb_394, tb_395, tb_13, tb_396⟩ (by decide) (Nat.le_of_ble_eq_true rfl) (Nat.le_of_ble_eq_true rfl) (Nat.le_of_ble_eq_true rfl) dX8_product_66 rfl ?_
  refine sv_lload hΓ dX8_product_69 1 rfl rfl ?_
  refine sv_lload hΓ dX8_product_71 0 rfl rfl ?_
  refine sv_mmaxl hΓ ⟨tb_394, tb_395, tb_13, tb_396⟩ (by decide) (Nat.le_of_ble_eq_true rfl) (Nat.le_of_ble_eq_true rfl) (Nat.le_of_ble_eq_true rfl) dX8_product_73 rfl ?_
  refine sv_mmaxl hΓ ⟨tb_394, tb_395, tb_13, tb_396⟩ (by decide) (Nat.le_of_ble_eq_true rfl) (Nat.le_of_ble_eq_true rfl) (Nat.le_of_ble_eq_true rfl) dX8_product_76 rfl ?_
  refine sv_callI hΓ (fun l => ct_X8_init l nx (mn (mn (lo * lo2) (lo * hi2)) (mn (hi * lo2) (hi * hi2))) (mx (mx (lo * lo2) (lo * hi2)) (mx (hi * lo2) (hi * hi2))) (by omega) (va_up_self _ _ _)) wv_X8_18 tb_266 rfl rfl rfl (by decide) (Nat.le_of_ble_eq_true rfl) (Nat.le_of_ble_eq_true rfl) (Nat.le_of_ble_eq_true rfl) dX8_product_79 rfl (fun r M' nx' p1 => ?_)
  obtain ⟨rfl, rfl, rfl⟩ := p1
  show SV E Γ 10 (mm ci cl cr (va_up (va_up dy nx (some (.inr (7, [.long 0, .long 0])))) nx (some (.inr (7, [.long ((mn (mn (lo * lo2) (lo * hi2)) (mn (hi * lo2) (hi * hi2)))), .long ((mx (mx (lo * lo2) (lo * hi2)) (mx (hi * lo2) (hi * hi2))))]))))) (nx + 1) 1 2 82 [(8, .long (hi * hi2)), (6, .long (hi * lo2)), (4, .long (lo * hi2)), (2, .long (lo * lo2)), (0, .ref s), (1, .ref s2)] [.ref nx]
  exact sv_aret hΓ hQ dX8_product_82 (Nat.le_of_ble_eq_true rfl) (Nat.le_of_ble_eq_true rfl) ⟨_, _, rfl, rfl, ⟨h74, by rw [va_up_self]⟩, (EX.new hD).set (Nat.le_refl _) (by omega)⟩
set_option maxRecDepth 100000 in
set_option maxHeartbeats 1000000 in
/-- quotient -/
theorem ct_X8_quotient {E : aG} (l : Launch) (s : Nat) (lo : Int64) (hi : Int64) {ci : Nat → Nat → Int32} {cl : Nat → Nat → Int64} {cr : Nat → Nat → Option Nat} {dy : aM} {nx : Nat} (hS : SP dy s lo hi) (h74 : 74 ≤ nx) (hD : DN dy nx) : CT E l yX8_quotient cX8_quotient 3 (some (.object "GateMaker$Span")) 2 [.ref s] (mm ci cl cr dy) nx 1 2 (fun r M' nx' => ∃ s' dy', r = some (.ref s') ∧ M' = mm ci cl cr dy' ∧ SP dy' s' (-(mx (mx lo (-lo)) (mx hi (-hi)))) (mx (mx lo (-lo)) (mx hi (-hi))) ∧ EX dy nx dy' nx') := by
  refine CT_intro (by decide) (Nat.le_of_ble_eq_true rfl) (fun Γ hΓ hQ => ?_)
  replace hΓ : CK E RX8 cX8_quotient 3 (some (.object "GateMaker$Span")) "quotient" 2 1 2 Γ := hΓ
  have ht1 := hD.lt hS.2
  show SV E Γ 3 (mm ci cl cr dy) nx 0 0 0 [(0, .ref s)] []
  refine sv_aload_n hΓ dX8_quotient_0 rfl 0 rfl rfl ?_
  refine gt_X8_9 hΓ hS.m rfl dX8_quotient_1 rfl ?_
  refine sv_mabsl hΓ ⟨tb_401, tb_402, tb_13, tb_403⟩ (by decide) (Nat.le_of_ble_eq_true rfl) (Nat.le_of_ble_eq_true rfl) (Nat.le_of_ble_eq_true rfl) dX8_quotient_4 rfl ?_
  refine sv_aload_n hΓ dX8_quotient_7 rfl 0 rfl rfl ?_
  refine gt_X8_15 hΓ hS.m rfl dX8_quotient_8 rfl ?_
  refine sv_mabsl hΓ ⟨tb_401, tb_402, tb_13, tb_403⟩ (by decide) (Nat.le_of_ble_eq_true rfl) (Nat.le_of_ble_eq_true rfl) (Nat.le_of_ble_eq_true rfl) dX8_quotient_11 rfl ?_
  refine sv_mmaxl hΓ ⟨tb_394, tb_395, tb_13, tb_396⟩ (by decide) (Nat.le_of_ble_eq_true rfl) (Nat.le_of_ble_eq_true rfl) (Nat.le_of_ble_eq_true rfl) dX8_quotient_14 rfl ?_
  refine sv_lstore_n (lv' := [(1, .long (mx (mx lo (-lo)) (mx hi (-hi)))), (0, .ref s)]) hΓ dX8_quotient_17 rfl (by decide) rfl rfl ?_
  refine nw_X8_10 hΓ dX8_quotient_18 (Nat.le_of_ble_eq_true rfl) (Nat.le_of_ble_eq_true rfl) rfl ?_
  rw [mm_dy (by omega)]
  show SV E Γ 3 (mm ci cl cr (va_up dy nx (some (.inr (7, [.long 0, .long 0]))))) (nx + 1) 1 2 21 [(1, .long (mx (mx lo (-lo)) (mx hi (-hi)))), (0, .ref s)] [.ref nx]
  refine sv_dup hΓ dX8_quotient_21 rfl rfl ?_
  refine sv_lload_n hΓ dX8_quotient_22 rfl 0 rfl rfl ?_
  refine sv_lneg hΓ dX8_quotient_23 rfl ?_
  refine sv_lload_n hΓ dX8_quotient_24 rfl 0 rfl rfl ?_
  refine sv_callI hΓ (fun l => ct_X8_init l nx (-(mx (mx lo (-lo)) (mx hi (-hi)))) (mx (mx lo (-lo)) (mx hi (-hi))) (by omega) (va_up_self _ _ _)) wv_X8_18 tb_266 rfl rfl rfl (by decide) (Nat.le_of_ble_eq_true rfl) (Nat.le_of_ble_eq_true rfl) (Nat.le_of_ble_eq_true rfl) dX8_quotient_25 rfl (fun r M' nx' p1 => ?_)
  obtain ⟨rfl, rfl, rfl⟩ := p1
  show SV E Γ 3 (mm ci cl cr (va_up (va_up dy nx (some (.inr (7, [.long 0, .long 0])))) nx (some (.inr (7, [.long ((-(mx (mx lo (-lo)) (mx hi (-hi))))), .long ((mx (mx lo (-lo)) (mx hi (-hi))))]))))) (nx + 1) 1 2 28 [(1, .long (mx (mx lo (-lo)) (mx hi (-hi)))), (0, .ref s)] [.ref nx]
  exact sv_aret hΓ hQ dX8_quotient_28 (Nat.le_of_ble_eq_true rfl) (Nat.le_of_ble_eq_true rfl) ⟨_, _, rfl, rfl, ⟨h74, by rw [va_up_self]⟩, (EX.new hD).set (Nat.le_refl _) (by omega)⟩
set_option maxRecDepth 100000 in
set_option maxHeartbeats 1000000 in
/-- comparison -/
theorem ct_X8_comparison {E : aG} (l : Launch) (s : Nat) (lo : Int64) (hi : Int64) (s2 : Nat) (lo2 : Int64) (hi2 : Int64) {ci : Nat → Nat → Int32} {cl : Nat → Nat → Int64} {cr : Nat → Nat → Option Nat} {dy : aM} {nx : Nat} (hS : SP dy s lo hi) (hS2 : SP dy s2 lo2 hi2) (h74 : 74 ≤ nx) (hD : DN dy nx) : CT E l yX8_comparison cX8_comparison 4 (some (.object "GateMaker$Span")) 2 [.ref s, .ref s2] (mm ci cl cr dy) nx 1 2 (fun r M' nx' => ∃ s' dy', r = some (.ref s') ∧ M' = mm ci cl cr dy' ∧ SP dy' s' (if lo2 ≤ hi then 0 else 1) (if lo < hi2 then 1 else 0) ∧ EX dy nx dy' nx') := by
  refine CT_intro (by decide) (Nat.le_of_ble_eq_true rfl) (fun Γ hΓ hQ => ?_)
  replace hΓ : CK E RX8 cX8_comparison 4 (some (.object "GateMaker$Span")) "comparison" 2 1 2 Γ := hΓ
  have ht1 := hD.lt hS.2
  have ht2 := hD.lt hS2.2
  show SV E Γ 4 (mm ci cl cr dy) nx 0 0 0 [(0, .ref s), (1, .ref s2)] []
  refine sv_aload_n hΓ dX8_comparison_0 rfl 0 rfl rfl ?_
  refine gt_X8_15 hΓ hS.m rfl dX8_comparison_1 rfl ?_
  refine sv_aload_n hΓ dX8_comparison_4 rfl 1 rfl rfl ?_
  refine gt_X8_9 hΓ hS2.m rfl dX8_comparison_5 rfl ?_
  refine sv_lcmp hΓ dX8_comparison_8 rfl ?_
  refine sv_if_ge (tgt := 16) hΓ dX8_comparison_9 (by decide) rfl (fun u1 => ?_) (fun u1 => ?_)
  · replace u1 := lgc_ge.mp u1
    refine sv_iconst (v := 0) hΓ dX8_comparison_16 (by decide) rfl ?_
    refine sv_istore_n (lv' := [(2, .int 0), (0, .ref s), (1, .ref s2)]) hΓ dX8_comparison_17 rfl (by decide) rfl rfl ?_
    refine sv_aload_n hΓ dX8_comparison_18 rfl 1 rfl rfl ?_
    refine gt_X8_9 hΓ hS.m rfl dX8_comparison_19 rfl ?_
    refine sv_aload_n hΓ dX8_comparison_22 rfl 2 rfl rfl ?_
    refine gt_X8_15 hΓ hS2.m rfl dX8_comparison_23 rfl ?_
    refine sv_lcmp hΓ dX8_comparison_26 rfl ?_
    refine sv_if_ge (tgt := 34) hΓ dX8_comparison_27 (by decide) rfl (fun u2 => ?_) (fun u2 => ?_)
    · replace u2 := lgc_ge.mp u2
      refine sv_iconst (v := 0) hΓ dX8_comparison_34 (by decide) rfl ?_
      refine sv_istore_n (lv' := [(3, .int 0), (2, .int 0), (0, .ref s), (1, .ref s2)]) hΓ dX8_comparison_35 rfl (by decide) rfl rfl ?_
      refine nw_X8_10 hΓ dX8_comparison_36 (Nat.le_of_ble_eq_true rfl) (Nat.le_of_ble_eq_true rfl) rfl ?_
      rw [mm_dy (by omega)]
      show SV E Γ 4 (mm ci cl cr (va_up dy nx (some (.inr (7, [.long 0, .long 0]))))) (nx + 1) 1 2 39 [(3, .int 0), (2, .int 0), (0, .ref s), (1, .ref s2)] [.ref nx]
      refine sv_dup hΓ dX8_comparison_39 rfl rfl ?_
      refine sv_iload_n hΓ dX8_comparison_40 rfl 1 rfl rfl ?_
      refine sv_if_eq (tgt := 48) hΓ dX8_comparison_41 (by decide) rfl (fun u3 => ?_) (fun u3 => absurd (by decide) u3)
      refine sv_lconst (v := 0) hΓ dX8_comparison_48 (by decide) rfl ?_
      refine sv_iload_n hΓ dX8_comparison_49 rfl 0 rfl rfl ?_
      refine sv_if_eq (tgt := 57) hΓ dX8_comparison_50 (by decide) rfl (fun u4 => ?_) (fun u4 => absurd (by decide) u4)
      refine sv_lconst (v := 0) hΓ dX8_comparison_57 (by decide) rfl ?_
      refine sv_callI hΓ (fun l => ct_X8_init l nx 0 0 (by omega) (va_up_self _ _ _)) wv_X8_18 tb_266 rfl rfl rfl (by decide) (Nat.le_of_ble_eq_true rfl) (Nat.le_of_ble_eq_true rfl) (Nat.le_of_ble_eq_true rfl) dX8_comparison_58 rfl (fun r M' nx' p5 => ?_)
      obtain ⟨rfl, rfl, rfl⟩ := p5
      show SV E Γ 4 (mm ci cl cr (va_up (va_up dy nx (some (.inr (7, [.long 0, .long 0])))) nx (some (.inr (7, [.long 0, .long 0]))))) (nx + 1) 1 2 61 [(3, .int 0), (2, .int 0), (0, .ref s), (1, .ref s2)] [.ref nx]
      exact sv_aret hΓ hQ dX8_comparison_61 (Nat.le_of_ble_eq_true rfl) (Nat.le_of_ble_eq_true rfl) ⟨_, _, rfl, rfl, ⟨h74, by rw [va_up_self]; simp [u1, u2]⟩, (EX.new hD).set (Nat.le_refl _) (by omega)⟩
    · replace u2 := mt lgc_ge.mpr u2
      refine sv_iconst (v := 1) hΓ dX8_comparison_30 (by decide) rfl ?_
      refine sv_goto (pc' := 35) hΓ dX8_comparison_31 (by decide) ?_
      refine sv_istore_n (lv' := [(3, .int 1), (2, .int 0), (0, .ref s), (1, .ref s2)]) hΓ dX8_comparison_35 rfl (by decide) rfl rfl ?_
      refine nw_X8_10 hΓ dX8_comparison_36 (Nat.le_of_ble_eq_true rfl) (Nat.le_of_ble_eq_true rfl) rfl ?_
      rw [mm_dy (by omega)]
      show SV E Γ 4 (mm ci cl cr (va_up dy nx (some (.inr (7, [.long 0, .long 0]))))) (nx + 1) 1 2 39 [(3, .int 1), (2, .int 0), (0, .ref s), (1, .ref s2)] [.ref nx]
      refine sv_dup hΓ dX8_comparison_39 rfl rfl ?_
      refine sv_iload_n hΓ dX8_comparison_40 rfl 1 rfl rfl ?_
      refine sv_if_eq (tgt := 48) hΓ dX8_comparison_41 (by decide) rfl (fun u6 => ?_) (fun u6 => absurd (by decide) u6)
      refine sv_lconst (v := 0) hΓ dX8_comparison_48 (by decide) rfl ?_
      refine sv_iload_n hΓ dX8_comparison_49 rfl 0 rfl rfl ?_
      refine sv_if_eq (tgt := 57) hΓ dX8_comparison_50 (by decide) rfl (fun u7 => absurd u7 (by decide)) (fun u7 => ?_)
      refine sv_lconst (v := 1) hΓ dX8_comparison_53 (by decide) rfl ?_
      refine sv_goto (pc' := 58) hΓ dX8_comparison_54 (by decide) ?_
      refine sv_callI hΓ (fun l => ct_X8_init l nx 0 1 (by omega) (va_up_self _ _ _)) wv_X8_18 tb_266 rfl rfl rfl (by decide) (Nat.le_of_ble_eq_true rfl) (Nat.le_of_ble_eq_true rfl) (Nat.le_of_ble_eq_true rfl) dX8_comparison_58 rfl (fun r M' nx' p8 => ?_)
      obtain ⟨rfl, rfl, rfl⟩ := p8
      show SV E Γ 4 (mm ci cl cr (va_up (va_up dy nx (some (.inr (7, [.long 0, .long 0])))) nx (some (.inr (7, [.long 0, .long 1]))))) (nx + 1) 1 2 61 [(3, .int 1), (2, .int 0), (0, .ref s), (1, .ref s2)] [.ref nx]
      exact sv_aret hΓ hQ dX8_comparison_61 (Nat.le_of_ble_eq_true rfl) (Nat.le_of_ble_eq_true rfl) ⟨_, _, rfl, rfl, ⟨h74, by rw [va_up_self]; simp [u1, u2]⟩, (EX.new hD).set (Nat.le_refl _) (by omega)⟩
  · replace u1 := mt lgc_ge.mpr u1
    refine sv_iconst (v := 1) hΓ dX8_comparison_12 (by decide) rfl ?_
    refine sv_goto (pc' := 17) hΓ dX8_comparison_13 (by decide) ?_
    refine sv_istore_n (lv' := [(2, .int 1), (0, .ref s), (1, .ref s2)]) hΓ dX8_comparison_17 rfl (by decide) rfl rfl ?_
    refine sv_aload_n hΓ dX8_comparison_18 rfl 1 rfl rfl ?_
    refine gt_X8_9 hΓ hS.m rfl dX8_comparison_19 rfl ?_
    refine sv_aload_n hΓ dX8_comparison_22 rfl 2 rfl rfl ?_
    refine gt_X8_15 hΓ hS2.m rfl dX8_comparison_23 rfl ?_
    refine sv_lcmp hΓ dX8_comparison_26 rfl ?_
    refine sv_if_ge (tgt := 34) hΓ dX8_comparison_27 (by decide) rfl (fun u9 => ?_) (fun u9 => ?_)
    · replace u9 := lgc_ge.mp u9
      refine sv_iconst (v := 0) hΓ dX8_comparison_34 (by decide) rfl ?_
      refine sv_istore_n (lv' := [(3, .int 0), (2, .int 1), (0, .ref s), (1, .ref s2)]) hΓ dX8_comparison_35 rfl (by decide) rfl rfl ?_
      refine nw_X8_10 hΓ dX8_comparison_36 (Nat.le_of_ble_eq_true rfl) (Nat.le_of_ble_eq_true rfl) rfl ?_
      rw [mm_dy (by omega)]
      show SV E Γ 4 (mm ci cl cr (va_up dy nx (some (.inr (7, [.long 0, .long 0]))))) (nx + 1) 1 2 39 [(3, .int 0), (2, .int 1), (0, .ref s), (1, .ref s2)] [.ref nx]
      refine sv_dup hΓ dX8_comparison_39 rfl rfl ?_
      refine sv_iload_n hΓ dX8_comparison_40 rfl 1 rfl rfl ?_
      refine sv_if_eq (tgt := 48) hΓ dX8_comparison_41 (by decide) rfl (fun u10 => absurd u10 (by decide)) (fun u10 => ?_)
      refine sv_lconst (v := 1) hΓ dX8_comparison_44 (by decide) rfl ?_
      refine sv_goto (pc' := 49) hΓ dX8_comparison_45 (by decide) ?_
      refine sv_iload_n hΓ dX8_comparison_49 rfl 0 rfl rfl ?_
      refine sv_if_eq (tgt := 57) hΓ dX8_comparison_50 (by decide) rfl (fun u11 => ?_) (fun u11 => absurd (by decide) u11)
      refine sv_lconst (v := 0) hΓ dX8_comparison_57 (by decide) rfl ?_
      refine sv_callI hΓ (fun l => ct_X8_init l nx 1 0 (by omega) (va_up_self _ _ _)) wv_X8_18 tb_266 rfl rfl rfl (by decide) (Nat.le_of_ble_eq_true rfl) (Nat.le_of_ble_eq_true rfl) (Nat.le_of_ble_eq_true rfl) dX8_comparison_58 rfl (fun r M' nx' p12 => ?_)
      obtain ⟨rfl, rfl, rfl⟩ := p12
      show SV E Γ 4 (mm ci cl cr (va_up (va_up dy nx (some (.inr (7, [.long 0, .long 0])))) nx (some (.inr (7, [.long 1, .long 0]))))) (nx + 1) 1 2 61 [(3, .int 0), (2, .int 1), (0, .ref s), (1, .ref s2)] [.ref nx]
      exact sv_aret hΓ hQ dX8_comparison_61 (Nat.le_of_ble_eq_true rfl) (Nat.le_of_ble_eq_true rfl) ⟨_, _, rfl, rfl, ⟨h74, by rw [va_up_self]; simp [u1, u9]⟩, (EX.new hD).set (Nat.le_refl _) (by omega)⟩
    · replace u9 := mt lgc_ge.mpr u9
      refine sv_iconst (v := 1) hΓ dX8_comparison_30 (by decide) rfl ?_
      refine sv_goto (pc' := 35) hΓ dX8_comparison_31 (by decide) ?_
      refine sv_istore_n (lv' := [(3, .int 1), (2, .int 1), (0, .ref s), (1, .ref s2)]) hΓ dX8_comparison_35 rfl (by decide) rfl rfl ?_
      refine nw_X8_10 hΓ dX8_comparison_36 (Nat.le_of_ble_eq_true rfl) (Nat.le_of_ble_eq_true rfl) rfl ?_
      rw [mm_dy (by omega)]
      show SV E Γ 4 (mm ci cl cr (va_up dy nx (some (.inr (7, [.long 0, .long 0]))))) (nx + 1) 1 2 39 [(3, .int 1), (2, .int 1), (0, .ref s), (1, .ref s2)] [.ref nx]
      refine sv_dup hΓ dX8_comparison_39 rfl rfl ?_
      refine sv_iload_n hΓ dX8_comparison_40 rfl 1 rfl rfl ?_
      refine sv_if_eq (tgt := 48) hΓ dX8_comparison_41 (by decide) rfl (fun u13 => absurd u13 (by decide)) (fun u13 => ?_)
      refine sv_lconst (v := 1) hΓ dX8_comparison_44 (by decide) rfl ?_
      refine sv_goto (pc' := 49) hΓ dX8_comparison_45 (by decide) ?_
      refine sv_iload_n hΓ dX8_comparison_49 rfl 0 rfl rfl ?_
      refine sv_if_eq (tgt := 57) hΓ dX8_comparison_50 (by decide) rfl (fun u14 => absurd u14 (by decide)) (fun u14 => ?_)
      refine sv_lconst (v := 1) hΓ dX8_comparison_53 (by decide) rfl ?_
      refine sv_goto (pc' := 58) hΓ dX8_comparison_54 (by decide) ?_
      refine sv_callI hΓ (fun l => ct_X8_init l nx 1 1 (by omega) (va_up_self _ _ _)) wv_X8_18 tb_266 rfl rfl rfl (by decide) (Nat.le_of_ble_eq_true rfl) (Nat.le_of_ble_eq_true rfl) (Nat.le_of_ble_eq_true rfl) dX8_comparison_58 rfl (fun r M' nx' p15 => ?_)
      obtain ⟨rfl, rfl, rfl⟩ := p15
      show SV E Γ 4 (mm ci cl cr (va_up (va_up dy nx (some (.inr (7, [.long 0, .long 0])))) nx (some (.inr (7, [.long 1, .long 1]))))) (nx + 1) 1 2 61 [(3, .int 1), (2, .int 1), (0, .ref s), (1, .ref s2)] [.ref nx]
      exact sv_aret hΓ hQ dX8_comparison_61 (Nat.le_of_ble_eq_true rfl) (Nat.le_of_ble_eq_true rfl) ⟨_, _, rfl, rfl, ⟨h74, by rw [va_up_self]; simp [u1, u9]⟩, (EX.new hD).set (Nat.le_refl _) (by omega)⟩
set_option maxRecDepth 100000 in
set_option maxHeartbeats 1000000 in
/-- reckoned -/
theorem ct_X8_reckoned {E : aG} (l : Launch) (s : Nat) (lo : Int64) (hi : Int64) (s2 : Nat) (lo2 : Int64) (hi2 : Int64) (o : Int32) {ci : Nat → Nat → Int32} {cl : Nat → Nat → Int64} {cr : Nat → Nat → Option Nat} {dy : aM} {nx : Nat} (hS : SP dy s lo hi) (hS2 : SP dy s2 lo2 hi2) (h74 : 74 ≤ nx) (hD : DN dy nx) : CT E l yX8_reckoned cX8_reckoned 3 (some (.object "GateMaker$Span")) 3 [.ref s, .int o, .ref s2] (mm ci cl cr dy) nx 1 2 (fun r M' nx' => ∃ s' dy', r = some (.ref s') ∧ M' = mm ci cl cr dy' ∧ SP dy' s' (rkLo o lo hi lo2 hi2) (rkHi o lo hi lo2 hi2) ∧ EX dy nx dy' nx') := by
  refine CT_intro (by decide) (Nat.le_of_ble_eq_true rfl) (fun Γ hΓ hQ => ?_)
  replace hΓ : CK E RX8 cX8_reckoned 3 (some (.object "GateMaker$Span")) "reckoned" 3 1 2 Γ := hΓ
  have ht1 := hD.lt hS.2
  have ht2 := hD.lt hS2.2
  show SV E Γ 3 (mm ci cl cr dy) nx 0 0 0 [(0, .ref s), (1, .int o), (2, .ref s2)] []
  refine sv_iload_n hΓ dX8_reckoned_0 rfl 1 rfl rfl ?_
  refine sv_table (x := o) (lo := 2) (hi := 5) 3 rfl (fun u1 => ?_) (fun k hk u1 => ?_)
  · refine sv_tableOut (pc' := 95) hΓ dX8_reckoned_1 u1 (by decide) ?_
    refine sv_aload_n hΓ dX8_reckoned_95 rfl 0 rfl rfl ?_
    refine sv_aload_n hΓ dX8_reckoned_96 rfl 2 rfl rfl ?_
    refine sv_callV hΓ (fun l => ct_X8_comparison l s lo hi s2 lo2 hi2 hS hS2 h74 hD) wv_X8_37 vs_X8_comparison rfl hS.m rfl rfl (by decide) (Nat.le_of_ble_eq_true rfl) (Nat.le_of_ble_eq_true rfl) (Nat.le_of_ble_eq_true rfl) dX8_reckoned_97 rfl (fun r M' np2 p2 => ?_)
    obtain ⟨sz3, dyz3, rfl, rfl, hSz3, hEz3⟩ := p2
    have h74z3 : 74 ≤ np2 := by have := hEz3.1; omega
    have hLz3 := hEz3.1
    have hQz3 := hEz3.2.2.lt hSz3.2
    show SV E Γ 3 (mm ci cl cr dyz3) np2 1 2 100 [(0, .ref s), (1, .int o), (2, .ref s2)] [.ref sz3]
    exact sv_aret hΓ hQ dX8_reckoned_100 (Nat.le_of_ble_eq_true rfl) (Nat.le_of_ble_eq_true rfl) ⟨_, _, rfl, rfl, by rw [rkLo, rkHi, if_neg (out_ne u1 2 (by decide)), if_neg (out_ne u1 3 (by decide)), if_neg (out_ne u1 4 (by decide)), if_neg (out_ne u1 5 (by decide)), if_neg (out_ne u1 2 (by decide)), if_neg (out_ne u1 3 (by decide)), if_neg (out_ne u1 4 (by decide)), if_neg (out_ne u1 5 (by decide))]; exact hSz3, hEz3⟩
  · obtain rfl | rfl | rfl | rfl : k = 0 ∨ k = 1 ∨ k = 2 ∨ k = 3 := by omega
    · refine sv_tableIn (off := 31) (pc' := 32) hΓ dX8_reckoned_1 (by omega) (by omega) (by rw [u1]; rfl) (by decide) ?_
      replace u1 : o = (2 : Int32) := Int32.toInt_inj.mp (u1.trans (by decide))
      refine nw_X8_10 hΓ dX8_reckoned_32 (Nat.le_of_ble_eq_true rfl) (Nat.le_of_ble_eq_true rfl) rfl ?_
      rw [mm_dy (by omega)]
      show SV E Γ 3 (mm ci cl cr (va_up dy nx (some (.inr (7, [.long 0, .long 0]))))) (nx + 1) 1 2 35 [(0, .ref s), (1, .int o), (2, .ref s2)] [.ref nx]
      refine sv_dup hΓ dX8_reckoned_35 rfl rfl ?_
      refine sv_aload_n hΓ dX8_reckoned_36 rfl 0 rfl rfl ?_
      refine gt_X8_9 hΓ ((mm_hi hS.1).trans ((va_up_ne _ _ (by omega)).trans (hS.2))) rfl dX8_reckoned_37 rfl ?_
      refine sv_aload_n hΓ dX8_reckoned_40 rfl 2 rfl rfl ?_
      refine gt_X8_9 hΓ ((mm_hi hS2.1).trans ((va_up_ne _ _ (by omega)).trans (hS2.2))) rfl dX8_reckoned_41 rfl ?_
      refine sv_ladd hΓ dX8_reckoned_44 rfl ?_
      refine sv_aload_n hΓ dX8_reckoned_45 rfl 0 rfl rfl ?_
      refine gt_X8_15 hΓ ((mm_hi hS.1).trans ((va_up_ne _ _ (by omega)).trans (hS.2))) rfl dX8_reckoned_46 rfl ?_
      refine sv_aload_n hΓ dX8_reckoned_49 rfl 2 rfl rfl ?_
      refine gt_X8_15 hΓ ((mm_hi hS2.1).trans ((va_up_ne _ _ (by omega)).trans (hS2.2))) rfl dX8_reckoned_50 rfl ?_
      refine sv_ladd hΓ dX8_reckoned_53 rfl ?_
      refine sv_callI hΓ (fun l => ct_X8_init l nx (lo + lo2) (hi + hi2) (by omega) (va_up_self _ _ _)) wv_X8_18 tb_266 rfl rfl rfl (by decide) (Nat.le_of_ble_eq_true rfl) (Nat.le_of_ble_eq_true rfl) (Nat.le_of_ble_eq_true rfl) dX8_reckoned_54 rfl (fun r M' nx' p4 => ?_)
      obtain ⟨rfl, rfl, rfl⟩ := p4
      show SV E Γ 3 (mm ci cl cr (va_up (va_up dy nx (some (.inr (7, [.long 0, .long 0])))) nx (some (.inr (7, [.long ((lo + lo2)), .long ((hi + hi2))]))))) (nx + 1) 1 2 57 [(0, .ref s), (1, .int o), (2, .ref s2)] [.ref nx]
      exact sv_aret hΓ hQ dX8_reckoned_57 (Nat.le_of_ble_eq_true rfl) (Nat.le_of_ble_eq_true rfl) ⟨_, _, rfl, rfl, ⟨h74, by rw [va_up_self]; simp [rkLo, rkHi, u1]⟩, (EX.new hD).set (Nat.le_refl _) (by omega)⟩
    · refine sv_tableIn (off := 57) (pc' := 58) hΓ dX8_reckoned_1 (by omega) (by omega) (by rw [u1]; rfl) (by decide) ?_
      replace u1 : o = (3 : Int32) := Int32.toInt_inj.mp (u1.trans (by decide))
      refine nw_X8_10 hΓ dX8_reckoned_58 (Nat.le_of_ble_eq_true rfl) (Nat.le_of_ble_eq_true rfl) rfl ?_
      rw [mm_dy (by omega)]
      show SV E Γ 3 (mm ci cl cr (va_up dy nx (some (.inr (7, [.long 0, .long 0]))))) (nx + 1) 1 2 61 [(0, .ref s), (1, .int o), (2, .ref s2)] [.ref nx]
      refine sv_dup hΓ dX8_reckoned_61 rfl rfl ?_
      refine sv_aload_n hΓ dX8_reckoned_62 rfl 0 rfl rfl ?_
      refine gt_X8_9 hΓ ((mm_hi hS.1).trans ((va_up_ne _ _ (by omega)).trans (hS.2))) rfl dX8_reckoned_63 rfl ?_
      refine sv_aload_n hΓ dX8_reckoned_66 rfl 2 rfl rfl ?_
      refine gt_X8_15 hΓ ((mm_hi hS2.1).trans ((va_up_ne _ _ (by omega)).trans (hS2.2))) rfl dX8_reckoned_67 rfl ?_
      refine sv_lsub hΓ dX8_reckoned_70 rfl ?_
      refine sv_aload_n hΓ dX8_reckoned_71 rfl 0 rfl rfl ?_
      refine gt_X8_15 hΓ ((mm_hi hS.1).trans ((va_up_ne _ _ (by omega)).trans (hS.2))) rfl dX8_reckoned_72 rfl ?_
      refine sv_aload_n hΓ dX8_reckoned_75 rfl 2 rfl rfl ?_
      refine gt_X8_9 hΓ ((mm_hi hS2.1).trans ((va_up_ne _ _ (by omega)).trans (hS2.2))) rfl dX8_reckoned_76 rfl ?_
      refine sv_lsub hΓ dX8_reckoned_79 rfl ?_
      refine sv_callI hΓ (fun l => ct_X8_init l nx (lo - hi2) (hi - lo2) (by omega) (va_up_self _ _ _)) wv_X8_18 tb_266 rfl rfl rfl (by decide) (Nat.le_of_ble_eq_true rfl) (Nat.le_of_ble_eq_true rfl) (Nat.le_of_ble_eq_true rfl) dX8_reckoned_80 rfl (fun r M' nx' p5 => ?_)
      obtain ⟨rfl, rfl, rfl⟩ := p5
      show SV E Γ 3 (mm ci cl cr (va_up (va_up dy nx (some (.inr (7, [.long 0, .long 0])))) nx (some (.inr (7, [.long ((lo - hi2)), .long ((hi - lo2))]))))) (nx + 1) 1 2 83 [(0, .ref s), (1, .int o), (2, .ref s2)] [.ref nx]
      exact sv_aret hΓ hQ dX8_reckoned_83 (Nat.le_of_ble_eq_true rfl) (Nat.le_of_ble_eq_true rfl) ⟨_, _, rfl, rfl, ⟨h74, by rw [va_up_self]; simp [rkLo, rkHi, u1]⟩, (EX.new hD).set (Nat.le_refl _) (by omega)⟩
    · refine sv_tableIn (off := 83) (pc' := 84) hΓ dX8_reckoned_1 (by omega) (by omega) (by rw [u1]; rfl) (by decide) ?_
      replace u1 : o = (4 : Int32) := Int32.toInt_inj.mp (u1.trans (by decide))
      refine sv_aload_n hΓ dX8_reckoned_84 rfl 0 rfl rfl ?_
      refine sv_aload_n hΓ dX8_reckoned_85 rfl 2 rfl rfl ?_
      refine sv_callV hΓ (fun l => ct_X8_product l s lo hi s2 lo2 hi2 hS hS2 h74 hD) wv_X8_29 vs_X8_product rfl hS.m rfl rfl (by decide) (Nat.le_of_ble_eq_true rfl) (Nat.le_of_ble_eq_true rfl) (Nat.le_of_ble_eq_true rfl) dX8_reckoned_86 rfl (fun r M' np6 p6 => ?_)
      obtain ⟨sz7, dyz7, rfl, rfl, hSz7, hEz7⟩ := p6
      have h74z7 : 74 ≤ np6 := by have := hEz7.1; omega
      have hLz7 := hEz7.1
      have hQz7 := hEz7.2.2.lt hSz7.2
      show SV E Γ 3 (mm ci cl cr dyz7) np6 1 2 89 [(0, .ref s), (1, .int o), (2, .ref s2)] [.ref sz7]
      exact sv_aret hΓ hQ dX8_reckoned_89 (Nat.le_of_ble_eq_true rfl) (Nat.le_of_ble_eq_true rfl) ⟨_, _, rfl, rfl, by rw [u1, rk_4, rkh_4]; exact hSz7, hEz7⟩
    · refine sv_tableIn (off := 89) (pc' := 90) hΓ dX8_reckoned_1 (by omega) (by omega) (by rw [u1]; rfl) (by decide) ?_
      replace u1 : o = (5 : Int32) := Int32.toInt_inj.mp (u1.trans (by decide))
      refine sv_aload_n hΓ dX8_reckoned_90 rfl 0 rfl rfl ?_
      refine sv_callV hΓ (fun l => ct_X8_quotient l s lo hi hS h74 hD) wv_X8_33 vs_X8_quotient rfl hS.m rfl rfl (by decide) (Nat.le_of_ble_eq_true rfl) (Nat.le_of_ble_eq_true rfl) (Nat.le_of_ble_eq_true rfl) dX8_reckoned_91 rfl (fun r M' np8 p8 => ?_)
      obtain ⟨sz9, dyz9, rfl, rfl, hSz9, hEz9⟩ := p8
      have h74z9 : 74 ≤ np8 := by have := hEz9.1; omega
      have hLz9 := hEz9.1
      have hQz9 := hEz9.2.2.lt hSz9.2
      show SV E Γ 3 (mm ci cl cr dyz9) np8 1 2 94 [(0, .ref s), (1, .int o), (2, .ref s2)] [.ref sz9]
      exact sv_aret hΓ hQ dX8_reckoned_94 (Nat.le_of_ble_eq_true rfl) (Nat.le_of_ble_eq_true rfl) ⟨_, _, rfl, rfl, by rw [u1, rk_5, rkh_5]; exact hSz9, hEz9⟩
set_option maxRecDepth 100000 in
set_option maxHeartbeats 1000000 in
/-- picked -/
theorem ct_X8_picked {E : aG} (l : Launch) (s : Nat) (lo : Int64) (hi : Int64) (s2 : Nat) (lo2 : Int64) (hi2 : Int64) (s3 : Nat) (lo3 : Int64) (hi3 : Int64) {ci : Nat → Nat → Int32} {cl : Nat → Nat → Int64} {cr : Nat → Nat → Option Nat} {dy : aM} {nx : Nat} (hS : SP dy s lo hi) (hS2 : SP dy s2 lo2 hi2) (hS3 : SP dy s3 lo3 hi3) (h74 : 74 ≤ nx) (hD : DN dy nx) : CT E l yX8_picked cX8_picked 3 (some (.object "GateMaker$Span")) 2 [.ref s, .ref s2, .ref s3] (mm ci cl cr dy) nx 1 2 (fun r M' nx' => ∃ s' dy', r = some (.ref s') ∧ M' = mm ci cl cr dy' ∧ SP dy' s' (pcLo lo hi lo2 lo3) (pcHi lo hi hi2 hi3) ∧ EX dy nx dy' nx') := by
  refine CT_intro (by decide) (Nat.le_of_ble_eq_true rfl) (fun Γ hΓ hQ => ?_)
  replace hΓ : CK E RX8 cX8_picked 3 (some (.object "GateMaker$Span")) "picked" 2 1 2 Γ := hΓ
  have ht1 := hD.lt hS.2
  have ht2 := hD.lt hS2.2
  have ht3 := hD.lt hS3.2
  show SV E Γ 3 (mm ci cl cr dy) nx 0 0 0 [(0, .ref s), (1, .ref s2), (2, .ref s3)] []
  refine sv_aload_n hΓ dX8_picked_0 rfl 0 rfl rfl ?_
  refine gt_X8_9 hΓ hS.m rfl dX8_picked_1 rfl ?_
  refine sv_lconst (v := 0) hΓ dX8_picked_4 (by decide) rfl ?_
  refine sv_lcmp hΓ dX8_picked_5 rfl ?_
  refine sv_if_ne (tgt := 20) hΓ dX8_picked_6 (by decide) rfl (fun u1 => ?_) (fun u1 => ?_)
  · replace u1 := lgc_ne.mp u1
    refine sv_aload_n hΓ dX8_picked_20 rfl 0 rfl rfl ?_
    refine gt_X8_9 hΓ hS.m rfl dX8_picked_21 rfl ?_
    refine sv_lconst (v := 0) hΓ dX8_picked_24 (by decide) rfl ?_
    refine sv_lcmp hΓ dX8_picked_25 rfl ?_
    refine sv_if_gt (tgt := 38) hΓ dX8_picked_26 (by decide) rfl (fun u2 => ?_) (fun u2 => ?_)
    · replace u2 := lgc_gt.mp u2
      refine sv_aload_n hΓ dX8_picked_38 rfl 1 rfl rfl ?_
      exact sv_aret hΓ hQ dX8_picked_39 (Nat.le_of_ble_eq_true rfl) (Nat.le_of_ble_eq_true rfl) ⟨_, _, rfl, rfl, by rw [pcLo, pcHi, if_neg (by grind), if_pos (by grind), if_neg (by grind), if_pos (by grind)]; exact hS2, EX.rf hD⟩
    · replace u2 := mt lgc_gt.mpr u2
      refine sv_aload_n hΓ dX8_picked_29 rfl 0 rfl rfl ?_
      refine gt_X8_15 hΓ hS.m rfl dX8_picked_30 rfl ?_
      refine sv_lconst (v := 0) hΓ dX8_picked_33 (by decide) rfl ?_
      refine sv_lcmp hΓ dX8_picked_34 rfl ?_
      refine sv_if_ge (tgt := 40) hΓ dX8_picked_35 (by decide) rfl (fun u3 => ?_) (fun u3 => ?_)
      · replace u3 := lgc_ge.mp u3
        refine nw_X8_10 hΓ dX8_picked_40 (Nat.le_of_ble_eq_true rfl) (Nat.le_of_ble_eq_true rfl) rfl ?_
        rw [mm_dy (by omega)]
        show SV E Γ 3 (mm ci cl cr (va_up dy nx (some (.inr (7, [.long 0, .long 0]))))) (nx + 1) 1 2 43 [(0, .ref s), (1, .ref s2), (2, .ref s3)] [.ref nx]
        refine sv_dup hΓ dX8_picked_43 rfl rfl ?_
        refine sv_aload_n hΓ dX8_picked_44 rfl 1 rfl rfl ?_
        refine gt_X8_9 hΓ ((mm_hi hS2.1).trans ((va_up_ne _ _ (by omega)).trans (hS2.2))) rfl dX8_picked_45 rfl ?_
        refine sv_aload_n hΓ dX8_picked_48 rfl 2 rfl rfl ?_
        refine gt_X8_9 hΓ ((mm_hi hS3.1).trans ((va_up_ne _ _ (by omega)).trans (hS3.2))) rfl dX8_picked_49 rfl ?_
        refine sv_mminl hΓ ⟨tb_391, tb_392, tb_13, tb_393⟩ (by decide) (Nat.le_of_ble_eq_true rfl) (Nat.le_of_ble_eq_true rfl) (Nat.le_of_ble_eq_true rfl) dX8_picked_52 rfl ?_
        refine sv_aload_n hΓ dX8_picked_55 rfl 1 rfl rfl ?_
        refine gt_X8_15 hΓ ((mm_hi hS2.1).trans ((va_up_ne _ _ (by omega)).trans (hS2.2))) rfl dX8_picked_56 rfl ?_
        refine sv_aload_n hΓ dX8_picked_59 rfl 2 rfl rfl ?_
        refine gt_X8_15 hΓ ((mm_hi hS3.1).trans ((va_up_ne _ _ (by omega)).trans (hS3.2))) rfl dX8_picked_60 rfl ?_
        refine sv_mmaxl hΓ ⟨tb_394, tb_395, tb_13, tb_396⟩ (by decide) (Nat.le_of_ble_eq_true rfl) (Nat.le_of_ble_eq_true rfl) (Nat.le_of_ble_eq_true rfl) dX8_picked_63 rfl ?_
        refine sv_callI hΓ (fun l => ct_X8_init l nx (mn lo2 lo3) (mx hi2 hi3) (by omega) (va_up_self _ _ _)) wv_X8_18 tb_266 rfl rfl rfl (by decide) (Nat.le_of_ble_eq_true rfl) (Nat.le_of_ble_eq_true rfl) (Nat.le_of_ble_eq_true rfl) dX8_picked_66 rfl (fun r M' nx' p4 => ?_)
        obtain ⟨rfl, rfl, rfl⟩ := p4
        show SV E Γ 3 (mm ci cl cr (va_up (va_up dy nx (some (.inr (7, [.long 0, .long 0])))) nx (some (.inr (7, [.long ((mn lo2 lo3)), .long ((mx hi2 hi3))]))))) (nx + 1) 1 2 69 [(0, .ref s), (1, .ref s2), (2, .ref s3)] [.ref nx]
        exact sv_aret hΓ hQ dX8_picked_69 (Nat.le_of_ble_eq_true rfl) (Nat.le_of_ble_eq_true rfl) ⟨_, _, rfl, rfl, ⟨h74, by rw [va_up_self, pcLo, pcHi, if_neg (by grind), if_neg (by grind), if_neg (by grind), if_neg (by grind)]⟩, (EX.new hD).set (Nat.le_refl _) (by omega)⟩
      · replace u3 := mt lgc_ge.mpr u3
        refine sv_aload_n hΓ dX8_picked_38 rfl 1 rfl rfl ?_
        exact sv_aret hΓ hQ dX8_picked_39 (Nat.le_of_ble_eq_true rfl) (Nat.le_of_ble_eq_true rfl) ⟨_, _, rfl, rfl, by rw [pcLo, pcHi, if_neg (by grind), if_pos (by grind), if_neg (by grind), if_pos (by grind)]; exact hS2, EX.rf hD⟩
  · replace u1 := lgc_eq.mp u1
    refine sv_aload_n hΓ dX8_picked_9 rfl 0 rfl rfl ?_
    refine gt_X8_15 hΓ hS.m rfl dX8_picked_10 rfl ?_
    refine sv_lconst (v := 0) hΓ dX8_picked_13 (by decide) rfl ?_
    refine sv_lcmp hΓ dX8_picked_14 rfl ?_
    refine sv_if_ne (tgt := 20) hΓ dX8_picked_15 (by decide) rfl (fun u5 => ?_) (fun u5 => ?_)
    · replace u5 := lgc_ne.mp u5
      refine sv_aload_n hΓ dX8_picked_20 rfl 0 rfl rfl ?_
      refine gt_X8_9 hΓ hS.m rfl dX8_picked_21 rfl ?_
      refine sv_lconst (v := 0) hΓ dX8_picked_24 (by decide) rfl ?_
      refine sv_lcmp hΓ dX8_picked_25 rfl ?_
      refine sv_if_gt (tgt := 38) hΓ dX8_picked_26 (by decide) rfl (fun u6 => ?_) (fun u6 => ?_)
      · replace u6 := lgc_gt.mp u6
        refine sv_aload_n hΓ dX8_picked_38 rfl 1 rfl rfl ?_
        exact sv_aret hΓ hQ dX8_picked_39 (Nat.le_of_ble_eq_true rfl) (Nat.le_of_ble_eq_true rfl) ⟨_, _, rfl, rfl, by rw [pcLo, pcHi, if_neg (by grind), if_pos (by grind), if_neg (by grind), if_pos (by grind)]; exact hS2, EX.rf hD⟩
      · replace u6 := mt lgc_gt.mpr u6
        refine sv_aload_n hΓ dX8_picked_29 rfl 0 rfl rfl ?_
        refine gt_X8_15 hΓ hS.m rfl dX8_picked_30 rfl ?_
        refine sv_lconst (v := 0) hΓ dX8_picked_33 (by decide) rfl ?_
        refine sv_lcmp hΓ dX8_picked_34 rfl ?_
        refine sv_if_ge (tgt := 40) hΓ dX8_picked_35 (by decide) rfl (fun u7 => ?_) (fun u7 => ?_)
        · replace u7 := lgc_ge.mp u7
          refine nw_X8_10 hΓ dX8_picked_40 (Nat.le_of_ble_eq_true rfl) (Nat.le_of_ble_eq_true rfl) rfl ?_
          rw [mm_dy (by omega)]
          show SV E Γ 3 (mm ci cl cr (va_up dy nx (some (.inr (7, [.long 0, .long 0]))))) (nx + 1) 1 2 43 [(0, .ref s), (1, .ref s2), (2, .ref s3)] [.ref nx]
          refine sv_dup hΓ dX8_picked_43 rfl rfl ?_
          refine sv_aload_n hΓ dX8_picked_44 rfl 1 rfl rfl ?_
          refine gt_X8_9 hΓ ((mm_hi hS2.1).trans ((va_up_ne _ _ (by omega)).trans (hS2.2))) rfl dX8_picked_45 rfl ?_
          refine sv_aload_n hΓ dX8_picked_48 rfl 2 rfl rfl ?_
          refine gt_X8_9 hΓ ((mm_hi hS3.1).trans ((va_up_ne _ _ (by omega)).trans (hS3.2))) rfl dX8_picked_49 rfl ?_
          refine sv_mminl hΓ ⟨tb_391, tb_392, tb_13, tb_393⟩ (by decide) (Nat.le_of_ble_eq_true rfl) (Nat.le_of_ble_eq_true rfl) (Nat.le_of_ble_eq_true rfl) dX8_picked_52 rfl ?_
          refine sv_aload_n hΓ dX8_picked_55 rfl 1 rfl rfl ?_
          refine gt_X8_15 hΓ ((mm_hi hS2.1).trans ((va_up_ne _ _ (by omega)).trans (hS2.2))) rfl dX8_picked_56 rfl ?_
          refine sv_aload_n hΓ dX8_picked_59 rfl 2 rfl rfl ?_
          refine gt_X8_15 hΓ ((mm_hi hS3.1).trans ((va_up_ne _ _ (by omega)).trans (hS3.2))) rfl dX8_picked_60 rfl ?_
          refine sv_mmaxl hΓ ⟨tb_394, tb_395, tb_13, tb_396⟩ (by decide) (Nat.le_of_ble_eq_true rfl) (Nat.le_of_ble_eq_true rfl) (Nat.le_of_ble_eq_true rfl) dX8_picked_63 rfl ?_
          refine sv_callI hΓ (fun l => ct_X8_init l nx (mn lo2 lo3) (mx hi2 hi3) (by omega) (va_up_self _ _ _)) wv_X8_18 tb_266 rfl rfl rfl (by decide) (Nat.le_of_ble_eq_true rfl) (Nat.le_of_ble_eq_true rfl) (Nat.le_of_ble_eq_true rfl) dX8_picked_66 rfl (fun r M' nx' p8 => ?_)
          obtain ⟨rfl, rfl, rfl⟩ := p8
          show SV E Γ 3 (mm ci cl cr (va_up (va_up dy nx (some (.inr (7, [.long 0, .long 0])))) nx (some (.inr (7, [.long ((mn lo2 lo3)), .long ((mx hi2 hi3))]))))) (nx + 1) 1 2 69 [(0, .ref s), (1, .ref s2), (2, .ref s3)] [.ref nx]
          exact sv_aret hΓ hQ dX8_picked_69 (Nat.le_of_ble_eq_true rfl) (Nat.le_of_ble_eq_true rfl) ⟨_, _, rfl, rfl, ⟨h74, by rw [va_up_self, pcLo, pcHi, if_neg (by grind), if_neg (by grind), if_neg (by grind), if_neg (by grind)]⟩, (EX.new hD).set (Nat.le_refl _) (by omega)⟩
        · replace u7 := mt lgc_ge.mpr u7
          refine sv_aload_n hΓ dX8_picked_38 rfl 1 rfl rfl ?_
          exact sv_aret hΓ hQ dX8_picked_39 (Nat.le_of_ble_eq_true rfl) (Nat.le_of_ble_eq_true rfl) ⟨_, _, rfl, rfl, by rw [pcLo, pcHi, if_neg (by grind), if_pos (by grind), if_neg (by grind), if_pos (by grind)]; exact hS2, EX.rf hD⟩
    · replace u5 := lgc_eq.mp u5
      refine sv_aload_n hΓ dX8_picked_18 rfl 2 rfl rfl ?_
      exact sv_aret hΓ hQ dX8_picked_19 (Nat.le_of_ble_eq_true rfl) (Nat.le_of_ble_eq_true rfl) ⟨_, _, rfl, rfl, by rw [pcLo, pcHi, if_pos ⟨u1, u5⟩, if_pos ⟨u1, u5⟩]; exact hS3, EX.rf hD⟩
