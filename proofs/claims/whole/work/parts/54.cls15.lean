set_option maxRecDepth 100000 in
set_option maxHeartbeats 1000000 in
/-- reaches -/
theorem ct_X7_reaches {E : aG} (l : Launch) (k : Nat) (q : Nat) (w : Int32) (v : Nat) (f : Nat → Int64) (i : Int32) (m : Int32) {ci : Nat → Nat → Int32} {cl : Nat → Nat → Int64} {cr : Nat → Nat → Option Nat} {dy : aM} {nx : Nat} (hR : RW dy k q w v f) (hv : v ≤ 60) : CT E l yX7_reaches cX7_reaches 3 (some .boolean) 0 [.ref k, .int i, .int m] (mm ci cl cr dy) nx 0 0 (fun r M' nx' => r = some (.int (bI (RC v i m))) ∧ M' = mm ci cl cr dy ∧ nx = nx') := by
  refine CT_intro (by decide) (Nat.le_of_ble_eq_true rfl) (fun Γ hΓ hQ => ?_)
  replace hΓ : CK E RX7 cX7_reaches 3 (some .boolean) "reaches" 0 0 0 Γ := hΓ
  show SV E Γ 3 (mm ci cl cr dy) nx 0 0 0 [(0, .ref k), (1, .int i), (2, .int m)] []
  refine sv_iload_n hΓ dX7_reaches_0 rfl 1 rfl rfl ?_
  refine sv_if_lt (tgt := 27) hΓ dX7_reaches_1 (by decide) rfl (fun u1 => ?_) (fun u1 => ?_)
  · refine sv_iconst (v := 0) hΓ dX7_reaches_27 (by decide) rfl ?_
    exact sv_zret hΓ hQ dX7_reaches_28 (Nat.le_of_ble_eq_true rfl) (Nat.le_of_ble_eq_true rfl) rfl ⟨by rw [bI_f (fun z => z.1 u1)], rfl, rfl⟩
  · refine sv_iload_n hΓ dX7_reaches_4 rfl 2 rfl rfl ?_
    refine sv_if_lt (tgt := 27) hΓ dX7_reaches_5 (by decide) rfl (fun u2 => ?_) (fun u2 => ?_)
    · refine sv_iconst (v := 0) hΓ dX7_reaches_27 (by decide) rfl ?_
      exact sv_zret hΓ hQ dX7_reaches_28 (Nat.le_of_ble_eq_true rfl) (Nat.le_of_ble_eq_true rfl) rfl ⟨by rw [bI_f (fun z => z.2.1 u2)], rfl, rfl⟩
    · refine sv_iload_n hΓ dX7_reaches_8 rfl 1 rfl rfl ?_
      refine sv_i2l hΓ dX7_reaches_9 rfl rfl ?_
      refine sv_iload_n hΓ dX7_reaches_10 rfl 2 rfl rfl ?_
      refine sv_i2l hΓ dX7_reaches_11 rfl rfl ?_
      refine sv_ladd hΓ dX7_reaches_12 rfl ?_
      refine sv_aload_n hΓ dX7_reaches_13 rfl 0 rfl rfl ?_
      refine gt_X7_13 hΓ ((mm_hi hR.1).trans (hR.2.2.1)) rfl dX7_reaches_14 rfl ?_
      refine sv_alen (t := 1) hΓ rfl dX7_reaches_17 ((mm_hi hR.2.1).trans hR.2.2.2) (v := nI v) rfl rfl ?_
      refine sv_i2l hΓ dX7_reaches_18 rfl rfl ?_
      refine sv_lcmp hΓ dX7_reaches_19 rfl ?_
      refine sv_if_gt (tgt := 27) hΓ dX7_reaches_20 (by decide) rfl (fun u3 => ?_) (fun u3 => ?_)
      · replace u3 := lgc_gt.mp u3
        refine sv_iconst (v := 0) hΓ dX7_reaches_27 (by decide) rfl ?_
        exact sv_zret hΓ hQ dX7_reaches_28 (Nat.le_of_ble_eq_true rfl) (Nat.le_of_ble_eq_true rfl) rfl ⟨by rw [bI_f (fun z => z.2.2 u3)], rfl, rfl⟩
      · replace u3 := mt lgc_gt.mpr u3
        refine sv_iconst (v := 1) hΓ dX7_reaches_23 (by decide) rfl ?_
        refine sv_goto (pc' := 28) hΓ dX7_reaches_24 (by decide) ?_
        exact sv_zret hΓ hQ dX7_reaches_28 (Nat.le_of_ble_eq_true rfl) (Nat.le_of_ble_eq_true rfl) rfl ⟨by rw [bI_t ⟨u1, u2, u3⟩], rfl, rfl⟩
set_option maxRecDepth 100000 in
set_option maxHeartbeats 1000000 in
/-- copyCells -/
theorem ct_X11_copyCells {E : aG} (l : Launch) (k : Nat) (q : Nat) (w : Int32) (v : Nat) (f : Nat → Int64) (k2 : Nat) (q2 : Nat) (w2 : Int32) (v2 : Nat) (f2 : Nat → Int64) (i : Int32) (j : Int32) (m : Int32) {ci : Nat → Nat → Int32} {cl : Nat → Nat → Int64} {cr : Nat → Nat → Option Nat} {dy : aM} {nx : Nat} (hR : RW dy k q w v f) (hv : v ≤ 60) (hR2 : RW dy k2 q2 w2 v2 f2) (hv2 : v2 ≤ 60) : CT E l yX11_copyCells cX11_copyCells 5 (some .int) 1 [.ref k, .int i, .ref k2, .int j, .int m] (mm ci cl cr dy) nx 0 0 (fun r M' nx' => (¬ (RC v i m ∧ RC v2 j m) ∧ r = some (.int (-13)) ∧ M' = mm ci cl cr dy ∧ nx = nx') ∨ (∃ a d b, i = nI a ∧ j = nI d ∧ m = nI b ∧ a + b ≤ v ∧ d + b ≤ v2 ∧ r = some (.int (nI b)) ∧ M' = mm ci cl cr (va_up dy q2 (some (.inl (1, v2, .inr (.inl (va_cpy f f2 a d b)))))) ∧ nx = nx')) := by
  refine CT_intro (by decide) (Nat.le_of_ble_eq_true rfl) (fun Γ hΓ hQ => ?_)
  replace hΓ : CK E RX11 cX11_copyCells 5 (some .int) "copyCells" 1 0 0 Γ := hΓ
  show SV E Γ 5 (mm ci cl cr dy) nx 0 0 0 [(0, .ref k), (1, .int i), (2, .ref k2), (3, .int j), (4, .int m)] []
  refine sv_aload_n hΓ dX11_copyCells_0 rfl 0 rfl rfl ?_
  refine sv_iload_n hΓ dX11_copyCells_1 rfl 1 rfl rfl ?_
  refine sv_iload hΓ dX11_copyCells_2 4 rfl rfl ?_
  refine sv_callV hΓ (fun l => ct_X7_reaches l k q w v f i m hR hv) wv_X11_339 vs_X7_reaches rfl ((mm_hi hR.1).trans (hR.2.2.1)) rfl rfl (by decide) (Nat.le_of_ble_eq_true rfl) (Nat.le_of_ble_eq_true rfl) (Nat.le_of_ble_eq_true rfl) dX11_copyCells_4 rfl (fun r M' nx' p1 => ?_)
  obtain ⟨rfl, rfl, rfl⟩ := p1
  show SV E Γ 5 (mm ci cl cr dy) nx 0 0 7 [(0, .ref k), (1, .int i), (2, .ref k2), (3, .int j), (4, .int m)] [.int (bI (RC v i m))]
  refine sv_if_eq (tgt := 20) hΓ dX11_copyCells_7 (by decide) rfl (fun u2 => ?_) (fun u2 => ?_)
  · replace u2 := bI_0.mp u2
    refine sv_bipush (v := (-13)) hΓ dX11_copyCells_20 (by decide) rfl ?_
    exact sv_iret hΓ hQ dX11_copyCells_22 (Nat.le_of_ble_eq_true rfl) (Nat.le_of_ble_eq_true rfl) (Or.inl ⟨(fun q => u2 q.1), rfl, rfl, rfl⟩)
  · replace u2 := bI_ne.mp u2
    refine sv_aload_n hΓ dX11_copyCells_10 rfl 2 rfl rfl ?_
    refine sv_iload_n hΓ dX11_copyCells_11 rfl 3 rfl rfl ?_
    refine sv_iload hΓ dX11_copyCells_12 4 rfl rfl ?_
    refine sv_callV hΓ (fun l => ct_X7_reaches l k2 q2 w2 v2 f2 j m hR2 hv2) wv_X11_339 vs_X7_reaches rfl ((mm_hi hR2.1).trans (hR2.2.2.1)) rfl rfl (by decide) (Nat.le_of_ble_eq_true rfl) (Nat.le_of_ble_eq_true rfl) (Nat.le_of_ble_eq_true rfl) dX11_copyCells_14 rfl (fun r M' nx' p3 => ?_)
    obtain ⟨rfl, rfl, rfl⟩ := p3
    show SV E Γ 5 (mm ci cl cr dy) nx 0 0 17 [(0, .ref k), (1, .int i), (2, .ref k2), (3, .int j), (4, .int m)] [.int (bI (RC v2 j m))]
    refine sv_if_ne (tgt := 23) hΓ dX11_copyCells_17 (by decide) rfl (fun u4 => ?_) (fun u4 => ?_)
    · replace u4 := bI_ne.mp u4
      obtain ⟨a, b, ea, eb, hab⟩ := (RC_k hv).mp u2
      obtain ⟨d, b2, ed, eb2, hdb⟩ := (RC_k hv2).mp u4
      have ebb : b2 = b := (nI_eq (by omega) (by omega)).mp (eb2.symm.trans eb)
      subst ebb
      subst ea
      subst eb
      subst ed
      refine sv_aload_n hΓ dX11_copyCells_23 rfl 0 rfl rfl ?_
      refine gt_X11_343 hΓ ((mm_hi hR.1).trans (hR.2.2.1)) rfl dX11_copyCells_24 rfl ?_
      refine sv_iload_n hΓ dX11_copyCells_27 rfl 1 rfl rfl ?_
      refine sv_aload_n hΓ dX11_copyCells_28 rfl 2 rfl rfl ?_
      refine gt_X11_343 hΓ ((mm_hi hR2.1).trans (hR2.2.2.1)) rfl dX11_copyCells_29 rfl ?_
      refine sv_iload_n hΓ dX11_copyCells_32 rfl 3 rfl rfl ?_
      refine sv_iload hΓ dX11_copyCells_33 4 rfl rfl ?_
      refine sv_copyl hΓ ⟨tb_776, tb_661, tb_660, tb_19⟩ ((mm_hi hR.2.1).trans hR.2.2.2) ((mm_hi hR2.2.1).trans hR2.2.2.2) (nI_nneg (by omega)) (nI_nneg (by omega)) (nI_nneg (by omega)) (by rw [nI_clamp (by omega), nI_clamp (by omega)]; omega) (by rw [nI_clamp (by omega), nI_clamp (by omega)]; omega) (by decide) (Nat.le_of_ble_eq_true rfl) dX11_copyCells_35 rfl ?_
      rw [nI_clamp (show a < 2 ^ 31 by omega), nI_clamp (show d < 2 ^ 31 by omega), nI_clamp (show b2 < 2 ^ 31 by omega), mm_dy hR2.2.1]
      show SV E Γ 5 (mm ci cl cr (va_up dy q2 (some (.inl (1, v2, .inr (.inl (va_cpy f f2 a d b2))))))) nx 0 0 38 [(0, .ref k), (1, .int (nI a)), (2, .ref k2), (3, .int (nI d)), (4, .int (nI b2))] []
      refine sv_iload hΓ dX11_copyCells_38 4 rfl rfl ?_
      exact sv_iret hΓ hQ dX11_copyCells_40 (Nat.le_of_ble_eq_true rfl) (Nat.le_of_ble_eq_true rfl) (Or.inr ⟨a, d, b2, rfl, rfl, rfl, hab, hdb, rfl, rfl, rfl⟩)
    · replace u4 := bI_0.mp u4
      refine sv_bipush (v := (-13)) hΓ dX11_copyCells_20 (by decide) rfl ?_
      exact sv_iret hΓ hQ dX11_copyCells_22 (Nat.le_of_ble_eq_true rfl) (Nat.le_of_ble_eq_true rfl) (Or.inl ⟨(fun q => u4 q.2), rfl, rfl, rfl⟩)
set_option maxRecDepth 100000 in
set_option maxHeartbeats 1000000 in
/-- weight -/
theorem ct_X11_weight {E : aG} (l : Launch) (d : Int32) {ci : Nat → Nat → Int32} {cl : Nat → Nat → Int64} {cr : Nat → Nat → Option Nat} {dy : aM} {nx : Nat} (hSh : ∀ e, e < 8 → SHX cr dy e) (hNW : NW E) : CT E l yX11_weight cX11_weight 4 (some .int) 2 [.ref 1, .int d] (mm ci cl cr dy) nx 0 0 (fun r M' nx' => (¬ AI 8 d ∧ r = some (.int (-1)) ∧ M' = mm (ci) (cl) cr dy ∧ nx = nx') ∨ (∃ e, e < 8 ∧ d = nI e ∧ ((cr 42 e = none ∧ r = some (.int (-11)) ∧ M' = mm (ci) (cl) cr dy ∧ nx = nx') ∨ (∃ k c nu a s, cr 42 e = some k ∧ AT c nu dy a k s ∧ r = some (.int (wtF c a)) ∧ M' = mm ci cl cr dy ∧ nx = nx') ∨ (∃ k q w v f, cr 42 e = some k ∧ RW dy k q w v f ∧ v ≤ 60 ∧ r = some (.int (-12)) ∧ M' = mm ci cl cr dy ∧ nx = nx')))) := by
  refine CT_intro (by decide) (Nat.le_of_ble_eq_true rfl) (fun Γ hΓ hQ => ?_)
  replace hΓ : CK E RX11 cX11_weight 4 (some .int) "weight" 2 0 0 Γ := hΓ
  show SV E Γ 4 (mm ci cl cr dy) nx 0 0 0 [(0, .ref 1), (1, .int d)] []
  refine sv_iload_n hΓ dX11_weight_0 rfl 1 rfl rfl ?_
  refine sv_callS hΓ (fun l => ct_X11_isShelf l d ) wv_X11_317 tb_729 rfl rfl (by decide) (Nat.le_of_ble_eq_true rfl) (Nat.le_of_ble_eq_true rfl) (Nat.le_of_ble_eq_true rfl) dX11_weight_1 rfl (fun r M' nx' p1 => ?_)
  obtain ⟨rfl, rfl, rfl⟩ := p1
  show SV E Γ 4 (mm ci cl cr dy) nx 0 0 4 [(0, .ref 1), (1, .int d)] [.int (bI (AI 8 d))]
  refine sv_if_ne (tgt := 9) hΓ dX11_weight_4 (by decide) rfl (fun u2 => ?_) (fun u2 => ?_)
  · replace u2 := bI_ne.mp u2
    obtain ⟨e, he, ee⟩ := AI.k u2
    subst ee
    rcases (hSh e he) with hn1 | ⟨k1, c1, nu1, a1, s1, hc1, hA1⟩ | ⟨k1, q1, w1, v1, f1, hc1, hR1, hv1⟩
    · refine sv_aload_n hΓ dX11_weight_9 rfl 0 rfl rfl ?_
      refine g_X11_61_1 hΓ dX11_weight_10 rfl ?_
      refine sv_iload_n hΓ dX11_weight_13 rfl 1 rfl rfl ?_
      refine ar_42 hΓ (e) rfl (by omega) dX11_weight_14 (v := .null) (rf_none hn1) rfl ?_
      refine sv_astore_nN (lv' := [(3, .null), (0, .ref 1), (1, .int (nI e))]) hΓ dX11_weight_15 rfl (by decide) rfl rfl ?_
      refine sv_aload_nN hΓ dX11_weight_16 rfl 0 rfl rfl ?_
      refine sv_instN hΓ dX11_weight_17 rfl ?_
      refine sv_if_eq (tgt := 33) hΓ dX11_weight_20 (by decide) rfl (fun u3 => ?_) (fun u3 => absurd (by decide) u3)
      refine sv_aload_n hΓ dX11_weight_33 rfl 1 rfl rfl ?_
      refine g_X11_61_1 hΓ dX11_weight_34 rfl ?_
      refine sv_iload_n hΓ dX11_weight_37 rfl 2 rfl rfl ?_
      refine ar_42 hΓ (e) rfl (by omega) dX11_weight_38 (v := .null) (rf_none hn1) rfl ?_
      refine sv_ifnonnullN hΓ dX11_weight_39 rfl ?_
      refine sv_bipush (v := (-11)) hΓ dX11_weight_42 (by decide) rfl ?_
      refine sv_goto (pc' := 49) hΓ dX11_weight_44 (by decide) ?_
      exact sv_iret hΓ hQ dX11_weight_49 (Nat.le_of_ble_eq_true rfl) (Nat.le_of_ble_eq_true rfl) (Or.inr ⟨e, he, rfl, Or.inl ⟨hn1, rfl, rfl, rfl⟩⟩)
    · refine sv_aload_n hΓ dX11_weight_9 rfl 0 rfl rfl ?_
      refine g_X11_61_1 hΓ dX11_weight_10 rfl ?_
      refine sv_iload_n hΓ dX11_weight_13 rfl 1 rfl rfl ?_
      refine ar_42 hΓ (e) rfl (by omega) dX11_weight_14 (v := .ref k1) (rf_some hc1) rfl ?_
      refine sv_astore_n (lv' := [(3, .ref k1), (0, .ref 1), (1, .int (nI e))]) hΓ dX11_weight_15 rfl (by decide) rfl rfl ?_
      refine sv_aload_n hΓ dX11_weight_16 rfl 0 rfl rfl ?_
      refine sv_instY hΓ (ci := 0) rfl tb_261 hA1.m dX11_weight_17 rfl ?_
      refine sv_if_eq (tgt := 33) hΓ dX11_weight_20 (by decide) rfl (fun u4 => absurd u4 (by decide)) (fun u4 => ?_)
      refine sv_aload_n hΓ dX11_weight_23 rfl 0 rfl rfl ?_
      refine sv_castY hΓ (ci := 0) rfl tb_261 hA1.m dX11_weight_24 rfl ?_
      refine sv_astore_n (lv' := [(2, .ref k1), (3, .ref k1), (0, .ref 1), (1, .int (nI e))]) hΓ dX11_weight_27 rfl (by decide) rfl rfl ?_
      refine sv_aload_n hΓ dX11_weight_28 rfl 0 rfl rfl ?_
      refine sv_callV hΓ (fun l => ct_X0_heft l c1 nu1 a1 k1 s1 hA1) wv_X11_355 vs_X0_heft rfl hA1.m rfl rfl (by decide) (Nat.le_of_ble_eq_true rfl) (Nat.le_of_ble_eq_true rfl) (Nat.le_of_ble_eq_true rfl) dX11_weight_29 rfl (fun r M' nx' p5 => ?_)
      obtain ⟨rfl, rfl, rfl⟩ := p5
      show SV E Γ 4 (mm ci cl cr dy) nx 0 0 32 [(2, .ref k1), (3, .ref k1), (0, .ref 1), (1, .int (nI e))] [.int (wtF c1 a1)]
      exact sv_iret hΓ hQ dX11_weight_32 (Nat.le_of_ble_eq_true rfl) (Nat.le_of_ble_eq_true rfl) (Or.inr ⟨e, he, rfl, Or.inr (Or.inl ⟨k1, c1, nu1, a1, s1, hc1, hA1, rfl, rfl, rfl⟩)⟩)
    · refine sv_aload_n hΓ dX11_weight_9 rfl 0 rfl rfl ?_
      refine g_X11_61_1 hΓ dX11_weight_10 rfl ?_
      refine sv_iload_n hΓ dX11_weight_13 rfl 1 rfl rfl ?_
      refine ar_42 hΓ (e) rfl (by omega) dX11_weight_14 (v := .ref k1) (rf_some hc1) rfl ?_
      refine sv_astore_n (lv' := [(3, .ref k1), (0, .ref 1), (1, .int (nI e))]) hΓ dX11_weight_15 rfl (by decide) rfl rfl ?_
      refine sv_aload_n hΓ dX11_weight_16 rfl 0 rfl rfl ?_
      refine sv_instNo hΓ (ci := 6) rfl tb_261 hNW.2.2.2.2.2.2.2.2.2.2.2.2 ((mm_hi hR1.1).trans (hR1.2.2.1)) dX11_weight_17 rfl ?_
      refine sv_if_eq (tgt := 33) hΓ dX11_weight_20 (by decide) rfl (fun u6 => ?_) (fun u6 => absurd (by decide) u6)
      refine sv_aload_n hΓ dX11_weight_33 rfl 1 rfl rfl ?_
      refine g_X11_61_1 hΓ dX11_weight_34 rfl ?_
      refine sv_iload_n hΓ dX11_weight_37 rfl 2 rfl rfl ?_
      refine ar_42 hΓ (e) rfl (by omega) dX11_weight_38 (v := .ref k1) (rf_some hc1) rfl ?_
      refine sv_ifnonnull (pc' := 47) hΓ dX11_weight_39 (by decide) ?_
      refine sv_bipush (v := (-12)) hΓ dX11_weight_47 (by decide) rfl ?_
      exact sv_iret hΓ hQ dX11_weight_49 (Nat.le_of_ble_eq_true rfl) (Nat.le_of_ble_eq_true rfl) (Or.inr ⟨e, he, rfl, Or.inr (Or.inr ⟨k1, q1, w1, v1, f1, hc1, hR1, hv1, rfl, rfl, rfl⟩)⟩)
  · replace u2 := bI_0.mp u2
    refine sv_iconst (v := (-1)) hΓ dX11_weight_7 (by decide) rfl ?_
    exact sv_iret hΓ hQ dX11_weight_8 (Nat.le_of_ble_eq_true rfl) (Nat.le_of_ble_eq_true rfl) (Or.inl ⟨u2, rfl, rfl, rfl⟩)
set_option maxRecDepth 100000 in
set_option maxHeartbeats 1000000 in
/-- copy -/
theorem ct_X11_copy {E : aG} (l : Launch) (d : Int32) (i : Int32) (u : Int32) (j : Int32) (m : Int32) {ci : Nat → Nat → Int32} {cl : Nat → Nat → Int64} {cr : Nat → Nat → Option Nat} {dy : aM} {nx : Nat} (hSh : ∀ e, e < 8 → SHX cr dy e) (hNW : NW E) : CT E l yX11_copy cX11_copy 9 (some .int) 2 [.ref 1, .int d, .int i, .int u, .int j, .int m] (mm ci cl cr dy) nx 0 0 (fun r M' nx' => (¬ (AI 8 d ∧ AI 8 u) ∧ r = some (.int (-1)) ∧ M' = mm (ci) (cl) cr dy ∧ nx = nx') ∨ (∃ e g, e < 8 ∧ g < 8 ∧ d = nI e ∧ u = nI g ∧ (((cr 42 e = none ∨ cr 42 g = none) ∧ r = some (.int (-11)) ∧ M' = mm (ci) (cl) cr dy ∧ nx = nx') ∨ (((∃ k c nu a s, cr 42 e = some k ∧ AT c nu dy a k s ∧ ¬ cr 42 g = none) ∨ (∃ k c nu a s, cr 42 g = some k ∧ AT c nu dy a k s ∧ ¬ cr 42 e = none) ∨ (∃ k q w v f k2 q2 w2 v2 f2, cr 42 e = some k ∧ RW dy k q w v f ∧ cr 42 g = some k2 ∧ RW dy k2 q2 w2 v2 f2 ∧ ¬ w = w2)) ∧ r = some (.int (-12)) ∧ M' = mm (ci) (cl) cr dy ∧ nx = nx') ∨ (∃ k q w v f k2 q2 v2 f2, cr 42 e = some k ∧ RW dy k q w v f ∧ v ≤ 60 ∧ cr 42 g = some k2 ∧ RW dy k2 q2 w v2 f2 ∧ v2 ≤ 60 ∧ ((¬ (RC v i m ∧ RC v2 j m) ∧ r = some (.int (-13)) ∧ M' = mm ci cl cr dy ∧ nx = nx') ∨ (∃ a d b, i = nI a ∧ j = nI d ∧ m = nI b ∧ a + b ≤ v ∧ d + b ≤ v2 ∧ r = some (.int (nI b)) ∧ M' = mm ci cl cr (va_up dy q2 (some (.inl (1, v2, .inr (.inl (va_cpy f f2 a d b)))))) ∧ nx = nx')))))) := by
  refine CT_intro (by decide) (Nat.le_of_ble_eq_true rfl) (fun Γ hΓ hQ => ?_)
  replace hΓ : CK E RX11 cX11_copy 9 (some .int) "copy" 2 0 0 Γ := hΓ
  show SV E Γ 9 (mm ci cl cr dy) nx 0 0 0 [(0, .ref 1), (1, .int d), (2, .int i), (3, .int u), (4, .int j), (5, .int m)] []
  refine sv_iload_n hΓ dX11_copy_0 rfl 1 rfl rfl ?_
  refine sv_callS hΓ (fun l => ct_X11_isShelf l d ) wv_X11_317 tb_729 rfl rfl (by decide) (Nat.le_of_ble_eq_true rfl) (Nat.le_of_ble_eq_true rfl) (Nat.le_of_ble_eq_true rfl) dX11_copy_1 rfl (fun r M' nx' p1 => ?_)
  obtain ⟨rfl, rfl, rfl⟩ := p1
  show SV E Γ 9 (mm ci cl cr dy) nx 0 0 4 [(0, .ref 1), (1, .int d), (2, .int i), (3, .int u), (4, .int j), (5, .int m)] [.int (bI (AI 8 d))]
  refine sv_if_eq (tgt := 14) hΓ dX11_copy_4 (by decide) rfl (fun u2 => ?_) (fun u2 => ?_)
  · replace u2 := bI_0.mp u2
    refine sv_iconst (v := (-1)) hΓ dX11_copy_14 (by decide) rfl ?_
    exact sv_iret hΓ hQ dX11_copy_15 (Nat.le_of_ble_eq_true rfl) (Nat.le_of_ble_eq_true rfl) (Or.inl ⟨(fun q => u2 q.1), rfl, rfl, rfl⟩)
  · replace u2 := bI_ne.mp u2
    refine sv_iload_n hΓ dX11_copy_7 rfl 3 rfl rfl ?_
    refine sv_callS hΓ (fun l => ct_X11_isShelf l u ) wv_X11_317 tb_729 rfl rfl (by decide) (Nat.le_of_ble_eq_true rfl) (Nat.le_of_ble_eq_true rfl) (Nat.le_of_ble_eq_true rfl) dX11_copy_8 rfl (fun r M' nx' p3 => ?_)
    obtain ⟨rfl, rfl, rfl⟩ := p3
    show SV E Γ 9 (mm ci cl cr dy) nx 0 0 11 [(0, .ref 1), (1, .int d), (2, .int i), (3, .int u), (4, .int j), (5, .int m)] [.int (bI (AI 8 u))]
    refine sv_if_ne (tgt := 16) hΓ dX11_copy_11 (by decide) rfl (fun u4 => ?_) (fun u4 => ?_)
    · replace u4 := bI_ne.mp u4
      obtain ⟨e, he, ee⟩ := AI.k u2
      subst ee
      obtain ⟨g, hg, eg⟩ := AI.k u4
      subst eg
      rcases (hSh e he) with hn1 | ⟨k1, c1, nu1, a1, s1, hc1, hA1⟩ | ⟨k1, q1, w1, v1, f1, hc1, hR1, hv1⟩
      · rcases (hSh g hg) with hn2 | ⟨k2, c2, nu2, a2, s2, hc2, hA2⟩ | ⟨k2, q2, w2, v2, f2, hc2, hR2, hv2⟩
        · refine sv_aload_n hΓ dX11_copy_16 rfl 0 rfl rfl ?_
          refine g_X11_61_1 hΓ dX11_copy_17 rfl ?_
          refine sv_iload_n hΓ dX11_copy_20 rfl 1 rfl rfl ?_
          refine ar_42 hΓ (e) rfl (by omega) dX11_copy_21 (v := .null) (rf_none hn1) rfl ?_
          refine sv_ifnullN (pc' := 34) hΓ dX11_copy_22 (by decide) ?_
          refine sv_bipush (v := (-11)) hΓ dX11_copy_34 (by decide) rfl ?_
          exact sv_iret hΓ hQ dX11_copy_36 (Nat.le_of_ble_eq_true rfl) (Nat.le_of_ble_eq_true rfl) (Or.inr ⟨e, g, he, hg, rfl, rfl, Or.inl ⟨Or.inl hn1, rfl, rfl, rfl⟩⟩)
        · refine sv_aload_n hΓ dX11_copy_16 rfl 0 rfl rfl ?_
          refine g_X11_61_1 hΓ dX11_copy_17 rfl ?_
          refine sv_iload_n hΓ dX11_copy_20 rfl 1 rfl rfl ?_
          refine ar_42 hΓ (e) rfl (by omega) dX11_copy_21 (v := .null) (rf_none hn1) rfl ?_
          refine sv_ifnullN (pc' := 34) hΓ dX11_copy_22 (by decide) ?_
          refine sv_bipush (v := (-11)) hΓ dX11_copy_34 (by decide) rfl ?_
          exact sv_iret hΓ hQ dX11_copy_36 (Nat.le_of_ble_eq_true rfl) (Nat.le_of_ble_eq_true rfl) (Or.inr ⟨e, g, he, hg, rfl, rfl, Or.inl ⟨Or.inl hn1, rfl, rfl, rfl⟩⟩)
        · refine sv_aload_n hΓ dX11_copy_16 rfl 0 rfl rfl ?_
          refine g_X11_61_1 hΓ dX11_copy_17 rfl ?_
          refine sv_iload_n hΓ dX11_copy_20 rfl 1 rfl rfl ?_
          refine ar_42 hΓ (e) rfl (by omega) dX11_copy_21 (v := .null) (rf_none hn1) rfl ?_
          refine sv_ifnullN (pc' := 34) hΓ dX11_copy_22 (by decide) ?_
          refine sv_bipush (v := (-11)) hΓ dX11_copy_34 (by decide) rfl ?_
          exact sv_iret hΓ hQ dX11_copy_36 (Nat.le_of_ble_eq_true rfl) (Nat.le_of_ble_eq_true rfl) (Or.inr ⟨e, g, he, hg, rfl, rfl, Or.inl ⟨Or.inl hn1, rfl, rfl, rfl⟩⟩)
      · rcases (hSh g hg) with hn2 | ⟨k2, c2, nu2, a2, s2, hc2, hA2⟩ | ⟨k2, q2, w2, v2, f2, hc2, hR2, hv2⟩
        · refine sv_aload_n hΓ dX11_copy_16 rfl 0 rfl rfl ?_
          refine g_X11_61_1 hΓ dX11_copy_17 rfl ?_
          refine sv_iload_n hΓ dX11_copy_20 rfl 1 rfl rfl ?_
          refine ar_42 hΓ (e) rfl (by omega) dX11_copy_21 (v := .ref k1) (rf_some hc1) rfl ?_
          refine sv_ifnull hΓ dX11_copy_22 rfl ?_
          refine sv_aload_n hΓ dX11_copy_25 rfl 0 rfl rfl ?_
          refine g_X11_61_1 hΓ dX11_copy_26 rfl ?_
          refine sv_iload_n hΓ dX11_copy_29 rfl 3 rfl rfl ?_
          refine ar_42 hΓ (g) rfl (by omega) dX11_copy_30 (v := .null) (rf_none hn2) rfl ?_
          refine sv_ifnonnullN hΓ dX11_copy_31 rfl ?_
          refine sv_bipush (v := (-11)) hΓ dX11_copy_34 (by decide) rfl ?_
          exact sv_iret hΓ hQ dX11_copy_36 (Nat.le_of_ble_eq_true rfl) (Nat.le_of_ble_eq_true rfl) (Or.inr ⟨e, g, he, hg, rfl, rfl, Or.inl ⟨Or.inr hn2, rfl, rfl, rfl⟩⟩)
        · refine sv_aload_n hΓ dX11_copy_16 rfl 0 rfl rfl ?_
          refine g_X11_61_1 hΓ dX11_copy_17 rfl ?_
          refine sv_iload_n hΓ dX11_copy_20 rfl 1 rfl rfl ?_
          refine ar_42 hΓ (e) rfl (by omega) dX11_copy_21 (v := .ref k1) (rf_some hc1) rfl ?_
          refine sv_ifnull hΓ dX11_copy_22 rfl ?_
          refine sv_aload_n hΓ dX11_copy_25 rfl 0 rfl rfl ?_
          refine g_X11_61_1 hΓ dX11_copy_26 rfl ?_
          refine sv_iload_n hΓ dX11_copy_29 rfl 3 rfl rfl ?_
          refine ar_42 hΓ (g) rfl (by omega) dX11_copy_30 (v := .ref k2) (rf_some hc2) rfl ?_
          refine sv_ifnonnull (pc' := 37) hΓ dX11_copy_31 (by decide) ?_
          refine sv_aload_n hΓ dX11_copy_37 rfl 0 rfl rfl ?_
          refine g_X11_61_1 hΓ dX11_copy_38 rfl ?_
          refine sv_iload_n hΓ dX11_copy_41 rfl 1 rfl rfl ?_
          refine ar_42 hΓ (e) rfl (by omega) dX11_copy_42 (v := .ref k1) (rf_some hc1) rfl ?_
          refine sv_astore (lv' := [(8, .ref k1), (0, .ref 1), (1, .int (nI e)), (2, .int i), (3, .int (nI g)), (4, .int j), (5, .int m)]) hΓ dX11_copy_43 (by decide) rfl rfl ?_
          refine sv_aload hΓ dX11_copy_45 0 rfl rfl ?_
          refine sv_instNo hΓ (ci := 0) rfl tb_739 hNW.2.2.2.2.2.2.2.2.2.2.2.1 hA1.m dX11_copy_47 rfl ?_
          refine sv_if_eq (tgt := 109) hΓ dX11_copy_50 (by decide) rfl (fun u5 => ?_) (fun u5 => absurd (by decide) u5)
          refine sv_bipush (v := (-12)) hΓ dX11_copy_109 (by decide) rfl ?_
          exact sv_iret hΓ hQ dX11_copy_111 (Nat.le_of_ble_eq_true rfl) (Nat.le_of_ble_eq_true rfl) (Or.inr ⟨e, g, he, hg, rfl, rfl, Or.inr (Or.inl ⟨Or.inl ⟨k1, c1, nu1, a1, s1, hc1, hA1, fun q => by rw [q] at hc2; cases hc2⟩, rfl, rfl, rfl⟩)⟩)
        · refine sv_aload_n hΓ dX11_copy_16 rfl 0 rfl rfl ?_
          refine g_X11_61_1 hΓ dX11_copy_17 rfl ?_
          refine sv_iload_n hΓ dX11_copy_20 rfl 1 rfl rfl ?_
          refine ar_42 hΓ (e) rfl (by omega) dX11_copy_21 (v := .ref k1) (rf_some hc1) rfl ?_
          refine sv_ifnull hΓ dX11_copy_22 rfl ?_
          refine sv_aload_n hΓ dX11_copy_25 rfl 0 rfl rfl ?_
          refine g_X11_61_1 hΓ dX11_copy_26 rfl ?_
          refine sv_iload_n hΓ dX11_copy_29 rfl 3 rfl rfl ?_
          refine ar_42 hΓ (g) rfl (by omega) dX11_copy_30 (v := .ref k2) (rf_some hc2) rfl ?_
          refine sv_ifnonnull (pc' := 37) hΓ dX11_copy_31 (by decide) ?_
          refine sv_aload_n hΓ dX11_copy_37 rfl 0 rfl rfl ?_
          refine g_X11_61_1 hΓ dX11_copy_38 rfl ?_
          refine sv_iload_n hΓ dX11_copy_41 rfl 1 rfl rfl ?_
          refine ar_42 hΓ (e) rfl (by omega) dX11_copy_42 (v := .ref k1) (rf_some hc1) rfl ?_
          refine sv_astore (lv' := [(8, .ref k1), (0, .ref 1), (1, .int (nI e)), (2, .int i), (3, .int (nI g)), (4, .int j), (5, .int m)]) hΓ dX11_copy_43 (by decide) rfl rfl ?_
          refine sv_aload hΓ dX11_copy_45 0 rfl rfl ?_
          refine sv_instNo hΓ (ci := 0) rfl tb_739 hNW.2.2.2.2.2.2.2.2.2.2.2.1 hA1.m dX11_copy_47 rfl ?_
          refine sv_if_eq (tgt := 109) hΓ dX11_copy_50 (by decide) rfl (fun u6 => ?_) (fun u6 => absurd (by decide) u6)
          refine sv_bipush (v := (-12)) hΓ dX11_copy_109 (by decide) rfl ?_
          exact sv_iret hΓ hQ dX11_copy_111 (Nat.le_of_ble_eq_true rfl) (Nat.le_of_ble_eq_true rfl) (Or.inr ⟨e, g, he, hg, rfl, rfl, Or.inr (Or.inl ⟨Or.inl ⟨k1, c1, nu1, a1, s1, hc1, hA1, fun q => by rw [q] at hc2; cases hc2⟩, rfl, rfl, rfl⟩)⟩)
      · rcases (hSh g hg) with hn2 | ⟨k2, c2, nu2, a2, s2, hc2, hA2⟩ | ⟨k2, q2, w2, v2, f2, hc2, hR2, hv2⟩
        · refine sv_aload_n hΓ dX11_copy_16 rfl 0 rfl rfl ?_
          refine g_X11_61_1 hΓ dX11_copy_17 rfl ?_
          refine sv_iload_n hΓ dX11_copy_20 rfl 1 rfl rfl ?_
          refine ar_42 hΓ (e) rfl (by omega) dX11_copy_21 (v := .ref k1) (rf_some hc1) rfl ?_
          refine sv_ifnull hΓ dX11_copy_22 rfl ?_
          refine sv_aload_n hΓ dX11_copy_25 rfl 0 rfl rfl ?_
          refine g_X11_61_1 hΓ dX11_copy_26 rfl ?_
          refine sv_iload_n hΓ dX11_copy_29 rfl 3 rfl rfl ?_
          refine ar_42 hΓ (g) rfl (by omega) dX11_copy_30 (v := .null) (rf_none hn2) rfl ?_
          refine sv_ifnonnullN hΓ dX11_copy_31 rfl ?_
          refine sv_bipush (v := (-11)) hΓ dX11_copy_34 (by decide) rfl ?_
          exact sv_iret hΓ hQ dX11_copy_36 (Nat.le_of_ble_eq_true rfl) (Nat.le_of_ble_eq_true rfl) (Or.inr ⟨e, g, he, hg, rfl, rfl, Or.inl ⟨Or.inr hn2, rfl, rfl, rfl⟩⟩)
        · refine sv_aload_n hΓ dX11_copy_16 rfl 0 rfl rfl ?_
          refine g_X11_61_1 hΓ dX11_copy_17 rfl ?_
          refine sv_iload_n hΓ dX11_copy_20 rfl 1 rfl rfl ?_
          refine ar_42 hΓ (e) rfl (by omega) dX11_copy_21 (v := .ref k1) (rf_some hc1) rfl ?_
          refine sv_ifnull hΓ dX11_copy_22 rfl ?_
          refine sv_aload_n hΓ dX11_copy_25 rfl 0 rfl rfl ?_
          refine g_X11_61_1 hΓ dX11_copy_26 rfl ?_
          refine sv_iload_n hΓ dX11_copy_29 rfl 3 rfl rfl ?_
          refine ar_42 hΓ (g) rfl (by omega) dX11_copy_30 (v := .ref k2) (rf_some hc2) rfl ?_
          refine sv_ifnonnull (pc' := 37) hΓ dX11_copy_31 (by decide) ?_
          refine sv_aload_n hΓ dX11_copy_37 rfl 0 rfl rfl ?_
          refine g_X11_61_1 hΓ dX11_copy_38 rfl ?_
          refine sv_iload_n hΓ dX11_copy_41 rfl 1 rfl rfl ?_
          refine ar_42 hΓ (e) rfl (by omega) dX11_copy_42 (v := .ref k1) (rf_some hc1) rfl ?_
          refine sv_astore (lv' := [(8, .ref k1), (0, .ref 1), (1, .int (nI e)), (2, .int i), (3, .int (nI g)), (4, .int j), (5, .int m)]) hΓ dX11_copy_43 (by decide) rfl rfl ?_
          refine sv_aload hΓ dX11_copy_45 0 rfl rfl ?_
          refine sv_instY hΓ (ci := 6) rfl tb_739 ((mm_hi hR1.1).trans (hR1.2.2.1)) dX11_copy_47 rfl ?_
          refine sv_if_eq (tgt := 109) hΓ dX11_copy_50 (by decide) rfl (fun u7 => absurd u7 (by decide)) (fun u7 => ?_)
          refine sv_aload hΓ dX11_copy_53 0 rfl rfl ?_
          refine sv_castY hΓ (ci := 6) rfl tb_739 ((mm_hi hR1.1).trans (hR1.2.2.1)) dX11_copy_55 rfl ?_
          refine sv_astore (lv' := [(6, .ref k1), (8, .ref k1), (0, .ref 1), (1, .int (nI e)), (2, .int i), (3, .int (nI g)), (4, .int j), (5, .int m)]) hΓ dX11_copy_58 (by decide) rfl rfl ?_
          refine sv_aload_n hΓ dX11_copy_60 rfl 2 rfl rfl ?_
          refine g_X11_61_1 hΓ dX11_copy_61 rfl ?_
          refine sv_iload_n hΓ dX11_copy_64 rfl 5 rfl rfl ?_
          refine ar_42 hΓ (g) rfl (by omega) dX11_copy_65 (v := .ref k2) (rf_some hc2) rfl ?_
          refine sv_astore (lv' := [(8, .ref k2), (6, .ref k1), (0, .ref 1), (1, .int (nI e)), (2, .int i), (3, .int (nI g)), (4, .int j), (5, .int m)]) hΓ dX11_copy_66 (by decide) rfl rfl ?_
          refine sv_aload hΓ dX11_copy_68 0 rfl rfl ?_
          refine sv_instNo hΓ (ci := 0) rfl tb_739 hNW.2.2.2.2.2.2.2.2.2.2.2.1 hA2.m dX11_copy_70 rfl ?_
          refine sv_if_eq (tgt := 109) hΓ dX11_copy_73 (by decide) rfl (fun u8 => ?_) (fun u8 => absurd (by decide) u8)
          refine sv_bipush (v := (-12)) hΓ dX11_copy_109 (by decide) rfl ?_
          exact sv_iret hΓ hQ dX11_copy_111 (Nat.le_of_ble_eq_true rfl) (Nat.le_of_ble_eq_true rfl) (Or.inr ⟨e, g, he, hg, rfl, rfl, Or.inr (Or.inl ⟨Or.inr (Or.inl ⟨k2, c2, nu2, a2, s2, hc2, hA2, fun q => by rw [q] at hc1; cases hc1⟩), rfl, rfl, rfl⟩)⟩)
        · refine sv_aload_n hΓ dX11_copy_16 rfl 0 rfl rfl ?_
          refine g_X11_61_1 hΓ dX11_copy_17 rfl ?_
          refine sv_iload_n hΓ dX11_copy_20 rfl 1 rfl rfl ?_
          refine ar_42 hΓ (e) rfl (by omega) dX11_copy_21 (v := .ref k1) (rf_some hc1) rfl ?_
          refine sv_ifnull hΓ dX11_copy_22 rfl ?_
          refine sv_aload_n hΓ dX11_copy_25 rfl 0 rfl rfl ?_
          refine g_X11_61_1 hΓ dX11_copy_26 rfl ?_
          refine sv_iload_n hΓ dX11_copy_29 rfl 3 rfl rfl ?_
          refine ar_42 hΓ (g) rfl (by omega) dX11_copy_30 (v := .ref k2) (rf_some hc2) rfl ?_
          refine sv_ifnonnull (pc' := 37) hΓ dX11_copy_31 (by decide) ?_
          refine sv_aload_n hΓ dX11_copy_37 rfl 0 rfl rfl ?_
          refine g_X11_61_1 hΓ dX11_copy_38 rfl ?_
          refine sv_iload_n hΓ dX11_copy_41 rfl 1 rfl rfl ?_
          refine ar_42 hΓ (e) rfl (by omega) dX11_copy_42 (v := .ref k1) (rf_some hc1) rfl ?_
          refine sv_astore (lv' := [(8, .ref k1), (0, .ref 1), (1, .int (nI e)), (2, .int i), (3, .int (nI g)), (4, .int j), (5, .int m)]) hΓ dX11_copy_43 (by decide) rfl rfl ?_
          refine sv_aload hΓ dX11_copy_45 0 rfl rfl ?_
          refine sv_instY hΓ (ci := 6) rfl tb_739 ((mm_hi hR1.1).trans (hR1.2.2.1)) dX11_copy_47 rfl ?_
          refine sv_if_eq (tgt := 109) hΓ dX11_copy_50 (by decide) rfl (fun u9 => absurd u9 (by decide)) (fun u9 => ?_)
          refine sv_aload hΓ dX11_copy_53 0 rfl rfl ?_
          refine sv_castY hΓ (ci := 6) rfl tb_739 ((mm_hi hR1.1).trans (hR1.2.2.1)) dX11_copy_55 rfl ?_
          refine sv_astore (lv' := [(6, .ref k1), (8, .ref k1), (0, .ref 1), (1, .int (nI e)), (2, .int i), (3, .int (nI g)), (4, .int j), (5, .int m)]) hΓ dX11_copy_58 (by decide) rfl rfl ?_
          refine sv_aload_n hΓ dX11_copy_60 rfl 2 rfl rfl ?_
          refine g_X11_61_1 hΓ dX11_copy_61 rfl ?_
          refine sv_iload_n hΓ dX11_copy_64 rfl 5 rfl rfl ?_
          refine ar_42 hΓ (g) rfl (by omega) dX11_copy_65 (v := .ref k2) (rf_some hc2) rfl ?_
          refine sv_astore (lv' := [(8, .ref k2), (6, .ref k1), (0, .ref 1), (1, .int (nI e)), (2, .int i), (3, .int (nI g)), (4, .int j), (5, .int m)]) hΓ dX11_copy_66 (by decide) rfl rfl ?_
          refine sv_aload hΓ dX11_copy_68 0 rfl rfl ?_
          refine sv_instY hΓ (ci := 6) rfl tb_739 ((mm_hi hR2.1).trans (hR2.2.2.1)) dX11_copy_70 rfl ?_
          refine sv_if_eq (tgt := 109) hΓ dX11_copy_73 (by decide) rfl (fun u10 => absurd u10 (by decide)) (fun u10 => ?_)
          refine sv_aload hΓ dX11_copy_76 0 rfl rfl ?_
          refine sv_castY hΓ (ci := 6) rfl tb_739 ((mm_hi hR2.1).trans (hR2.2.2.1)) dX11_copy_78 rfl ?_
          refine sv_astore (lv' := [(7, .ref k2), (8, .ref k2), (6, .ref k1), (0, .ref 1), (1, .int (nI e)), (2, .int i), (3, .int (nI g)), (4, .int j), (5, .int m)]) hΓ dX11_copy_81 (by decide) rfl rfl ?_
          refine sv_aload hΓ dX11_copy_83 2 rfl rfl ?_
          refine gt_X11_348 hΓ ((mm_hi hR1.1).trans (hR1.2.2.1)) rfl dX11_copy_85 rfl ?_
          refine sv_aload hΓ dX11_copy_88 0 rfl rfl ?_
          refine gt_X11_348 hΓ ((mm_hi hR2.1).trans (hR2.2.2.1)) rfl dX11_copy_90 rfl ?_
          refine sv_icmp_ne (tgt := 109) hΓ dX11_copy_93 (by decide) rfl (fun u11 => ?_) (fun u11 => ?_)
          · refine sv_bipush (v := (-12)) hΓ dX11_copy_109 (by decide) rfl ?_
            exact sv_iret hΓ hQ dX11_copy_111 (Nat.le_of_ble_eq_true rfl) (Nat.le_of_ble_eq_true rfl) (Or.inr ⟨e, g, he, hg, rfl, rfl, Or.inr (Or.inl ⟨Or.inr (Or.inr ⟨k1, q1, w1, v1, f1, k2, q2, w2, v2, f2, hc1, hR1, hc2, hR2, u11⟩), rfl, rfl, rfl⟩)⟩)
          · have hww : w2 = w1 := (u11).symm
            refine sv_aload hΓ dX11_copy_96 2 rfl rfl ?_
            refine sv_iload_n hΓ dX11_copy_98 rfl 5 rfl rfl ?_
            refine sv_aload hΓ dX11_copy_99 0 rfl rfl ?_
            refine sv_iload hΓ dX11_copy_101 7 rfl rfl ?_
            refine sv_iload hΓ dX11_copy_103 8 rfl rfl ?_
            refine sv_callS hΓ (fun l => ct_X11_copyCells l k1 q1 w1 v1 f1 k2 q2 w2 v2 f2 i j m hR1 hv1 hR2 hv2) wv_X11_351 tb_770 rfl rfl (by decide) (Nat.le_of_ble_eq_true rfl) (Nat.le_of_ble_eq_true rfl) (Nat.le_of_ble_eq_true rfl) dX11_copy_105 rfl (fun r M' nx' p12 => ?_)
            rcases p12 with ⟨hno, rfl, rfl, rfl⟩ | ⟨a, d, b, ea, ed, eb, hab, hdb, rfl, rfl, rfl⟩
            · show SV E Γ 9 (mm ci cl cr dy) nx 0 0 108 [(7, .ref k2), (8, .ref k2), (6, .ref k1), (0, .ref 1), (1, .int (nI e)), (2, .int i), (3, .int (nI g)), (4, .int j), (5, .int m)] [.int ((-13))]
              exact sv_iret hΓ hQ dX11_copy_108 (Nat.le_of_ble_eq_true rfl) (Nat.le_of_ble_eq_true rfl) (Or.inr ⟨e, g, he, hg, rfl, rfl, Or.inr (Or.inr ⟨k1, q1, w1, v1, f1, k2, q2, v2, f2, hc1, hR1, hv1, hc2, hww ▸ hR2, hv2, Or.inl ⟨hno, rfl, rfl, rfl⟩⟩)⟩)
            · show SV E Γ 9 (mm ci cl cr (va_up dy q2 (some (.inl (1, v2, .inr (.inl (va_cpy f1 f2 a d b))))))) nx 0 0 108 [(7, .ref k2), (8, .ref k2), (6, .ref k1), (0, .ref 1), (1, .int (nI e)), (2, .int i), (3, .int (nI g)), (4, .int j), (5, .int m)] [.int (nI b)]
              exact sv_iret hΓ hQ dX11_copy_108 (Nat.le_of_ble_eq_true rfl) (Nat.le_of_ble_eq_true rfl) (Or.inr ⟨e, g, he, hg, rfl, rfl, Or.inr (Or.inr ⟨k1, q1, w1, v1, f1, k2, q2, v2, f2, hc1, hR1, hv1, hc2, hww ▸ hR2, hv2, Or.inr ⟨a, d, b, ea, ed, eb, hab, hdb, rfl, rfl, rfl⟩⟩)⟩)
    · replace u4 := bI_0.mp u4
      refine sv_iconst (v := (-1)) hΓ dX11_copy_14 (by decide) rfl ?_
      exact sv_iret hΓ hQ dX11_copy_15 (Nat.le_of_ble_eq_true rfl) (Nat.le_of_ble_eq_true rfl) (Or.inl ⟨(fun q => u4 q.2), rfl, rfl, rfl⟩)
