def bdF2 (c : aI) (nu : Nat → Int64) (n k : Nat) : Int32 := if k = 0 then ftA c (sC c nu) n else if k < 5 then flB c n (k - 1) else bmF c n (ftA c (sC c nu) n) 4
theorem i_lt4 {k : Nat} (h6 : k < 2 ^ 31) (h : ¬ (4 : Int32) < nI k) : k < 5 := by
  rcases Nat.lt_or_ge k 5 with q | q
  · exact q
  · exact absurd (nI_lt (a := 4) (b := k) (by omega) h6) h
theorem i_ge4 {k : Nat} (h6 : k < 2 ^ 31) (h : (4 : Int32) < nI k) : ¬ k < 5 := by
  rw [show (4 : Int32) = nI 4 from rfl, nI_ltI (by decide) h6] at h; omega
theorem bm_e (c : aI) (n : Nat) (t : Int32) (k : Nat) : bmF c n t (k + 1) = if flB c n k ≤ bmF c n t k then bmF c n t k else flB c n k := rfl
set_option maxRecDepth 100000 in
set_option maxHeartbeats 1000000 in
/-- bound -/
theorem ct_X11_bound {E : aG} (l : Launch) (c : aI) (nu : Nat → Int64) (q : Int32) (n : Nat) {ci : Nat → Nat → Int32} {cl : Nat → Nat → Int64} {cr : Nat → Nat → Option Nat} {dy : aM} {nx : Nat} (hB : BK c nu ci cr dy n) (hp1 : ∀ j, j < 4 → 1 ≤ c 49 j) : CT E l yX11_bound cX11_bound 4 (some .int) 5 [.ref 1, .int q] (mm ci cl cr dy) nx 0 0 (fun r M' nx' => (¬ II 0 5 q ∧ r = some (.int (-1)) ∧ M' = mm (ci) (cl) cr dy ∧ nx = nx') ∨ (∃ k ci', k ≤ 5 ∧ q = nI k ∧ (∀ k, ¬ k = 9 → ci' k = ci k) ∧ r = some (.int (bdF2 c nu n k)) ∧ M' = mm ci' cl cr dy ∧ nx = nx')) := by
  refine CT_intro (by decide) (Nat.le_of_ble_eq_true rfl) (fun Γ hΓ hQ => ?_)
  replace hΓ : CK E RX11 cX11_bound 4 (some .int) "bound" 5 0 0 Γ := hΓ
  have hB0 := hB
  obtain ⟨hAC, hST, hn6, hn, hwf, hwp, hln⟩ := hB
  show SV E Γ 4 (mm ci cl cr dy) nx 0 0 0 [(0, .ref 1), (1, .int q)] []
  refine sv_iload_n hΓ dX11_bound_0 rfl 1 rfl rfl ?_
  refine sv_iconst (v := 0) hΓ dX11_bound_1 (by decide) rfl ?_
  refine sv_iconst (v := 5) hΓ dX11_bound_2 (by decide) rfl ?_
  refine sv_callS hΓ (fun l => ct_X11_withinI l q 0 5 0 5 (by decide) (by decide) rfl rfl) wv_X11_115 tb_256 rfl rfl (by decide) (Nat.le_of_ble_eq_true rfl) (Nat.le_of_ble_eq_true rfl) (Nat.le_of_ble_eq_true rfl) dX11_bound_3 rfl (fun r M' nx' p1 => ?_)
  obtain ⟨rfl, rfl, rfl⟩ := p1
  show SV E Γ 4 (mm ci cl cr dy) nx 0 0 6 [(0, .ref 1), (1, .int q)] [.int (bI (II 0 5 q))]
  refine sv_if_ne (tgt := 11) hΓ dX11_bound_6 (by decide) rfl (fun u2 => ?_) (fun u2 => ?_)
  · replace u2 := bI_ne.mp u2
    obtain ⟨k, hk0, hk5, ek⟩ := II.k u2
    subst ek
    refine sv_iload_n hΓ dX11_bound_11 rfl 1 rfl rfl ?_
    refine sv_if_ne (tgt := 23) hΓ dX11_bound_12 (by decide) rfl (fun u3 => ?_) (fun u3 => ?_)
    · have hkz : ¬ k = 0 := fun e => u3 (by rw [e]; rfl)
      refine sv_iload_n hΓ dX11_bound_23 rfl 1 rfl rfl ?_
      refine sv_iconst (v := 4) hΓ dX11_bound_24 (by decide) rfl ?_
      refine sv_icmp_gt (tgt := 43) hΓ dX11_bound_25 (by decide) rfl (fun u4 => ?_) (fun u4 => ?_)
      · have hk4 : ¬ k < 5 := i_ge4 (by omega) u4
        refine sv_aload_n hΓ dX11_bound_43 rfl 0 rfl rfl ?_
        refine g_X11_28_1 hΓ dX11_bound_44 rfl ?_
        refine sv_callV hΓ (fun l => ct_X4_ticksWithAllParts l c nu n hB0) wv_X11_250 vs_X4_ticksWithAllParts rfl m_8 rfl rfl (by decide) (Nat.le_of_ble_eq_true rfl) (Nat.le_of_ble_eq_true rfl) (Nat.le_of_ble_eq_true rfl) dX11_bound_47 rfl (fun r M' nx' p5 => ?_)
        obtain ⟨c1, hT1, rfl, rfl, rfl⟩ := p5
        show SV E Γ 4 (mm c1 cl cr dy) nx 0 0 50 [(0, .ref 1), (1, .int (nI k))] [.int (ftA c (sC c nu) n)]
        refine sv_istore_n (lv' := [(2, .int (ftA c (sC c nu) n)), (0, .ref 1), (1, .int (nI k))]) hΓ dX11_bound_50 rfl (by decide) rfl rfl ?_
        refine sv_iconst (v := 0) hΓ dX11_bound_51 (by decide) rfl ?_
        refine sv_istore_n (lv' := [(3, .int 0), (2, .int (ftA c (sC c nu) n)), (0, .ref 1), (1, .int (nI k))]) hΓ dX11_bound_52 rfl (by decide) rfl rfl ?_
        have LP53 : ∀ kq j : Nat, j + kq = 4 → SV E Γ 4 (mm c1 cl cr dy) nx 0 0 53 [(3, .int (nI j)), (2, .int (bmF c n (ftA c (sC c nu) n) j)), (0, .ref 1)] [] := by
          intro kq
          induction kq with
          | zero =>
            intro j ha
            have ea : j = 4 := by omega
            refine sv_iload_n hΓ dX11_bound_53 rfl 0 rfl rfl ?_
            refine sv_iconst (v := 4) hΓ dX11_bound_54 (by decide) rfl ?_
            refine sv_icmp_ge (tgt := 81) hΓ dX11_bound_55 (by decide) rfl (fun u6 => ?_) (fun u6 => absurd (nI_le (a := 4) (by omega) (by omega)) u6)
            replace u6 : 4 ≤ ((nI j) : Int32) := u6
            refine sv_iload_n hΓ dX11_bound_81 rfl 1 rfl rfl ?_
            exact sv_iret hΓ hQ dX11_bound_82 (Nat.le_of_ble_eq_true rfl) (Nat.le_of_ble_eq_true rfl) (Or.inr ⟨k, c1, hk5, rfl, hT1.2, by rw [bdF2, if_neg hkz, if_neg hk4, ea], rfl, rfl⟩)
          | succ kq ih =>
            intro j ha
            refine sv_iload_n hΓ dX11_bound_53 rfl 0 rfl rfl ?_
            refine sv_iconst (v := 4) hΓ dX11_bound_54 (by decide) rfl ?_
            refine sv_icmp_ge (tgt := 81) hΓ dX11_bound_55 (by decide) rfl (fun u7 => absurd u7 (nI_ge (b := 4) (by omega) (by omega))) (fun u7 => ?_)
            replace u7 : ¬ (4 ≤ ((nI j) : Int32)) := u7
            refine sv_iload_n hΓ dX11_bound_58 rfl 1 rfl rfl ?_
            refine sv_aload_n hΓ dX11_bound_59 rfl 2 rfl rfl ?_
            refine g_X11_19_1 hΓ dX11_bound_60 rfl ?_
            refine sv_iload_n hΓ dX11_bound_63 rfl 0 rfl rfl ?_
            refine sv_aload_n hΓ dX11_bound_64 rfl 2 rfl rfl ?_
            refine g_X11_10_1 hΓ dX11_bound_65 rfl ?_
            refine sv_callV hΓ (fun l => ct_X9_leastTicks l c nu n j hAC (sm.rf.BK hB0 (hT1.2 2 (by decide)) (hT1.2 5 (by decide)) (hT1.2 6 (by decide)) (hT1.2 7 (by decide))).2.2.2.1 hn6 (sm.rf.BK hB0 (hT1.2 2 (by decide)) (hT1.2 5 (by decide)) (hT1.2 6 (by decide)) (hT1.2 7 (by decide))).2.1 (by omega) (hp1 _ (by omega))) wv_X11_253 vs_X9_leastTicks rfl m_4 rfl rfl (by decide) (Nat.le_of_ble_eq_true rfl) (Nat.le_of_ble_eq_true rfl) (Nat.le_of_ble_eq_true rfl) dX11_bound_68 rfl (fun r M' nx' p8 => ?_)
            obtain ⟨rfl, rfl, rfl⟩ := p8
            show SV E Γ 4 (mm c1 cl cr dy) nx 0 0 71 [(3, .int (nI j)), (2, .int (bmF c n (ftA c (sC c nu) n) j)), (0, .ref 1)] [.int (flB c n j), .int (bmF c n (ftA c (sC c nu) n) j)]
            refine sv_mmax hΓ ⟨tb_611, tb_519, tb_13, tb_520⟩ (by decide) (Nat.le_of_ble_eq_true rfl) (Nat.le_of_ble_eq_true rfl) (Nat.le_of_ble_eq_true rfl) dX11_bound_71 rfl ?_
            refine sv_istore_n (lv' := [(2, .int (if (flB c n j) ≤ (bmF c n (ftA c (sC c nu) n) j) then (bmF c n (ftA c (sC c nu) n) j) else (flB c n j))), (3, .int (nI j)), (0, .ref 1)]) hΓ dX11_bound_74 rfl (by decide) rfl rfl ?_
            refine sv_iinc (v := nI (j + 1)) (lv' := [(3, .int (nI (j + 1))), (2, .int (if (flB c n j) ≤ (bmF c n (ftA c (sC c nu) n) j) then (bmF c n (ftA c (sC c nu) n) j) else (flB c n j))), (0, .ref 1)]) hΓ dX11_bound_75 1 rfl (nx_inc rfl) (by decide) rfl rfl ?_
            refine sv_goto (pc' := 53) hΓ dX11_bound_78 (by decide) ?_
            have q := ih (j + 1) (by omega)
            rw [show bmF c n (ftA c (sC c nu) n) (j + 1) = if (flB c n j) ≤ (bmF c n (ftA c (sC c nu) n) j) then (bmF c n (ftA c (sC c nu) n) j) else (flB c n j) from rfl] at q
            exact SV_lv [0, 1, 2] rfl q
        exact SV_lv [0, 1, 2] rfl (LP53 4 0 (by omega))
      · have hk4 : k < 5 := i_lt4 (by omega) u4
        refine sv_aload_n hΓ dX11_bound_28 rfl 0 rfl rfl ?_
        refine g_X11_19_1 hΓ dX11_bound_29 rfl ?_
        refine sv_iload_n hΓ dX11_bound_32 rfl 1 rfl rfl ?_
        refine sv_iconst (v := 1) hΓ dX11_bound_33 (by decide) rfl ?_
        refine sv_isubE (v := nI (k - 1)) hΓ dX11_bound_34 (nx_subE rfl rfl (by omega)) rfl ?_
        refine sv_aload_n hΓ dX11_bound_35 rfl 0 rfl rfl ?_
        refine g_X11_10_1 hΓ dX11_bound_36 rfl ?_
        refine sv_callV hΓ (fun l => ct_X9_leastTicks l c nu n (k - 1) hAC hn hn6 hST (by omega) (hp1 _ (by omega))) wv_X11_253 vs_X9_leastTicks rfl m_4 rfl rfl (by decide) (Nat.le_of_ble_eq_true rfl) (Nat.le_of_ble_eq_true rfl) (Nat.le_of_ble_eq_true rfl) dX11_bound_39 rfl (fun r M' nx' p9 => ?_)
        obtain ⟨rfl, rfl, rfl⟩ := p9
        show SV E Γ 4 (mm ci cl cr dy) nx 0 0 42 [(0, .ref 1), (1, .int (nI k))] [.int (flB c n (k - 1))]
        exact sv_iret hΓ hQ dX11_bound_42 (Nat.le_of_ble_eq_true rfl) (Nat.le_of_ble_eq_true rfl) (Or.inr ⟨k, ci, hk5, rfl, fun _ _ => rfl, by rw [bdF2, if_neg hkz, if_pos hk4], rfl, rfl⟩)
    · refine sv_aload_n hΓ dX11_bound_15 rfl 0 rfl rfl ?_
      refine g_X11_28_1 hΓ dX11_bound_16 rfl ?_
      refine sv_callV hΓ (fun l => ct_X4_ticksWithAllParts l c nu n hB0) wv_X11_250 vs_X4_ticksWithAllParts rfl m_8 rfl rfl (by decide) (Nat.le_of_ble_eq_true rfl) (Nat.le_of_ble_eq_true rfl) (Nat.le_of_ble_eq_true rfl) dX11_bound_19 rfl (fun r M' nx' p10 => ?_)
      obtain ⟨c1, hT1, rfl, rfl, rfl⟩ := p10
      show SV E Γ 4 (mm c1 cl cr dy) nx 0 0 22 [(0, .ref 1), (1, .int (nI k))] [.int (ftA c (sC c nu) n)]
      exact sv_iret hΓ hQ dX11_bound_22 (Nat.le_of_ble_eq_true rfl) (Nat.le_of_ble_eq_true rfl) (Or.inr ⟨k, c1, hk5, rfl, hT1.2, by rw [bdF2, if_pos (k0 (by omega) u3)], rfl, rfl⟩)
  · replace u2 := bI_0.mp u2
    refine sv_iconst (v := (-1)) hΓ dX11_bound_9 (by decide) rfl ?_
    exact sv_iret hΓ hQ dX11_bound_10 (Nat.le_of_ble_eq_true rfl) (Nat.le_of_ble_eq_true rfl) (Or.inl ⟨u2, rfl, rfl, rfl⟩)
set_option maxRecDepth 100000 in
set_option maxHeartbeats 1000000 in
/-- registers -/
theorem ct_X11_registers {E : aG} (l : Launch)  {ci : Nat → Nat → Int32} {cl : Nat → Nat → Int64} {cr : Nat → Nat → Option Nat} {dy : aM} {nx : Nat}  : CT E l yX11_registers cX11_registers 1 (some .int) 0 [.ref 1] (mm ci cl cr dy) nx 0 0 (fun r M' nx' => r = some (.int (if ci 1 7 = 0 then -3 else ci 14 6)) ∧ M' = mm ci cl cr dy ∧ nx = nx') := by
  refine CT_intro (by decide) (Nat.le_of_ble_eq_true rfl) (fun Γ hΓ hQ => ?_)
  replace hΓ : CK E RX11 cX11_registers 1 (some .int) "registers" 0 0 0 Γ := hΓ
  show SV E Γ 1 (mm ci cl cr dy) nx 0 0 0 [(0, .ref 1)] []
  refine sv_aload_n hΓ dX11_registers_0 rfl 0 rfl rfl ?_
  refine g_X11_65_1 hΓ dX11_registers_1 rfl ?_
  refine sv_if_eq (tgt := 17) hΓ dX11_registers_4 (by decide) rfl (fun u1 => ?_) (fun u1 => ?_)
  · refine sv_bipush (v := (-3)) hΓ dX11_registers_17 (by decide) rfl ?_
    exact sv_iret hΓ hQ dX11_registers_19 (Nat.le_of_ble_eq_true rfl) (Nat.le_of_ble_eq_true rfl) ⟨by rw [if_pos u1], rfl, rfl⟩
  · refine sv_aload_n hΓ dX11_registers_7 rfl 0 rfl rfl ?_
    refine g_X11_46_1 hΓ dX11_registers_8 rfl ?_
    refine g_X11_262_14 hΓ dX11_registers_11 rfl ?_
    refine sv_goto (pc' := 19) hΓ dX11_registers_14 (by decide) ?_
    exact sv_iret hΓ hQ dX11_registers_19 (Nat.le_of_ble_eq_true rfl) (Nat.le_of_ble_eq_true rfl) ⟨by rw [if_neg u1], rfl, rfl⟩
set_option maxRecDepth 100000 in
set_option maxHeartbeats 1000000 in
/-- at -/
theorem ct_X11_at {E : aG} (l : Launch) (c : aI) (n : Nat) (t : Int32) (i : Int32) {ci : Nat → Nat → Int32} {cl : Nat → Nat → Int64} {cr : Nat → Nat → Option Nat} {dy : aM} {nx : Nat} (hn : ci 2 1 = nI n) (hn6 : n ≤ 16) (ht : ¬ ci 1 7 = 0 → ∀ a, a < n → c 55 a = ci 11 a) : CT E l yX11_at cX11_at 3 (some .int) 2 [.ref 1, .int t, .int i] (mm ci cl cr dy) nx 0 0 (fun r M' nx' => (¬ (¬ t < 0 ∧ 0 ≤ i) ∧ r = some (.int (-1)) ∧ M' = mm (ci) (cl) cr dy ∧ nx = nx') ∨ ((¬ t < 0 ∧ 0 ≤ i) ∧ ci 1 7 = 0 ∧ r = some (.int (-3)) ∧ M' = mm (ci) (cl) cr dy ∧ nx = nx') ∨ ((¬ t < 0 ∧ 0 ≤ i) ∧ ¬ ci 1 7 = 0 ∧ r = some (.int (atF c t i n 0 0)) ∧ M' = mm (ci) (cl) cr dy ∧ nx = nx')) := by
  refine CT_intro (by decide) (Nat.le_of_ble_eq_true rfl) (fun Γ hΓ hQ => ?_)
  replace hΓ : CK E RX11 cX11_at 3 (some .int) "at" 2 0 0 Γ := hΓ
  show SV E Γ 3 (mm ci cl cr dy) nx 0 0 0 [(0, .ref 1), (1, .int t), (2, .int i)] []
  refine sv_iload_n hΓ dX11_at_0 rfl 1 rfl rfl ?_
  refine sv_if_lt (tgt := 8) hΓ dX11_at_1 (by decide) rfl (fun u1 => ?_) (fun u1 => ?_)
  · refine sv_iconst (v := (-1)) hΓ dX11_at_8 (by decide) rfl ?_
    exact sv_iret hΓ hQ dX11_at_9 (Nat.le_of_ble_eq_true rfl) (Nat.le_of_ble_eq_true rfl) (Or.inl ⟨fun q => q.1 u1, rfl, rfl, rfl⟩)
  · refine sv_iload_n hΓ dX11_at_4 rfl 2 rfl rfl ?_
    refine sv_if_ge (tgt := 10) hΓ dX11_at_5 (by decide) rfl (fun u2 => ?_) (fun u2 => ?_)
    · refine sv_aload_n hΓ dX11_at_10 rfl 0 rfl rfl ?_
      refine g_X11_65_1 hΓ dX11_at_11 rfl ?_
      refine sv_if_ne (tgt := 20) hΓ dX11_at_14 (by decide) rfl (fun u3 => ?_) (fun u3 => ?_)
      · have hl := u3
        refine sv_aload_n hΓ dX11_at_20 rfl 0 rfl rfl ?_
        refine g_X11_37_1 hΓ dX11_at_21 rfl ?_
        refine sv_iload_n hΓ dX11_at_24 rfl 1 rfl rfl ?_
        refine sv_iload_n hΓ dX11_at_25 rfl 2 rfl rfl ?_
        refine sv_callV hΓ (fun l => ct_X5_beginner l c n t i hn hn6 (ht hl)) wv_X11_269 vs_X5_beginner rfl m_10 rfl rfl (by decide) (Nat.le_of_ble_eq_true rfl) (Nat.le_of_ble_eq_true rfl) (Nat.le_of_ble_eq_true rfl) dX11_at_26 rfl (fun r M' nx' p4 => ?_)
        obtain ⟨rfl, rfl, rfl⟩ := p4
        show SV E Γ 3 (mm ci cl cr dy) nx 0 0 29 [(0, .ref 1), (1, .int t), (2, .int i)] [.int (atF c t i n 0 0)]
        exact sv_iret hΓ hQ dX11_at_29 (Nat.le_of_ble_eq_true rfl) (Nat.le_of_ble_eq_true rfl) (Or.inr (Or.inr ⟨⟨u1, u2⟩, hl, rfl, rfl, rfl⟩))
      · refine sv_bipush (v := (-3)) hΓ dX11_at_17 (by decide) rfl ?_
        exact sv_iret hΓ hQ dX11_at_19 (Nat.le_of_ble_eq_true rfl) (Nat.le_of_ble_eq_true rfl) (Or.inr (Or.inl ⟨⟨u1, u2⟩, u3, rfl, rfl, rfl⟩))
    · refine sv_iconst (v := (-1)) hΓ dX11_at_8 (by decide) rfl ?_
      exact sv_iret hΓ hQ dX11_at_9 (Nat.le_of_ble_eq_true rfl) (Nat.le_of_ble_eq_true rfl) (Or.inl ⟨fun q => u2 q.2, rfl, rfl, rfl⟩)
set_option maxRecDepth 100000 in
set_option maxHeartbeats 1000000 in
/-- run -/
theorem ct_X11_run {E : aG} (l : Launch) (c : aI) (nu : Nat → Int64) (lg : aL) (n : Nat) (z : Int32) (g : Nat → Nat) {ci : Nat → Nat → Int32} {cl : Nat → Nat → Int64} {cr : Nat → Nat → Option Nat} {dy : aM} {nx : Nat} (hG : RG c nu lg ci cl cr dy n) (h24 : ∀ i, i < n → ci 24 i = nI i) (hO : ¬ ci 1 7 = 0 → OA ci g n) (hNW : NW E) : CT E l yX11_run cX11_run 2 (some .int) 6 [.ref 1, .int z] (mm ci cl cr dy) nx 0 0 (fun r M' nx' => (n = 0 ∧ r = some (.int (-2)) ∧ M' = mm (ci) (cl) cr dy ∧ nx = nx') ∨ (¬ n = 0 ∧ ¬ z = 0 ∧ ci 1 7 = 0 ∧ r = some (.int (-3)) ∧ M' = mm (ci) (cl) cr dy ∧ nx = nx') ∨ (¬ n = 0 ∧ z = 0 ∧ ∃ c1 l1, RO c lg (fun i => i) ci c1 cl l1 n ∧ c1 18 11 = 0 ∧ r = some (.int (c1 18 8)) ∧ M' = mm (up2 c1 1 8 1) l1 cr dy ∧ nx = nx') ∨ (¬ n = 0 ∧ ¬ z = 0 ∧ ¬ ci 1 7 = 0 ∧ ∃ c1 l1, RO c lg g ci c1 cl l1 n ∧ c1 18 11 = (if c1 18 9 = -2 then ci 10 6 else ci 11 (c1 18 9).toNatClampNeg) ∧ r = some (.int (c1 18 8)) ∧ M' = mm (up2 c1 1 8 1) l1 cr dy ∧ nx = nx')) := by
  refine CT_intro (by decide) (Nat.le_of_ble_eq_true rfl) (fun Γ hΓ hQ => ?_)
  replace hΓ : CK E RX11 cX11_run 2 (some .int) "run" 6 0 0 Γ := hΓ
  have hn6 := hG.1.2.2.1
  have hn := hG.1.2.2.2.1
  show SV E Γ 2 (mm ci cl cr dy) nx 0 0 0 [(0, .ref 1), (1, .int z)] []
  refine sv_aload_n hΓ dX11_run_0 rfl 0 rfl rfl ?_
  refine g_X11_10_1 hΓ dX11_run_1 rfl ?_
  refine sv_callV hΓ (fun l => ct_X1_sizeN l n hn) wv_X11_127 vs_X1_size rfl m_2 rfl rfl (by decide) (Nat.le_of_ble_eq_true rfl) (Nat.le_of_ble_eq_true rfl) (Nat.le_of_ble_eq_true rfl) dX11_run_4 rfl (fun r M' nx' p1 => ?_)
  obtain ⟨rfl, rfl, rfl⟩ := p1
  show SV E Γ 2 (mm ci cl cr dy) nx 0 0 7 [(0, .ref 1), (1, .int z)] [.int (nI n)]
  refine sv_if_ne (tgt := 13) hΓ dX11_run_7 (by decide) rfl (fun u2 => ?_) (fun u2 => ?_)
  · refine sv_iload_n hΓ dX11_run_13 rfl 1 rfl rfl ?_
    refine sv_if_eq (tgt := 27) hΓ dX11_run_14 (by decide) rfl (fun u3 => ?_) (fun u3 => ?_)
    · refine sv_iload_n hΓ dX11_run_27 rfl 1 rfl rfl ?_
      refine sv_if_eq (tgt := 45) hΓ dX11_run_28 (by decide) rfl (fun u4 => ?_) (fun u4 => absurd u3 u4)
      refine sv_aload_n hΓ dX11_run_45 rfl 0 rfl rfl ?_
      refine g_X11_55_1 hΓ dX11_run_46 rfl ?_
      refine sv_callV hΓ (fun l => ct_X3_runPlain l c nu lg n hG h24 hNW) wv_X11_276 vs_X3_runPlain rfl m_18 rfl rfl (by decide) (Nat.le_of_ble_eq_true rfl) (Nat.le_of_ble_eq_true rfl) (Nat.le_of_ble_eq_true rfl) dX11_run_49 rfl (fun r M' nx' p5 => ?_)
      obtain ⟨rfl, c1, l1, hR, h11, rfl, rfl⟩ := p5
      show SV E Γ 2 (mm c1 l1 cr dy) nx 0 0 52 [(0, .ref 1), (1, .int z)] []
      refine sv_aload_n hΓ dX11_run_52 rfl 0 rfl rfl ?_
      refine sv_iconst (v := 1) hΓ dX11_run_53 (by decide) rfl ?_
      refine p_X11_69_1 hΓ ⟨rfl, rfl⟩ dX11_run_54 rfl ?_
      refine sv_aload_n hΓ dX11_run_57 rfl 0 rfl rfl ?_
      refine g_X11_55_1 hΓ dX11_run_58 rfl ?_
      refine g_X11_279_18 hΓ dX11_run_61 rfl ?_
      exact sv_iret hΓ hQ dX11_run_64 (Nat.le_of_ble_eq_true rfl) (Nat.le_of_ble_eq_true rfl) (Or.inr (Or.inr (Or.inl ⟨fun e => u2 (by rw [e]; rfl), u3, c1, l1, hR, h11, by rw [up2_k _ _ _ (by decide)], rfl, rfl⟩)))
    · refine sv_aload_n hΓ dX11_run_17 rfl 0 rfl rfl ?_
      refine g_X11_65_1 hΓ dX11_run_18 rfl ?_
      refine sv_if_ne (tgt := 27) hΓ dX11_run_21 (by decide) rfl (fun u6 => ?_) (fun u6 => ?_)
      · refine sv_iload_n hΓ dX11_run_27 rfl 1 rfl rfl ?_
        refine sv_if_eq (tgt := 45) hΓ dX11_run_28 (by decide) rfl (fun u7 => absurd u7 u3) (fun u7 => ?_)
        refine sv_aload_n hΓ dX11_run_31 rfl 0 rfl rfl ?_
        refine g_X11_55_1 hΓ dX11_run_32 rfl ?_
        refine sv_aload_n hΓ dX11_run_35 rfl 0 rfl rfl ?_
        refine g_X11_37_1 hΓ dX11_run_36 rfl ?_
        have hO1 := hO u6
        refine sv_callV hΓ (fun l => ct_X3_runLaid l c nu lg n g hG hO1 hNW) wv_X11_272 vs_X3_runLaid rfl m_18 rfl rfl (by decide) (Nat.le_of_ble_eq_true rfl) (Nat.le_of_ble_eq_true rfl) (Nat.le_of_ble_eq_true rfl) dX11_run_39 rfl (fun r M' nx' p8 => ?_)
        obtain ⟨rfl, c1, l1, hR, h11, rfl, rfl⟩ := p8
        show SV E Γ 2 (mm c1 l1 cr dy) nx 0 0 42 [(0, .ref 1), (1, .int z)] []
        refine sv_goto (pc' := 52) hΓ dX11_run_42 (by decide) ?_
        refine sv_aload_n hΓ dX11_run_52 rfl 0 rfl rfl ?_
        refine sv_iconst (v := 1) hΓ dX11_run_53 (by decide) rfl ?_
        refine p_X11_69_1 hΓ ⟨rfl, rfl⟩ dX11_run_54 rfl ?_
        refine sv_aload_n hΓ dX11_run_57 rfl 0 rfl rfl ?_
        refine g_X11_55_1 hΓ dX11_run_58 rfl ?_
        refine g_X11_279_18 hΓ dX11_run_61 rfl ?_
        exact sv_iret hΓ hQ dX11_run_64 (Nat.le_of_ble_eq_true rfl) (Nat.le_of_ble_eq_true rfl) (Or.inr (Or.inr (Or.inr ⟨fun e => u2 (by rw [e]; rfl), u3, u6, c1, l1, hR, h11, by rw [up2_k _ _ _ (by decide)], rfl, rfl⟩)))
      · refine sv_bipush (v := (-3)) hΓ dX11_run_24 (by decide) rfl ?_
        exact sv_iret hΓ hQ dX11_run_26 (Nat.le_of_ble_eq_true rfl) (Nat.le_of_ble_eq_true rfl) (Or.inr (Or.inl ⟨fun e => u2 (by rw [e]; rfl), u3, u6, rfl, rfl, rfl⟩))
  · refine sv_bipush (v := (-2)) hΓ dX11_run_10 (by decide) rfl ?_
    exact sv_iret hΓ hQ dX11_run_12 (Nat.le_of_ble_eq_true rfl) (Nat.le_of_ble_eq_true rfl) (Or.inl ⟨k0 (by omega) u2, rfl, rfl, rfl⟩)
set_option maxRecDepth 100000 in
set_option maxHeartbeats 1000000 in
/-- total -/
theorem ct_X11_totalF {E : aG} (l : Launch)  {ci : Nat → Nat → Int32} {cl : Nat → Nat → Int64} {cr : Nat → Nat → Option Nat} {dy : aM} {nx : Nat} (hT : TR cr) : CT E l yX11_total cX11_total 6 (some .int) 1 [.ref 19] (mm ci cl cr dy) nx 0 0 (fun r M' nx' => r = some (.int (tlF ci 0 4)) ∧ M' = mm ci cl cr dy ∧ nx = nx') := by
  refine CT_intro (by decide) (Nat.le_of_ble_eq_true rfl) (fun Γ hΓ hQ => ?_)
  replace hΓ : CK E RX11 cX11_total 6 (some .int) "total" 1 0 0 Γ := hΓ
  show SV E Γ 6 (mm ci cl cr dy) nx 0 0 0 [(0, .ref 19)] []
  refine sv_iconst (v := 0) hΓ dX11_total_0 (by decide) rfl ?_
  refine sv_istore_n (lv' := [(1, .int 0), (0, .ref 19)]) hΓ dX11_total_1 rfl (by decide) rfl rfl ?_
  refine sv_aload_n hΓ dX11_total_2 rfl 1 rfl rfl ?_
  refine sv_astore_n (lv' := [(2, .ref 19), (1, .int 0), (0, .ref 19)]) hΓ dX11_total_3 rfl (by decide) rfl rfl ?_
  refine sv_aload_n hΓ dX11_total_4 rfl 0 rfl rfl ?_
  refine sv_alen (t := 5) hΓ rfl dX11_total_5 m_19 (v := 4) rfl rfl ?_
  refine sv_istore_n (lv' := [(3, .int 4), (2, .ref 19), (1, .int 0), (0, .ref 19)]) hΓ dX11_total_6 rfl (by decide) rfl rfl ?_
  refine sv_iconst (v := 0) hΓ dX11_total_7 (by decide) rfl ?_
  refine sv_istore (lv' := [(4, .int 0), (3, .int 4), (2, .ref 19), (1, .int 0), (0, .ref 19)]) hΓ dX11_total_8 (by decide) rfl rfl ?_
  have LP10 : ∀ kq i : Nat, i + kq = 4 → SV E Γ 6 (mm ci cl cr dy) nx 0 0 10 [(4, .int (nI i)), (3, .int 4), (2, .ref 19), (1, .int (tlF ci 0 i)), (0, .ref 19)] [] := by
    intro kq
    induction kq with
    | zero =>
      intro i ha
      have ea : i = 4 := by omega
      refine sv_iload hΓ dX11_total_10 0 rfl rfl ?_
      refine sv_iload_n hΓ dX11_total_12 rfl 1 rfl rfl ?_
      refine sv_icmp_ge (tgt := 36) hΓ dX11_total_13 (by decide) rfl (fun u1 => ?_) (fun u1 => absurd (nI_le (a := 4) (by omega) (by omega)) u1)
      refine sv_iload_n hΓ dX11_total_36 rfl 3 rfl rfl ?_
      exact sv_iret hΓ hQ dX11_total_37 (Nat.le_of_ble_eq_true rfl) (Nat.le_of_ble_eq_true rfl) ⟨by rw [ea], rfl, rfl⟩
    | succ kq ih =>
      intro i ha
      refine sv_iload hΓ dX11_total_10 0 rfl rfl ?_
      refine sv_iload_n hΓ dX11_total_12 rfl 1 rfl rfl ?_
      refine sv_icmp_ge (tgt := 36) hΓ dX11_total_13 (by decide) rfl (fun u2 => absurd u2 (nI_ge (b := 4) (by omega) (by omega))) (fun u2 => ?_)
      refine sv_aload_n hΓ dX11_total_16 rfl 2 rfl rfl ?_
      refine sv_iload hΓ dX11_total_17 0 rfl rfl ?_
      refine ar_19 hΓ (i) rfl (by omega) dX11_total_19 (v := .ref (26 + 2 * (2 * i + 0))) (rf_some (hT i (by omega)).1) rfl ?_
      refine sv_astore (lv' := [(5, .ref (26 + 2 * (2 * i + 0))), (4, .int (nI i)), (3, .int 4), (2, .ref 19), (1, .int (tlF ci 0 i)), (0, .ref 19)]) hΓ dX11_total_20 (by decide) rfl rfl ?_
      refine sv_iload_n hΓ dX11_total_22 rfl 4 rfl rfl ?_
      refine sv_aload hΓ dX11_total_23 0 rfl rfl ?_
      refine sv_callV hΓ (fun l => ct_X10_size l (2 * i + 0) (by omega)) wv_X11_164 vs_X10_size rfl (m_tp (q := 2 * i + 0) (by omega)) rfl rfl (by decide) (Nat.le_of_ble_eq_true rfl) (Nat.le_of_ble_eq_true rfl) (Nat.le_of_ble_eq_true rfl) dX11_total_25 rfl (fun r M' nx' p3 => ?_)
      obtain ⟨rfl, rfl, rfl⟩ := p3
      show SV E Γ 6 (mm ci cl cr dy) nx 0 0 28 [(5, .ref (26 + 2 * (2 * i + 0))), (4, .int (nI i)), (3, .int 4), (2, .ref 19), (1, .int (tlF ci 0 i)), (0, .ref 19)] [.int (ci (26 + 2 * (2 * i + 0)) 1), .int (tlF ci 0 i)]
      refine sv_iadd hΓ dX11_total_28 rfl ?_
      refine sv_istore_n (lv' := [(1, .int ((tlF ci 0 i) + (ci (26 + 2 * (2 * i + 0)) 1))), (5, .ref (26 + 2 * (2 * i + 0))), (4, .int (nI i)), (3, .int 4), (2, .ref 19), (0, .ref 19)]) hΓ dX11_total_29 rfl (by decide) rfl rfl ?_
      refine sv_iinc (v := nI (i + 1)) (lv' := [(4, .int (nI (i + 1))), (1, .int ((tlF ci 0 i) + (ci (26 + 2 * (2 * i + 0)) 1))), (5, .ref (26 + 2 * (2 * i + 0))), (3, .int 4), (2, .ref 19), (0, .ref 19)]) hΓ dX11_total_30 2 rfl (nx_inc rfl) (by decide) rfl rfl ?_
      refine sv_goto (pc' := 10) hΓ dX11_total_33 (by decide) ?_
      have q := ih (i + 1) (by omega)
      rw [show tlF ci 0 (i + 1) = (tlF ci 0 i) + (ci (26 + 2 * (2 * i + 0)) 1) from rfl] at q
      exact SV_lv [0, 3, 4, 1, 5] rfl q
  exact SV_lv [0, 1, 2, 3, 4] rfl (LP10 4 0 (by omega))
set_option maxRecDepth 100000 in
set_option maxHeartbeats 1000000 in
/-- total -/
theorem ct_X11_totalP {E : aG} (l : Launch)  {ci : Nat → Nat → Int32} {cl : Nat → Nat → Int64} {cr : Nat → Nat → Option Nat} {dy : aM} {nx : Nat} (hT : TR cr) : CT E l yX11_total cX11_total 6 (some .int) 1 [.ref 20] (mm ci cl cr dy) nx 0 0 (fun r M' nx' => r = some (.int (tlF ci 1 4)) ∧ M' = mm ci cl cr dy ∧ nx = nx') := by
  refine CT_intro (by decide) (Nat.le_of_ble_eq_true rfl) (fun Γ hΓ hQ => ?_)
  replace hΓ : CK E RX11 cX11_total 6 (some .int) "total" 1 0 0 Γ := hΓ
  show SV E Γ 6 (mm ci cl cr dy) nx 0 0 0 [(0, .ref 20)] []
  refine sv_iconst (v := 0) hΓ dX11_total_0 (by decide) rfl ?_
  refine sv_istore_n (lv' := [(1, .int 0), (0, .ref 20)]) hΓ dX11_total_1 rfl (by decide) rfl rfl ?_
  refine sv_aload_n hΓ dX11_total_2 rfl 1 rfl rfl ?_
  refine sv_astore_n (lv' := [(2, .ref 20), (1, .int 0), (0, .ref 20)]) hΓ dX11_total_3 rfl (by decide) rfl rfl ?_
  refine sv_aload_n hΓ dX11_total_4 rfl 0 rfl rfl ?_
  refine sv_alen (t := 5) hΓ rfl dX11_total_5 m_20 (v := 4) rfl rfl ?_
  refine sv_istore_n (lv' := [(3, .int 4), (2, .ref 20), (1, .int 0), (0, .ref 20)]) hΓ dX11_total_6 rfl (by decide) rfl rfl ?_
  refine sv_iconst (v := 0) hΓ dX11_total_7 (by decide) rfl ?_
  refine sv_istore (lv' := [(4, .int 0), (3, .int 4), (2, .ref 20), (1, .int 0), (0, .ref 20)]) hΓ dX11_total_8 (by decide) rfl rfl ?_
  have LP10 : ∀ kq i : Nat, i + kq = 4 → SV E Γ 6 (mm ci cl cr dy) nx 0 0 10 [(4, .int (nI i)), (3, .int 4), (2, .ref 20), (1, .int (tlF ci 1 i)), (0, .ref 20)] [] := by
    intro kq
    induction kq with
    | zero =>
      intro i ha
      have ea : i = 4 := by omega
      refine sv_iload hΓ dX11_total_10 0 rfl rfl ?_
      refine sv_iload_n hΓ dX11_total_12 rfl 1 rfl rfl ?_
      refine sv_icmp_ge (tgt := 36) hΓ dX11_total_13 (by decide) rfl (fun u1 => ?_) (fun u1 => absurd (nI_le (a := 4) (by omega) (by omega)) u1)
      refine sv_iload_n hΓ dX11_total_36 rfl 3 rfl rfl ?_
      exact sv_iret hΓ hQ dX11_total_37 (Nat.le_of_ble_eq_true rfl) (Nat.le_of_ble_eq_true rfl) ⟨by rw [ea], rfl, rfl⟩
    | succ kq ih =>
      intro i ha
      refine sv_iload hΓ dX11_total_10 0 rfl rfl ?_
      refine sv_iload_n hΓ dX11_total_12 rfl 1 rfl rfl ?_
      refine sv_icmp_ge (tgt := 36) hΓ dX11_total_13 (by decide) rfl (fun u2 => absurd u2 (nI_ge (b := 4) (by omega) (by omega))) (fun u2 => ?_)
      refine sv_aload_n hΓ dX11_total_16 rfl 2 rfl rfl ?_
      refine sv_iload hΓ dX11_total_17 0 rfl rfl ?_
      refine ar_20 hΓ (i) rfl (by omega) dX11_total_19 (v := .ref (26 + 2 * (2 * i + 1))) (rf_some (hT i (by omega)).2) rfl ?_
      refine sv_astore (lv' := [(5, .ref (26 + 2 * (2 * i + 1))), (4, .int (nI i)), (3, .int 4), (2, .ref 20), (1, .int (tlF ci 1 i)), (0, .ref 20)]) hΓ dX11_total_20 (by decide) rfl rfl ?_
      refine sv_iload_n hΓ dX11_total_22 rfl 4 rfl rfl ?_
      refine sv_aload hΓ dX11_total_23 0 rfl rfl ?_
      refine sv_callV hΓ (fun l => ct_X10_size l (2 * i + 1) (by omega)) wv_X11_164 vs_X10_size rfl (m_tp (q := 2 * i + 1) (by omega)) rfl rfl (by decide) (Nat.le_of_ble_eq_true rfl) (Nat.le_of_ble_eq_true rfl) (Nat.le_of_ble_eq_true rfl) dX11_total_25 rfl (fun r M' nx' p3 => ?_)
      obtain ⟨rfl, rfl, rfl⟩ := p3
      show SV E Γ 6 (mm ci cl cr dy) nx 0 0 28 [(5, .ref (26 + 2 * (2 * i + 1))), (4, .int (nI i)), (3, .int 4), (2, .ref 20), (1, .int (tlF ci 1 i)), (0, .ref 20)] [.int (ci (26 + 2 * (2 * i + 1)) 1), .int (tlF ci 1 i)]
      refine sv_iadd hΓ dX11_total_28 rfl ?_
      refine sv_istore_n (lv' := [(1, .int ((tlF ci 1 i) + (ci (26 + 2 * (2 * i + 1)) 1))), (5, .ref (26 + 2 * (2 * i + 1))), (4, .int (nI i)), (3, .int 4), (2, .ref 20), (0, .ref 20)]) hΓ dX11_total_29 rfl (by decide) rfl rfl ?_
      refine sv_iinc (v := nI (i + 1)) (lv' := [(4, .int (nI (i + 1))), (1, .int ((tlF ci 1 i) + (ci (26 + 2 * (2 * i + 1)) 1))), (5, .ref (26 + 2 * (2 * i + 1))), (3, .int 4), (2, .ref 20), (0, .ref 20)]) hΓ dX11_total_30 2 rfl (nx_inc rfl) (by decide) rfl rfl ?_
      refine sv_goto (pc' := 10) hΓ dX11_total_33 (by decide) ?_
      have q := ih (i + 1) (by omega)
      rw [show tlF ci 1 (i + 1) = (tlF ci 1 i) + (ci (26 + 2 * (2 * i + 1)) 1) from rfl] at q
      exact SV_lv [0, 3, 4, 1, 5] rfl q
  exact SV_lv [0, 1, 2, 3, 4] rfl (LP10 4 0 (by omega))
set_option maxRecDepth 100000 in
set_option maxHeartbeats 1000000 in
/-- told -/
theorem ct_X11_told {E : aG} (l : Launch) (q : Int32) {ci : Nat → Nat → Int32} {cl : Nat → Nat → Int64} {cr : Nat → Nat → Option Nat} {dy : aM} {nx : Nat} (hT : TR cr) : CT E l yX11_told cX11_told 2 (some .int) 2 [.ref 1, .int q] (mm ci cl cr dy) nx 0 0 (fun r M' nx' => (¬ II 0 4 q ∧ r = some (.int (-1)) ∧ M' = mm (ci) (cl) cr dy ∧ nx = nx') ∨ (II 0 4 q ∧ ci 1 8 = 0 ∧ r = some (.int (-3)) ∧ M' = mm (ci) (cl) cr dy ∧ nx = nx') ∨ (∃ k, k ≤ 4 ∧ q = nI k ∧ ¬ ci 1 8 = 0 ∧ r = some (.int (tdC ci k)) ∧ M' = mm ci cl cr dy ∧ nx = nx')) := by
  refine CT_intro (by decide) (Nat.le_of_ble_eq_true rfl) (fun Γ hΓ hQ => ?_)
  replace hΓ : CK E RX11 cX11_told 2 (some .int) "told" 2 0 0 Γ := hΓ
  show SV E Γ 2 (mm ci cl cr dy) nx 0 0 0 [(0, .ref 1), (1, .int q)] []
  refine sv_iload_n hΓ dX11_told_0 rfl 1 rfl rfl ?_
  refine sv_iconst (v := 0) hΓ dX11_told_1 (by decide) rfl ?_
  refine sv_iconst (v := 4) hΓ dX11_told_2 (by decide) rfl ?_
  refine sv_callS hΓ (fun l => ct_X11_withinI l q 0 4 0 4 (by decide) (by decide) rfl rfl) wv_X11_115 tb_256 rfl rfl (by decide) (Nat.le_of_ble_eq_true rfl) (Nat.le_of_ble_eq_true rfl) (Nat.le_of_ble_eq_true rfl) dX11_told_3 rfl (fun r M' nx' p1 => ?_)
  obtain ⟨rfl, rfl, rfl⟩ := p1
  show SV E Γ 2 (mm ci cl cr dy) nx 0 0 6 [(0, .ref 1), (1, .int q)] [.int (bI (II 0 4 q))]
  refine sv_if_ne (tgt := 11) hΓ dX11_told_6 (by decide) rfl (fun u2 => ?_) (fun u2 => ?_)
  · replace u2 := bI_ne.mp u2
    refine sv_aload_n hΓ dX11_told_11 rfl 0 rfl rfl ?_
    refine g_X11_69_1 hΓ dX11_told_12 rfl ?_
    refine sv_if_ne (tgt := 21) hΓ dX11_told_15 (by decide) rfl (fun u3 => ?_) (fun u3 => ?_)
    · refine sv_iload_n hΓ dX11_told_21 rfl 1 rfl rfl ?_
      refine sv_table (x := q) (lo := 0) (hi := 3) 3 rfl (fun u4 => ?_) (fun k hk u4 => ?_)
      · refine sv_tableOut (pc' := 84) hΓ dX11_told_22 u4 (by decide) ?_
        refine sv_aload_n hΓ dX11_told_84 rfl 0 rfl rfl ?_
        refine g_X11_55_1 hΓ dX11_told_85 rfl ?_
        refine g_X11_291_18 hΓ dX11_told_88 rfl ?_
        refine sv_callS hΓ (fun l => ct_X11_totalP l  hT) wv_X11_294 tb_706 rfl rfl (by decide) (Nat.le_of_ble_eq_true rfl) (Nat.le_of_ble_eq_true rfl) (Nat.le_of_ble_eq_true rfl) dX11_told_91 rfl (fun r M' nx' p5 => ?_)
        obtain ⟨rfl, rfl, rfl⟩ := p5
        show SV E Γ 2 (mm ci cl cr dy) nx 0 0 94 [(0, .ref 1), (1, .int q)] [.int (tlF ci 1 4)]
        exact sv_iret hΓ hQ dX11_told_94 (Nat.le_of_ble_eq_true rfl) (Nat.le_of_ble_eq_true rfl) (Or.inr (Or.inr ⟨4, by omega, i_is (by have := u2.1; have := u2.2; omega), u3, rfl, rfl, rfl⟩))
      · obtain rfl | rfl | rfl | rfl : k = 0 ∨ k = 1 ∨ k = 2 ∨ k = 3 := by omega
        · refine sv_tableIn (off := 30) (pc' := 52) hΓ dX11_told_22 (by omega) (by omega) (by rw [u4]; rfl) (by decide) ?_
          replace u4 : q = (0 : Int32) := Int32.toInt_inj.mp (u4.trans (by decide))
          refine sv_aload_n hΓ dX11_told_52 rfl 0 rfl rfl ?_
          refine g_X11_55_1 hΓ dX11_told_53 rfl ?_
          refine g_X11_279_18 hΓ dX11_told_56 rfl ?_
          exact sv_iret hΓ hQ dX11_told_59 (Nat.le_of_ble_eq_true rfl) (Nat.le_of_ble_eq_true rfl) (Or.inr (Or.inr ⟨0, by omega, u4, u3, rfl, rfl, rfl⟩))
        · refine sv_tableIn (off := 38) (pc' := 60) hΓ dX11_told_22 (by omega) (by omega) (by rw [u4]; rfl) (by decide) ?_
          replace u4 : q = (1 : Int32) := Int32.toInt_inj.mp (u4.trans (by decide))
          refine sv_aload_n hΓ dX11_told_60 rfl 0 rfl rfl ?_
          refine g_X11_55_1 hΓ dX11_told_61 rfl ?_
          refine g_X11_282_18 hΓ dX11_told_64 rfl ?_
          exact sv_iret hΓ hQ dX11_told_67 (Nat.le_of_ble_eq_true rfl) (Nat.le_of_ble_eq_true rfl) (Or.inr (Or.inr ⟨1, by omega, u4, u3, rfl, rfl, rfl⟩))
        · refine sv_tableIn (off := 46) (pc' := 68) hΓ dX11_told_22 (by omega) (by omega) (by rw [u4]; rfl) (by decide) ?_
          replace u4 : q = (2 : Int32) := Int32.toInt_inj.mp (u4.trans (by decide))
          refine sv_aload_n hΓ dX11_told_68 rfl 0 rfl rfl ?_
          refine g_X11_55_1 hΓ dX11_told_69 rfl ?_
          refine g_X11_285_18 hΓ dX11_told_72 rfl ?_
          exact sv_iret hΓ hQ dX11_told_75 (Nat.le_of_ble_eq_true rfl) (Nat.le_of_ble_eq_true rfl) (Or.inr (Or.inr ⟨2, by omega, u4, u3, rfl, rfl, rfl⟩))
        · refine sv_tableIn (off := 54) (pc' := 76) hΓ dX11_told_22 (by omega) (by omega) (by rw [u4]; rfl) (by decide) ?_
          replace u4 : q = (3 : Int32) := Int32.toInt_inj.mp (u4.trans (by decide))
          refine sv_aload_n hΓ dX11_told_76 rfl 0 rfl rfl ?_
          refine g_X11_55_1 hΓ dX11_told_77 rfl ?_
          refine g_X11_288_18 hΓ dX11_told_80 rfl ?_
          exact sv_iret hΓ hQ dX11_told_83 (Nat.le_of_ble_eq_true rfl) (Nat.le_of_ble_eq_true rfl) (Or.inr (Or.inr ⟨3, by omega, u4, u3, rfl, rfl, rfl⟩))
    · refine sv_bipush (v := (-3)) hΓ dX11_told_18 (by decide) rfl ?_
      exact sv_iret hΓ hQ dX11_told_20 (Nat.le_of_ble_eq_true rfl) (Nat.le_of_ble_eq_true rfl) (Or.inr (Or.inl ⟨u2, u3, rfl, rfl, rfl⟩))
  · replace u2 := bI_0.mp u2
    refine sv_iconst (v := (-1)) hΓ dX11_told_9 (by decide) rfl ?_
    exact sv_iret hΓ hQ dX11_told_10 (Nat.le_of_ble_eq_true rfl) (Nat.le_of_ble_eq_true rfl) (Or.inl ⟨u2, rfl, rfl, rfl⟩)
set_option maxRecDepth 100000 in
set_option maxHeartbeats 1000000 in
/-- outs -/
theorem ct_X11_outs {E : aG} (l : Launch) (q : Int32) {ci : Nat → Nat → Int32} {cl : Nat → Nat → Int64} {cr : Nat → Nat → Option Nat} {dy : aM} {nx : Nat} (hT : TR cr) : CT E l yX11_outs cX11_outs 2 (some .int) 2 [.ref 1, .int q] (mm ci cl cr dy) nx 0 0 (fun r M' nx' => (¬ II 0 3 q ∧ r = some (.int (-1)) ∧ M' = mm (ci) (cl) cr dy ∧ nx = nx') ∨ (∃ k, k < 4 ∧ q = nI k ∧ r = some (.int (if ci 1 8 = 0 then -3 else ci (26 + 2 * (2 * k + 1)) 1)) ∧ M' = mm ci cl cr dy ∧ nx = nx')) := by
  refine CT_intro (by decide) (Nat.le_of_ble_eq_true rfl) (fun Γ hΓ hQ => ?_)
  replace hΓ : CK E RX11 cX11_outs 2 (some .int) "outs" 2 0 0 Γ := hΓ
  show SV E Γ 2 (mm ci cl cr dy) nx 0 0 0 [(0, .ref 1), (1, .int q)] []
  refine sv_iload_n hΓ dX11_outs_0 rfl 1 rfl rfl ?_
  refine sv_callS hΓ (fun l => ct_X11_isPort l q ) wv_X11_94 tb_355 rfl rfl (by decide) (Nat.le_of_ble_eq_true rfl) (Nat.le_of_ble_eq_true rfl) (Nat.le_of_ble_eq_true rfl) dX11_outs_1 rfl (fun r M' nx' p1 => ?_)
  obtain ⟨rfl, rfl, rfl⟩ := p1
  show SV E Γ 2 (mm ci cl cr dy) nx 0 0 4 [(0, .ref 1), (1, .int q)] [.int (bI (II 0 3 q))]
  refine sv_if_ne (tgt := 9) hΓ dX11_outs_4 (by decide) rfl (fun u2 => ?_) (fun u2 => ?_)
  · replace u2 := bI_ne.mp u2
    obtain ⟨k, hk0, hk3, ek⟩ := II.k u2
    subst ek
    refine sv_aload_n hΓ dX11_outs_9 rfl 0 rfl rfl ?_
    refine g_X11_69_1 hΓ dX11_outs_10 rfl ?_
    refine sv_if_eq (tgt := 31) hΓ dX11_outs_13 (by decide) rfl (fun u3 => ?_) (fun u3 => ?_)
    · refine sv_bipush (v := (-3)) hΓ dX11_outs_31 (by decide) rfl ?_
      exact sv_iret hΓ hQ dX11_outs_33 (Nat.le_of_ble_eq_true rfl) (Nat.le_of_ble_eq_true rfl) (Or.inr ⟨k, by omega, rfl, by rw [if_pos u3], rfl, rfl⟩)
    · refine sv_aload_n hΓ dX11_outs_16 rfl 0 rfl rfl ?_
      refine g_X11_55_1 hΓ dX11_outs_17 rfl ?_
      refine g_X11_291_18 hΓ dX11_outs_20 rfl ?_
      refine sv_iload_n hΓ dX11_outs_23 rfl 1 rfl rfl ?_
      refine ar_20 hΓ (k) rfl (by omega) dX11_outs_24 (v := .ref (26 + 2 * (2 * k + 1))) (rf_some (hT k (by omega)).2) rfl ?_
      refine sv_callV hΓ (fun l => ct_X10_size l (2 * k + 1) (by omega)) wv_X11_164 vs_X10_size rfl (m_tp (q := 2 * k + 1) (by omega)) rfl rfl (by decide) (Nat.le_of_ble_eq_true rfl) (Nat.le_of_ble_eq_true rfl) (Nat.le_of_ble_eq_true rfl) dX11_outs_25 rfl (fun r M' nx' p4 => ?_)
      obtain ⟨rfl, rfl, rfl⟩ := p4
      show SV E Γ 2 (mm ci cl cr dy) nx 0 0 28 [(0, .ref 1), (1, .int (nI k))] [.int (ci (26 + 2 * (2 * k + 1)) 1)]
      refine sv_goto (pc' := 33) hΓ dX11_outs_28 (by decide) ?_
      exact sv_iret hΓ hQ dX11_outs_33 (Nat.le_of_ble_eq_true rfl) (Nat.le_of_ble_eq_true rfl) (Or.inr ⟨k, by omega, rfl, by rw [if_neg u3], rfl, rfl⟩)
  · replace u2 := bI_0.mp u2
    refine sv_iconst (v := (-1)) hΓ dX11_outs_7 (by decide) rfl ?_
    exact sv_iret hΓ hQ dX11_outs_8 (Nat.le_of_ble_eq_true rfl) (Nat.le_of_ble_eq_true rfl) (Or.inl ⟨u2, rfl, rfl, rfl⟩)
