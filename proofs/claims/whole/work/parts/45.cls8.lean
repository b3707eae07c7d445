set_option maxRecDepth 100000 in
set_option maxHeartbeats 4000000 in
/-- isTaken -/
theorem ct_X6_isTaken {E : aG} (l : Launch) (c : aI) (n : Nat) (r : Nat) (a : Nat) {ci : Nat → Nat → Int32} {cl : Nat → Nat → Int64} {cr : Nat → Nat → Option Nat} {dy : aM} {nx : Nat} (hn : ci 2 1 = nI n) (hn6 : n ≤ 16) (hRR : RR c ci n) (haa : a < n) (hu : usd c n a) (h57 : c 57 a = -2) (hr : r < 17) : CT E l yX6_isTaken cX6_isTaken 4 (some .boolean) 1 [.ref 14, .int (nI r), .int (nI a)] (mm ci cl cr dy) nx 0 0 (fun rr M' nx' => rr = some (.int (mrI c n a r n)) ∧ M' = mm ci cl cr dy ∧ nx = nx') := by
  refine CT_intro (by decide) (Nat.le_of_ble_eq_true rfl) (fun Γ hΓ hQ => ?_)
  replace hΓ : CK E RX6 cX6_isTaken 4 (some .boolean) "isTaken" 1 0 0 Γ := hΓ
  show SV E Γ 4 (mm ci cl cr dy) nx 0 0 0 [(0, .ref 14), (1, .int (nI r)), (2, .int (nI a))] []
  refine sv_iconst (v := 0) hΓ dX6_isTaken_0 (by decide) rfl ?_
  refine sv_istore_n (lv' := [(3, .int 0), (0, .ref 14), (1, .int (nI r)), (2, .int (nI a))]) hΓ dX6_isTaken_1 rfl (by decide) rfl rfl ?_
  have LP2 : ∀ kq b : Nat, b + kq = n → mrI c n a r b = 0 → SV E Γ 4 (mm ci cl cr dy) nx 0 0 2 [(3, .int (nI b)), (0, .ref 14), (1, .int (nI r)), (2, .int (nI a))] [] := by
    intro kq
    induction kq with
    | zero =>
      intro b ha
      have ea : b = n := by omega
      intro hf
      refine sv_iload_n hΓ dX6_isTaken_2 rfl 0 rfl rfl ?_
      refine sv_aload_n hΓ dX6_isTaken_3 rfl 1 rfl rfl ?_
      refine g_X6_25_14 hΓ dX6_isTaken_4 rfl ?_
      refine sv_callV hΓ (fun l => ct_X1_sizeN l n hn) wv_X6_37 vs_X1_size rfl m_2 rfl rfl (by decide) (Nat.le_of_ble_eq_true rfl) (Nat.le_of_ble_eq_true rfl) (Nat.le_of_ble_eq_true rfl) dX6_isTaken_7 rfl (fun r M' nx' p1 => ?_)
      obtain ⟨rfl, rfl, rfl⟩ := p1
      show SV E Γ 4 (mm ci cl cr dy) nx 0 0 10 [(3, .int (nI b)), (0, .ref 14), (1, .int (nI r)), (2, .int (nI a))] [.int (nI n), .int (nI b)]
      refine sv_icmp_ge (tgt := 61) hΓ dX6_isTaken_10 (by decide) rfl (fun u2 => ?_) (fun u2 => absurd (nI_le (by omega) (by omega)) u2)
      refine sv_iconst (v := 0) hΓ dX6_isTaken_61 (by decide) rfl ?_
      exact sv_zret hΓ hQ dX6_isTaken_62 (Nat.le_of_ble_eq_true rfl) (Nat.le_of_ble_eq_true rfl) rfl ⟨by rw [show mrI c n a r n = 0 from ea ▸ hf], rfl, rfl⟩
    | succ kq ih =>
      intro b ha
      intro hf
      refine sv_iload_n hΓ dX6_isTaken_2 rfl 0 rfl rfl ?_
      refine sv_aload_n hΓ dX6_isTaken_3 rfl 1 rfl rfl ?_
      refine g_X6_25_14 hΓ dX6_isTaken_4 rfl ?_
      refine sv_callV hΓ (fun l => ct_X1_sizeN l n hn) wv_X6_37 vs_X1_size rfl m_2 rfl rfl (by decide) (Nat.le_of_ble_eq_true rfl) (Nat.le_of_ble_eq_true rfl) (Nat.le_of_ble_eq_true rfl) dX6_isTaken_7 rfl (fun r M' nx' p3 => ?_)
      obtain ⟨rfl, rfl, rfl⟩ := p3
      show SV E Γ 4 (mm ci cl cr dy) nx 0 0 10 [(3, .int (nI b)), (0, .ref 14), (1, .int (nI r)), (2, .int (nI a))] [.int (nI n), .int (nI b)]
      refine sv_icmp_ge (tgt := 61) hΓ dX6_isTaken_10 (by decide) rfl (fun u4 => absurd u4 (nI_ge (by omega) (by omega))) (fun u4 => ?_)
      refine sv_aload_n hΓ dX6_isTaken_13 rfl 1 rfl rfl ?_
      refine g_X6_18_14 hΓ dX6_isTaken_14 rfl ?_
      refine sv_iload_n hΓ dX6_isTaken_17 rfl 0 rfl rfl ?_
      refine ai_17 hΓ (b) rfl (by omega) dX6_isTaken_18 rfl ?_
      refine sv_iload_n hΓ dX6_isTaken_19 rfl 2 rfl rfl ?_
      refine sv_icmp_ne (tgt := 55) hΓ dX6_isTaken_20 (by decide) rfl (fun u5 => ?_) (fun u5 => ?_)
      · refine sv_iinc (v := nI (b + 1)) (lv' := [(3, .int (nI (b + 1))), (0, .ref 14), (1, .int (nI r)), (2, .int (nI a))]) hΓ dX6_isTaken_55 0 rfl (nx_inc rfl) (by decide) rfl rfl ?_
        refine sv_goto (pc' := 2) hΓ dX6_isTaken_58 (by decide) ?_
        exact SV_lv [0, 1, 2, 3] rfl (ih (b + 1) (by omega) (mr_s0 hf (fun q => u5 ((hRR b (by omega)).1.trans q.1))))
      · refine sv_aload_n hΓ dX6_isTaken_23 rfl 1 rfl rfl ?_
        refine g_X6_9_14 hΓ dX6_isTaken_24 rfl ?_
        refine sv_iload_n hΓ dX6_isTaken_27 rfl 0 rfl rfl ?_
        refine ai_15 hΓ (b) rfl (by omega) dX6_isTaken_28 rfl ?_
        refine sv_aload_n hΓ dX6_isTaken_29 rfl 1 rfl rfl ?_
        refine g_X6_15_14 hΓ dX6_isTaken_30 rfl ?_
        refine sv_iload_n hΓ dX6_isTaken_33 rfl 3 rfl rfl ?_
        refine ai_16 hΓ (a) rfl (by omega) dX6_isTaken_34 rfl ?_
        refine sv_icmp_gt (tgt := 55) hΓ dX6_isTaken_35 (by decide) rfl (fun u6 => ?_) (fun u6 => ?_)
        · refine sv_iinc (v := nI (b + 1)) (lv' := [(3, .int (nI (b + 1))), (0, .ref 14), (1, .int (nI r)), (2, .int (nI a))]) hΓ dX6_isTaken_55 0 rfl (nx_inc rfl) (by decide) rfl rfl ?_
          refine sv_goto (pc' := 2) hΓ dX6_isTaken_58 (by decide) ?_
          exact SV_lv [0, 1, 2, 3] rfl (ih (b + 1) (by omega) (mr_s0 hf (fun q => absurd ((RR_tog hRR haa (by omega) hu (by omega) u5).mp q.2).1 (Int32.not_le.mpr u6))))
        · refine sv_aload_n hΓ dX6_isTaken_38 rfl 1 rfl rfl ?_
          refine g_X6_9_14 hΓ dX6_isTaken_39 rfl ?_
          refine sv_iload_n hΓ dX6_isTaken_42 rfl 3 rfl rfl ?_
          refine ai_15 hΓ (a) rfl (by omega) dX6_isTaken_43 rfl ?_
          refine sv_aload_n hΓ dX6_isTaken_44 rfl 1 rfl rfl ?_
          refine g_X6_15_14 hΓ dX6_isTaken_45 rfl ?_
          refine sv_iload_n hΓ dX6_isTaken_48 rfl 0 rfl rfl ?_
          refine ai_16 hΓ (b) rfl (by omega) dX6_isTaken_49 rfl ?_
          refine sv_icmp_gt (tgt := 55) hΓ dX6_isTaken_50 (by decide) rfl (fun u7 => ?_) (fun u7 => ?_)
          · refine sv_iinc (v := nI (b + 1)) (lv' := [(3, .int (nI (b + 1))), (0, .ref 14), (1, .int (nI r)), (2, .int (nI a))]) hΓ dX6_isTaken_55 0 rfl (nx_inc rfl) (by decide) rfl rfl ?_
            refine sv_goto (pc' := 2) hΓ dX6_isTaken_58 (by decide) ?_
            exact SV_lv [0, 1, 2, 3] rfl (ih (b + 1) (by omega) (mr_s0 hf (fun q => absurd ((RR_tog hRR haa (by omega) hu (by omega) u5).mp q.2).2 (Int32.not_le.mpr u7))))
          · refine sv_iconst (v := 1) hΓ dX6_isTaken_53 (by decide) rfl ?_
            exact sv_zret hΓ hQ dX6_isTaken_54 (Nat.le_of_ble_eq_true rfl) (Nat.le_of_ble_eq_true rfl) rfl ⟨by rw [mr_st (mr_s1 (by omega) (by omega) (by omega) h57 ((hRR b (by omega)).1.symm.trans u5) ((RR_tog hRR haa (by omega) hu (by omega) u5).mpr ⟨Int32.not_lt.mp u6, Int32.not_lt.mp u7⟩)) n (by omega)], rfl, rfl⟩
  exact SV_lv [0, 1, 2, 3] rfl (LP2 n 0 (by omega) rfl)
set_option maxRecDepth 100000 in
set_option maxHeartbeats 4000000 in
/-- leastFree -/
theorem ct_X6_leastFree {E : aG} (l : Launch) (c : aI) (n : Nat) (a : Nat) {ci : Nat → Nat → Int32} {cl : Nat → Nat → Int64} {cr : Nat → Nat → Option Nat} {dy : aM} {nx : Nat} (hn : ci 2 1 = nI n) (hn6 : n ≤ 16) (hRR : RR c ci n) (haa : a < n) (hu : usd c n a) (h57 : c 57 a = -2) : CT E l yX6_leastFree cX6_leastFree 3 (some .int) 2 [.ref 14, .int (nI a)] (mm ci cl cr dy) nx 0 0 (fun r M' nx' => r = some (.int (nI (rgF c n a 17 0))) ∧ M' = mm ci cl cr dy ∧ nx = nx') := by
  refine CT_intro (by decide) (Nat.le_of_ble_eq_true rfl) (fun Γ hΓ hQ => ?_)
  replace hΓ : CK E RX6 cX6_leastFree 3 (some .int) "leastFree" 2 0 0 Γ := hΓ
  show SV E Γ 3 (mm ci cl cr dy) nx 0 0 0 [(0, .ref 14), (1, .int (nI a))] []
  refine sv_iconst (v := 0) hΓ dX6_leastFree_0 (by decide) rfl ?_
  refine sv_istore_n (lv' := [(2, .int 0), (0, .ref 14), (1, .int (nI a))]) hΓ dX6_leastFree_1 rfl (by decide) rfl rfl ?_
  have LP2 : ∀ kq r : Nat, r + kq = 16 → rgF c n a (kq + 1) r = rgF c n a 17 0 → SV E Γ 3 (mm ci cl cr dy) nx 0 0 2 [(2, .int (nI r)), (0, .ref 14), (1, .int (nI a))] [] := by
    intro kq
    induction kq with
    | zero =>
      intro r ha
      have ea : r = 16 := by omega
      intro hf
      refine sv_iload_n hΓ dX6_leastFree_2 rfl 0 rfl rfl ?_
      refine sv_bipush (v := 16) hΓ dX6_leastFree_3 (by decide) rfl ?_
      refine sv_icmp_ge (tgt := 23) hΓ dX6_leastFree_5 (by decide) rfl (fun u1 => ?_) (fun u1 => absurd (nI_le (a := 16) (by omega) (by omega)) u1)
      refine sv_iload_n hΓ dX6_leastFree_23 rfl 0 rfl rfl ?_
      exact sv_iret hΓ hQ dX6_leastFree_24 (Nat.le_of_ble_eq_true rfl) (Nat.le_of_ble_eq_true rfl) ((by have z1 := rg_ge c n a (0 + 1) r; have z2 := rg_le (c := c) hn6 haa; omega))
    | succ kq ih =>
      intro r ha
      intro hf
      refine sv_iload_n hΓ dX6_leastFree_2 rfl 0 rfl rfl ?_
      refine sv_bipush (v := 16) hΓ dX6_leastFree_3 (by decide) rfl ?_
      refine sv_icmp_ge (tgt := 23) hΓ dX6_leastFree_5 (by decide) rfl (fun u2 => absurd u2 (nI_ge (b := 16) (by omega) (by omega))) (fun u2 => ?_)
      refine sv_aload_n hΓ dX6_leastFree_8 rfl 1 rfl rfl ?_
      refine sv_iload_n hΓ dX6_leastFree_9 rfl 0 rfl rfl ?_
      refine sv_iload_n hΓ dX6_leastFree_10 rfl 2 rfl rfl ?_
      refine sv_callV hΓ (fun l => ct_X6_isTaken l c n r a hn (by omega) hRR (by omega) hu h57 (by omega)) wv_X6_84 vs_X6_isTaken rfl m_14 rfl rfl (by decide) (Nat.le_of_ble_eq_true rfl) (Nat.le_of_ble_eq_true rfl) (Nat.le_of_ble_eq_true rfl) dX6_leastFree_11 rfl (fun r M' nx' p3 => ?_)
      obtain ⟨rfl, rfl, rfl⟩ := p3
      show SV E Γ 3 (mm ci cl cr dy) nx 0 0 14 [(2, .int (nI r)), (0, .ref 14), (1, .int (nI a))] [.int (mrI c n a r n)]
      refine sv_if_eq (tgt := 23) hΓ dX6_leastFree_14 (by decide) rfl (fun u4 => ?_) (fun u4 => ?_)
      · refine sv_iload_n hΓ dX6_leastFree_23 rfl 0 rfl rfl ?_
        exact sv_iret hΓ hQ dX6_leastFree_24 (Nat.le_of_ble_eq_true rfl) (Nat.le_of_ble_eq_true rfl) ⟨by rw [← hf]; exact congrArg (fun z => some (Value.int (nI z))) (if_pos (t := r) u4).symm, rfl, rfl⟩
      · refine sv_iinc (v := nI (r + 1)) (lv' := [(2, .int (nI (r + 1))), (0, .ref 14), (1, .int (nI a))]) hΓ dX6_leastFree_17 0 rfl (nx_inc rfl) (by decide) rfl rfl ?_
        refine sv_goto (pc' := 2) hΓ dX6_leastFree_20 (by decide) ?_
        exact SV_lv [0, 1, 2] rfl (ih (r + 1) (by omega) (by rw [← hf]; exact (if_neg u4).symm))
  exact SV_lv [0, 1, 2] rfl (LP2 16 0 (by omega) rfl)
set_option maxRecDepth 100000 in
set_option maxHeartbeats 4000000 in
/-- nextWithout -/
theorem ct_X6_nextWithout {E : aG} (l : Launch) (n : Nat) {ci : Nat → Nat → Int32} {cl : Nat → Nat → Int64} {cr : Nat → Nat → Option Nat} {dy : aM} {nx : Nat} (hn : ci 2 1 = nI n) (hn6 : n ≤ 16) : CT E l yX6_nextWithout cX6_nextWithout 4 (some .int) 1 [.ref 14] (mm ci cl cr dy) nx 0 0 (fun r M' nx' => r = some (.int (nxF (ci 15) (ci 17) n)) ∧ M' = mm ci cl cr dy ∧ nx = nx') := by
  refine CT_intro (by decide) (Nat.le_of_ble_eq_true rfl) (fun Γ hΓ hQ => ?_)
  replace hΓ : CK E RX6 cX6_nextWithout 4 (some .int) "nextWithout" 1 0 0 Γ := hΓ
  show SV E Γ 4 (mm ci cl cr dy) nx 0 0 0 [(0, .ref 14)] []
  refine sv_bipush (v := (-2)) hΓ dX6_nextWithout_0 (by decide) rfl ?_
  refine sv_istore_n (lv' := [(1, .int ((-2))), (0, .ref 14)]) hΓ dX6_nextWithout_2 rfl (by decide) rfl rfl ?_
  refine sv_iconst (v := 0) hΓ dX6_nextWithout_3 (by decide) rfl ?_
  refine sv_istore_n (lv' := [(2, .int 0), (1, .int ((-2))), (0, .ref 14)]) hΓ dX6_nextWithout_4 rfl (by decide) rfl rfl ?_
  have LP5 : ∀ kq a : Nat, a + kq = n → SV E Γ 4 (mm ci cl cr dy) nx 0 0 5 [(2, .int (nI a)), (1, .int (nxF (ci 15) (ci 17) a)), (0, .ref 14)] [] := by
    intro kq
    induction kq with
    | zero =>
      intro a ha
      have ea : a = n := by omega
      refine sv_iload_n hΓ dX6_nextWithout_5 rfl 0 rfl rfl ?_
      refine sv_aload_n hΓ dX6_nextWithout_6 rfl 2 rfl rfl ?_
      refine g_X6_25_14 hΓ dX6_nextWithout_7 rfl ?_
      refine sv_callV hΓ (fun l => ct_X1_sizeN l n hn) wv_X6_37 vs_X1_size rfl m_2 rfl rfl (by decide) (Nat.le_of_ble_eq_true rfl) (Nat.le_of_ble_eq_true rfl) (Nat.le_of_ble_eq_true rfl) dX6_nextWithout_10 rfl (fun r M' nx' p1 => ?_)
      obtain ⟨rfl, rfl, rfl⟩ := p1
      show SV E Γ 4 (mm ci cl cr dy) nx 0 0 13 [(2, .int (nI a)), (1, .int (nxF (ci 15) (ci 17) a)), (0, .ref 14)] [.int (nI n), .int (nI a)]
      refine sv_icmp_ge (tgt := 77) hΓ dX6_nextWithout_13 (by decide) rfl (fun u2 => ?_) (fun u2 => absurd (nI_le (by omega) (by omega)) u2)
      refine sv_iload_n hΓ dX6_nextWithout_77 rfl 1 rfl rfl ?_
      exact sv_iret hΓ hQ dX6_nextWithout_78 (Nat.le_of_ble_eq_true rfl) (Nat.le_of_ble_eq_true rfl) ⟨by rw [ea], rfl, rfl⟩
    | succ kq ih =>
      intro a ha
      refine sv_iload_n hΓ dX6_nextWithout_5 rfl 0 rfl rfl ?_
      refine sv_aload_n hΓ dX6_nextWithout_6 rfl 2 rfl rfl ?_
      refine g_X6_25_14 hΓ dX6_nextWithout_7 rfl ?_
      refine sv_callV hΓ (fun l => ct_X1_sizeN l n hn) wv_X6_37 vs_X1_size rfl m_2 rfl rfl (by decide) (Nat.le_of_ble_eq_true rfl) (Nat.le_of_ble_eq_true rfl) (Nat.le_of_ble_eq_true rfl) dX6_nextWithout_10 rfl (fun r M' nx' p3 => ?_)
      obtain ⟨rfl, rfl, rfl⟩ := p3
      show SV E Γ 4 (mm ci cl cr dy) nx 0 0 13 [(2, .int (nI a)), (1, .int (nxF (ci 15) (ci 17) a)), (0, .ref 14)] [.int (nI n), .int (nI a)]
      refine sv_icmp_ge (tgt := 77) hΓ dX6_nextWithout_13 (by decide) rfl (fun u4 => absurd u4 (nI_ge (by omega) (by omega))) (fun u4 => ?_)
      refine sv_aload_n hΓ dX6_nextWithout_16 rfl 2 rfl rfl ?_
      refine g_X6_9_14 hΓ dX6_nextWithout_17 rfl ?_
      refine sv_iload_n hΓ dX6_nextWithout_20 rfl 0 rfl rfl ?_
      refine ai_15 hΓ (a) rfl (by omega) dX6_nextWithout_21 rfl ?_
      refine sv_bipush (v := (-2)) hΓ dX6_nextWithout_22 (by decide) rfl ?_
      refine sv_icmp_eq (tgt := 42) hΓ dX6_nextWithout_24 (by decide) rfl (fun u5 => ?_) (fun u5 => ?_)
      · refine sv_iconst (v := 0) hΓ dX6_nextWithout_42 (by decide) rfl ?_
        refine sv_istore_n (lv' := [(3, .int 0), (2, .int (nI a)), (1, .int (nxF (ci 15) (ci 17) a)), (0, .ref 14)]) hΓ dX6_nextWithout_43 rfl (by decide) rfl rfl ?_
        refine sv_iload_n hΓ dX6_nextWithout_44 rfl 0 rfl rfl ?_
        refine sv_if_eq (tgt := 71) hΓ dX6_nextWithout_45 (by decide) rfl (fun u6 => ?_) (fun u6 => absurd (by decide) u6)
        refine sv_iinc (v := nI (a + 1)) (lv' := [(2, .int (nI (a + 1))), (3, .int 0), (1, .int (nxF (ci 15) (ci 17) a)), (0, .ref 14)]) hΓ dX6_nextWithout_71 1 rfl (nx_inc rfl) (by decide) rfl rfl ?_
        refine sv_goto (pc' := 5) hΓ dX6_nextWithout_74 (by decide) ?_
        have q := ih (a + 1) (by omega)
        rw [show nxF (ci 15) (ci 17) (a + 1) = nxF (ci 15) (ci 17) a from by simp only [nxF]; rw [if_neg (fun q => q.1 u5)]] at q
        exact SV_lv [0, 2, 3] rfl q
      · refine sv_aload_n hΓ dX6_nextWithout_27 rfl 2 rfl rfl ?_
        refine g_X6_18_14 hΓ dX6_nextWithout_28 rfl ?_
        refine sv_iload_n hΓ dX6_nextWithout_31 rfl 0 rfl rfl ?_
        refine ai_17 hΓ (a) rfl (by omega) dX6_nextWithout_32 rfl ?_
        refine sv_bipush (v := (-2)) hΓ dX6_nextWithout_33 (by decide) rfl ?_
        refine sv_icmp_ne (tgt := 42) hΓ dX6_nextWithout_35 (by decide) rfl (fun u7 => ?_) (fun u7 => ?_)
        · refine sv_iconst (v := 0) hΓ dX6_nextWithout_42 (by decide) rfl ?_
          refine sv_istore_n (lv' := [(3, .int 0), (2, .int (nI a)), (1, .int (nxF (ci 15) (ci 17) a)), (0, .ref 14)]) hΓ dX6_nextWithout_43 rfl (by decide) rfl rfl ?_
          refine sv_iload_n hΓ dX6_nextWithout_44 rfl 0 rfl rfl ?_
          refine sv_if_eq (tgt := 71) hΓ dX6_nextWithout_45 (by decide) rfl (fun u8 => ?_) (fun u8 => absurd (by decide) u8)
          refine sv_iinc (v := nI (a + 1)) (lv' := [(2, .int (nI (a + 1))), (3, .int 0), (1, .int (nxF (ci 15) (ci 17) a)), (0, .ref 14)]) hΓ dX6_nextWithout_71 1 rfl (nx_inc rfl) (by decide) rfl rfl ?_
          refine sv_goto (pc' := 5) hΓ dX6_nextWithout_74 (by decide) ?_
          have q := ih (a + 1) (by omega)
          rw [show nxF (ci 15) (ci 17) (a + 1) = nxF (ci 15) (ci 17) a from by simp only [nxF]; rw [if_neg (fun q => u7 q.2)]] at q
          exact SV_lv [0, 2, 3] rfl q
        · refine sv_iconst (v := 1) hΓ dX6_nextWithout_38 (by decide) rfl ?_
          refine sv_goto (pc' := 43) hΓ dX6_nextWithout_39 (by decide) ?_
          refine sv_istore_n (lv' := [(3, .int 1), (2, .int (nI a)), (1, .int (nxF (ci 15) (ci 17) a)), (0, .ref 14)]) hΓ dX6_nextWithout_43 rfl (by decide) rfl rfl ?_
          refine sv_iload_n hΓ dX6_nextWithout_44 rfl 0 rfl rfl ?_
          refine sv_if_eq (tgt := 71) hΓ dX6_nextWithout_45 (by decide) rfl (fun u9 => absurd u9 (by decide)) (fun u9 => ?_)
          refine sv_iload_n hΓ dX6_nextWithout_48 rfl 2 rfl rfl ?_
          refine sv_bipush (v := (-2)) hΓ dX6_nextWithout_49 (by decide) rfl ?_
          refine sv_icmp_eq (tgt := 69) hΓ dX6_nextWithout_51 (by decide) rfl (fun u10 => ?_) (fun u10 => ?_)
          · refine sv_iload_n hΓ dX6_nextWithout_69 rfl 1 rfl rfl ?_
            refine sv_istore_n (lv' := [(1, .int (nI a)), (3, .int 1), (2, .int (nI a)), (0, .ref 14)]) hΓ dX6_nextWithout_70 rfl (by decide) rfl rfl ?_
            refine sv_iinc (v := nI (a + 1)) (lv' := [(2, .int (nI (a + 1))), (1, .int (nI a)), (3, .int 1), (0, .ref 14)]) hΓ dX6_nextWithout_71 2 rfl (nx_inc rfl) (by decide) rfl rfl ?_
            refine sv_goto (pc' := 5) hΓ dX6_nextWithout_74 (by decide) ?_
            have q := ih (a + 1) (by omega)
            rw [show nxF (ci 15) (ci 17) (a + 1) = nI a from by simp only [nxF]; rw [if_pos ⟨u5, u7⟩, if_pos u10]] at q
            exact SV_lv [0, 1, 3] rfl q
          · obtain ⟨x, hx6, hx⟩ := nx_in (by omega) u10
            refine sv_aload_n hΓ dX6_nextWithout_54 rfl 3 rfl rfl ?_
            refine g_X6_9_14 hΓ dX6_nextWithout_55 rfl ?_
            refine sv_iload_n hΓ dX6_nextWithout_58 rfl 1 rfl rfl ?_
            refine ai_15 hΓ (a) rfl (by omega) dX6_nextWithout_59 rfl ?_
            refine sv_aload_n hΓ dX6_nextWithout_60 rfl 3 rfl rfl ?_
            refine g_X6_9_14 hΓ dX6_nextWithout_61 rfl ?_
            refine sv_iload_n hΓ dX6_nextWithout_64 rfl 2 rfl rfl ?_
            refine ai_15 hΓ (x) hx (by omega) dX6_nextWithout_65 rfl ?_
            refine sv_icmp_ge (tgt := 71) hΓ dX6_nextWithout_66 (by decide) rfl (fun u11 => ?_) (fun u11 => ?_)
            · refine sv_iinc (v := nI (a + 1)) (lv' := [(2, .int (nI (a + 1))), (3, .int 1), (1, .int (nxF (ci 15) (ci 17) a)), (0, .ref 14)]) hΓ dX6_nextWithout_71 1 rfl (nx_inc rfl) (by decide) rfl rfl ?_
              refine sv_goto (pc' := 5) hΓ dX6_nextWithout_74 (by decide) ?_
              have q := ih (a + 1) (by omega)
              rw [show nxF (ci 15) (ci 17) (a + 1) = nxF (ci 15) (ci 17) a from by simp only [nxF]; rw [if_pos ⟨u5, u7⟩, if_neg u10, if_neg (by rw [hx, nI_clamp (by omega)]; exact Int32.not_lt.mpr u11)]] at q
              exact SV_lv [0, 2, 3] rfl q
            · refine sv_iload_n hΓ dX6_nextWithout_69 rfl 1 rfl rfl ?_
              refine sv_istore_n (lv' := [(1, .int (nI a)), (3, .int 1), (2, .int (nI a)), (0, .ref 14)]) hΓ dX6_nextWithout_70 rfl (by decide) rfl rfl ?_
              refine sv_iinc (v := nI (a + 1)) (lv' := [(2, .int (nI (a + 1))), (1, .int (nI a)), (3, .int 1), (0, .ref 14)]) hΓ dX6_nextWithout_71 2 rfl (nx_inc rfl) (by decide) rfl rfl ?_
              refine sv_goto (pc' := 5) hΓ dX6_nextWithout_74 (by decide) ?_
              have q := ih (a + 1) (by omega)
              rw [show nxF (ci 15) (ci 17) (a + 1) = nI a from by simp only [nxF]; rw [if_pos ⟨u5, u7⟩, if_neg u10, if_pos (by rw [hx, nI_clamp (by omega)]; exact Int32.not_le.mp u11)]] at q
              exact SV_lv [0, 1, 3] rfl q
  exact SV_lv [0, 1, 2] rfl (LP5 n 0 (by omega))
set_option maxRecDepth 100000 in
set_option maxHeartbeats 4000000 in
/-- findLife -/
theorem ct_X6_findLife {E : aG} (l : Launch) (c : aI) (nu : Nat → Int64) (n : Nat) (a : Nat) {ci : Nat → Nat → Int32} {cl : Nat → Nat → Int64} {cr : Nat → Nat → Option Nat} {dy : aM} {nx : Nat} (hB : BK c nu ci cr dy n) (ha : a < n) (ht : ∀ b, b < n → c 55 b = ci 11 b) : CT E l yX6_findLife cX6_findLife 4 none 2 [.ref 14, .int (nI a)] (mm ci cl cr dy) nx 0 0 (fun r M' nx' => r = none ∧ ∃ ci', FE c ci ci' n a ∧ M' = mm ci' cl cr dy ∧ nx = nx') := by
  refine CT_intro (by decide) (Nat.le_of_ble_eq_true rfl) (fun Γ hΓ hQ => ?_)
  replace hΓ : CK E RX6 cX6_findLife 4 none "findLife" 2 0 0 Γ := hΓ
  have hB0 := hB
  obtain ⟨hAC, hST, hn6, hn, hwf, hwp, hln⟩ := hB
  show SV E Γ 4 (mm ci cl cr dy) nx 0 0 0 [(0, .ref 14), (1, .int (nI a))] []
  refine sv_aload_n hΓ dX6_findLife_0 rfl 0 rfl rfl ?_
  refine g_X6_9_14 hΓ dX6_findLife_1 rfl ?_
  refine sv_iload_n hΓ dX6_findLife_4 rfl 1 rfl rfl ?_
  refine sv_bipush (v := (-2)) hΓ dX6_findLife_5 (by decide) rfl ?_
  refine as_15 hΓ (a) rfl (by omega) dX6_findLife_7 rfl ?_
  refine sv_aload_n hΓ dX6_findLife_8 rfl 0 rfl rfl ?_
  refine g_X6_15_14 hΓ dX6_findLife_9 rfl ?_
  refine sv_iload_n hΓ dX6_findLife_12 rfl 1 rfl rfl ?_
  refine sv_bipush (v := (-2)) hΓ dX6_findLife_13 (by decide) rfl ?_
  refine as_16 hΓ (a) rfl (by omega) dX6_findLife_15 rfl ?_
  refine sv_aload_n hΓ dX6_findLife_16 rfl 0 rfl rfl ?_
  refine g_X6_25_14 hΓ dX6_findLife_17 rfl ?_
  refine sv_iload_n hΓ dX6_findLife_20 rfl 1 rfl rfl ?_
  obtain ⟨kg1, sg1, hrg1, hAg1⟩ := hAC a (by omega)
  refine sv_callV hΓ (fun l => ct_X1_get l a kg1 (by omega) hrg1) wv_X6_60 vs_X1_get rfl m_2 rfl rfl (by decide) (Nat.le_of_ble_eq_true rfl) (Nat.le_of_ble_eq_true rfl) (Nat.le_of_ble_eq_true rfl) dX6_findLife_21 rfl (fun r M' nx' p2 => ?_)
  obtain ⟨rfl, rfl, rfl⟩ := p2
  show SV E Γ 4 (mm (up2 (up2 ci 15 a ((-2))) 16 a ((-2))) cl cr dy) nx 0 0 24 [(0, .ref 14), (1, .int (nI a))] [.ref kg1]
  refine sv_astore_n (lv' := [(2, .ref kg1), (0, .ref 14), (1, .int (nI a))]) hΓ dX6_findLife_24 rfl (by decide) rfl rfl ?_
  refine sv_aload_n hΓ dX6_findLife_25 rfl 0 rfl rfl ?_
  refine gt_X6_64 hΓ hAg1.m rfl dX6_findLife_26 rfl ?_
  refine sv_if_ne (tgt := 33) hΓ dX6_findLife_29 (by decide) rfl (fun u3 => ?_) (fun u3 => ?_)
  · replace u3 : ¬ ((c 44 a) : Int32) = 0 := u3
    have h0 := u3
    refine sv_iload_n hΓ dX6_findLife_33 rfl 2 rfl rfl ?_
    refine sv_iconst (v := 1) hΓ dX6_findLife_34 (by decide) rfl ?_
    refine sv_iaddE (v := nI (a + 1)) hΓ dX6_findLife_35 (nx_add rfl rfl) rfl ?_
    refine sv_istore_n (lv' := [(3, .int (nI (a + 1))), (2, .ref kg1), (0, .ref 14), (1, .int (nI a))]) hΓ dX6_findLife_36 rfl (by decide) rfl rfl ?_
    have LP37 : ∀ kq j : Nat, j + kq = n - (a + 1) → ∀ ci', FL c ci ci' a j → SV E Γ 4 (mm ci' cl cr dy) nx 0 0 37 [(3, .int (nI (a + 1 + j))), (2, .ref kg1), (0, .ref 14), (1, .int (nI a))] [] := by
      intro kq
      induction kq with
      | zero =>
        intro j ha
        have ea : j = n - (a + 1) := by omega
        intro ci' hL
        have e11 : ci' 11 = ci 11 := hL.2.2.1 11 (by decide) (by decide)
        have hnb : ci' 2 1 = nI n := by rw [hL.2.2.1 2 (by decide) (by decide)]; exact hn
        refine sv_iload_n hΓ dX6_findLife_37 rfl 0 rfl rfl ?_
        refine sv_aload_n hΓ dX6_findLife_38 rfl 2 rfl rfl ?_
        refine g_X6_25_14 hΓ dX6_findLife_39 rfl ?_
        refine sv_callV hΓ (fun l => ct_X1_sizeN l n hnb) wv_X6_37 vs_X1_size rfl m_2 rfl rfl (by decide) (Nat.le_of_ble_eq_true rfl) (Nat.le_of_ble_eq_true rfl) (Nat.le_of_ble_eq_true rfl) dX6_findLife_42 rfl (fun r M' nx' p4 => ?_)
        obtain ⟨rfl, rfl, rfl⟩ := p4
        show SV E Γ 4 (mm ci' cl cr dy) nx 0 0 45 [(3, .int (nI (a + 1 + j))), (2, .ref kg1), (0, .ref 14), (1, .int (nI a))] [.int (nI n), .int (nI (a + 1 + j))]
        refine sv_icmp_ge (tgt := 117) hΓ dX6_findLife_45 (by decide) rfl (fun u5 => ?_) (fun u5 => absurd (nI_le (by omega) (by omega)) u5)
        replace u5 : (nI n) ≤ ((nI (a + 1 + j)) : Int32) := u5
        exact sv_vret hΓ hQ dX6_findLife_117 (Nat.le_of_ble_eq_true rfl) (Nat.le_of_ble_eq_true rfl) ⟨rfl, _, FE_l h0 (ea ▸ hL), rfl, rfl⟩
      | succ kq ih =>
        intro j ha
        intro ci' hL
        have e11 : ci' 11 = ci 11 := hL.2.2.1 11 (by decide) (by decide)
        have hnb : ci' 2 1 = nI n := by rw [hL.2.2.1 2 (by decide) (by decide)]; exact hn
        have hSTb : ST c ci' := by intro q hq; rw [hL.2.2.1 5 (by decide) (by decide), hL.2.2.1 6 (by decide) (by decide), hL.2.2.1 7 (by decide) (by decide)]; exact hST q hq
        refine sv_iload_n hΓ dX6_findLife_37 rfl 0 rfl rfl ?_
        refine sv_aload_n hΓ dX6_findLife_38 rfl 2 rfl rfl ?_
        refine g_X6_25_14 hΓ dX6_findLife_39 rfl ?_
        refine sv_callV hΓ (fun l => ct_X1_sizeN l n hnb) wv_X6_37 vs_X1_size rfl m_2 rfl rfl (by decide) (Nat.le_of_ble_eq_true rfl) (Nat.le_of_ble_eq_true rfl) (Nat.le_of_ble_eq_true rfl) dX6_findLife_42 rfl (fun r M' nx' p6 => ?_)
        obtain ⟨rfl, rfl, rfl⟩ := p6
        show SV E Γ 4 (mm ci' cl cr dy) nx 0 0 45 [(3, .int (nI (a + 1 + j))), (2, .ref kg1), (0, .ref 14), (1, .int (nI a))] [.int (nI n), .int (nI (a + 1 + j))]
        refine sv_icmp_ge (tgt := 117) hΓ dX6_findLife_45 (by decide) rfl (fun u7 => absurd u7 (nI_ge (by omega) (by omega))) (fun u7 => ?_)
        replace u7 : ¬ ((nI n) ≤ ((nI (a + 1 + j)) : Int32)) := u7
        refine sv_aload_n hΓ dX6_findLife_48 rfl 2 rfl rfl ?_
        refine g_X6_25_14 hΓ dX6_findLife_49 rfl ?_
        refine sv_iload_n hΓ dX6_findLife_52 rfl 0 rfl rfl ?_
        obtain ⟨kg8, sg8, hrg8, hAg8⟩ := hAC (a + 1 + j) (by omega)
        refine sv_callV hΓ (fun l => ct_X1_get l (a + 1 + j) kg8 (by omega) hrg8) wv_X6_60 vs_X1_get rfl m_2 rfl rfl (by decide) (Nat.le_of_ble_eq_true rfl) (Nat.le_of_ble_eq_true rfl) (Nat.le_of_ble_eq_true rfl) dX6_findLife_53 rfl (fun r M' nx' p9 => ?_)
        obtain ⟨rfl, rfl, rfl⟩ := p9
        show SV E Γ 4 (mm ci' cl cr dy) nx 0 0 56 [(3, .int (nI (a + 1 + j))), (2, .ref kg1), (0, .ref 14), (1, .int (nI a))] [.ref kg8]
        refine sv_iload_n hΓ dX6_findLife_56 rfl 3 rfl rfl ?_
        refine sv_callV hΓ (fun l => ct_X0_takes l c nu (a + 1 + j) kg8 sg8 a hAg8 (by omega)) wv_X6_69 vs_X0_takes rfl hAg8.m rfl rfl (by decide) (Nat.le_of_ble_eq_true rfl) (Nat.le_of_ble_eq_true rfl) (Nat.le_of_ble_eq_true rfl) dX6_findLife_57 rfl (fun r M' nx' p10 => ?_)
        obtain ⟨rfl, rfl, rfl⟩ := p10
        show SV E Γ 4 (mm ci' cl cr dy) nx 0 0 60 [(3, .int (nI (a + 1 + j))), (2, .ref kg1), (0, .ref 14), (1, .int (nI a))] [.int (bI (isO c (nI a) (a + 1 + j)))]
        refine sv_if_eq (tgt := 111) hΓ dX6_findLife_60 (by decide) rfl (fun u11 => ?_) (fun u11 => ?_)
        · replace u11 := bI_0.mp u11
          refine sv_iinc (v := nI (a + 1 + j + 1)) (lv' := [(3, .int (nI (a + 1 + j + 1))), (2, .ref kg1), (0, .ref 14), (1, .int (nI a))]) hΓ dX6_findLife_111 0 rfl (nx_inc rfl) (by decide) rfl rfl ?_
          refine sv_goto (pc' := 37) hΓ dX6_findLife_114 (by decide) ?_
          exact SV_lv [0, 1, 2, 3] rfl (ih (j + 1) (by omega) _ (FL_n hL u11))
        · replace u11 := bI_ne.mp u11
          refine sv_aload_n hΓ dX6_findLife_63 rfl 2 rfl rfl ?_
          refine g_X6_9_14 hΓ dX6_findLife_64 rfl ?_
          refine sv_iload_n hΓ dX6_findLife_67 rfl 3 rfl rfl ?_
          refine sv_aload_n hΓ dX6_findLife_68 rfl 2 rfl rfl ?_
          refine g_X6_33_14 hΓ dX6_findLife_69 rfl ?_
          refine g_X6_73_10 hΓ dX6_findLife_72 rfl ?_
          refine sv_iload_n hΓ dX6_findLife_75 rfl 3 rfl rfl ?_
          refine ai_11 hΓ (a) rfl (by omega) dX6_findLife_76 rfl ?_
          refine sv_aload_n hΓ dX6_findLife_77 rfl 2 rfl rfl ?_
          refine g_X6_29_14 hΓ dX6_findLife_78 rfl ?_
          refine sv_aload_n hΓ dX6_findLife_81 rfl 1 rfl rfl ?_
          refine sv_callV hΓ (fun l => ct_X9_lengthOf l c nu a kg1 sg1 hAg1 hSTb) wv_X6_78 vs_X9_lengthOf rfl m_4 rfl rfl (by decide) (Nat.le_of_ble_eq_true rfl) (Nat.le_of_ble_eq_true rfl) (Nat.le_of_ble_eq_true rfl) dX6_findLife_82 rfl (fun r M' nx' p12 => ?_)
          obtain ⟨rfl, rfl, rfl⟩ := p12
          show SV E Γ 4 (mm ci' cl cr dy) nx 0 0 85 [(3, .int (nI (a + 1 + j))), (2, .ref kg1), (0, .ref 14), (1, .int (nI a))] [.int (ln c a), .int (ci' 11 a), .int (nI a), .ref 15]
          refine sv_iadd hΓ dX6_findLife_85 rfl ?_
          refine as_15 hΓ (a) rfl (by omega) dX6_findLife_86 rfl ?_
          refine sv_aload_n hΓ dX6_findLife_87 rfl 2 rfl rfl ?_
          refine g_X6_15_14 hΓ dX6_findLife_88 rfl ?_
          refine sv_iload_n hΓ dX6_findLife_91 rfl 3 rfl rfl ?_
          refine sv_aload_n hΓ dX6_findLife_92 rfl 2 rfl rfl ?_
          refine g_X6_15_14 hΓ dX6_findLife_93 rfl ?_
          refine sv_iload_n hΓ dX6_findLife_96 rfl 3 rfl rfl ?_
          refine ai_16 hΓ (a) rfl (by omega) dX6_findLife_97 rfl ?_
          refine sv_aload_n hΓ dX6_findLife_98 rfl 2 rfl rfl ?_
          refine g_X6_33_14 hΓ dX6_findLife_99 rfl ?_
          refine g_X6_73_10 hΓ dX6_findLife_102 rfl ?_
          refine sv_iload_n hΓ dX6_findLife_105 rfl 0 rfl rfl ?_
          refine ai_11 hΓ (a + 1 + j) rfl (by omega) dX6_findLife_106 rfl ?_
          refine sv_mmax hΓ ⟨tb_571, tb_519, tb_13, tb_520⟩ (by decide) (Nat.le_of_ble_eq_true rfl) (Nat.le_of_ble_eq_true rfl) (Nat.le_of_ble_eq_true rfl) dX6_findLife_107 rfl ?_
          refine as_16 hΓ (a) rfl (by omega) dX6_findLife_110 rfl ?_
          refine sv_iinc (v := nI (a + 1 + j + 1)) (lv' := [(3, .int (nI (a + 1 + j + 1))), (2, .ref kg1), (0, .ref 14), (1, .int (nI a))]) hΓ dX6_findLife_111 0 rfl (nx_inc rfl) (by decide) rfl rfl ?_
          refine sv_goto (pc' := 37) hΓ dX6_findLife_114 (by decide) ?_
          exact SV_lv [0, 1, 2, 3] rfl (ih (j + 1) (by omega) _ (FL_y hL u11 (by rw [e11, ← ht a (by omega)]) (by rw [up2_k _ _ _ (by decide : (16 : Nat) ≠ 15), up2_k _ _ _ (by decide : (11 : Nat) ≠ 15), hL.2.1, e11, ← ht (a + 1 + j) (by omega)])))
    exact SV_lv [0, 1, 2, 3] rfl (LP37 (n - (a + 1)) 0 (by omega) _ FL_0)
  · replace u3 : ((c 44 a) : Int32) = 0 := u3
    exact sv_vret hΓ hQ dX6_findLife_32 (Nat.le_of_ble_eq_true rfl) (Nat.le_of_ble_eq_true rfl) ⟨rfl, _, FE_c u3, rfl, rfl⟩
set_option maxRecDepth 100000 in
set_option maxHeartbeats 4000000 in
/-- assign -/
theorem ct_X6_assign {E : aG} (l : Launch) (c : aI) (nu : Nat → Int64) (n : Nat) (T : Nat) {ci : Nat → Nat → Int32} {cl : Nat → Nat → Int64} {cr : Nat → Nat → Option Nat} {dy : aM} {nx : Nat} (hB : BK c nu ci cr dy n) (ht : ∀ b, b < n → c 55 b = ci 11 b) (hT2 : T ≤ 2000) (hLT : LT c n T) : CT E l yX6_assign cX6_assign 3 none 3 [.ref 14] (mm ci cl cr dy) nx 0 0 (fun r M' nx' => r = none ∧ ∃ ci', RR (rou (clrC (up2 c 43 18 0) n) n T) ci' n ∧ ci' 14 6 = rou (clrC (up2 c 43 18 0) n) n T 43 18 ∧ (∀ q, ¬ q = 14 → ¬ q = 15 → ¬ q = 16 → ¬ q = 17 → ci' q = ci q) ∧ M' = mm ci' cl cr dy ∧ nx = nx') := by
  refine CT_intro (by decide) (Nat.le_of_ble_eq_true rfl) (fun Γ hΓ hQ => ?_)
  replace hΓ : CK E RX6 cX6_assign 3 none "assign" 3 0 0 Γ := hΓ
  have hB0 := hB
  obtain ⟨hAC, hST, hn6, hn, hwf, hwp, hln⟩ := hB
  have hs0 : smR c (clrC (up2 c 43 18 0) n) := smR.v.tr (clr_sm _ n)
  have hL0 : LT (clrC (up2 c 43 18 0) n) n T := fun a ha hu => by rw [hs0.lb]; exact hLT a ha ((hs0.usd n a).mp hu)
  show SV E Γ 3 (mm ci cl cr dy) nx 0 0 0 [(0, .ref 14)] []
  refine sv_aload_n hΓ dX6_assign_0 rfl 0 rfl rfl ?_
  refine sv_iconst (v := 0) hΓ dX6_assign_1 (by decide) rfl ?_
  refine p_X6_21_14 hΓ dX6_assign_2 rfl ?_
  refine sv_iconst (v := 0) hΓ dX6_assign_5 (by decide) rfl ?_
  refine sv_istore_n (lv' := [(1, .int 0), (0, .ref 14)]) hΓ dX6_assign_6 rfl (by decide) rfl rfl ?_
  have LP7 : ∀ kq a : Nat, a + kq = n → ∀ ci', LV c (up2 ci 14 6 0) ci' n a → SV E Γ 3 (mm ci' cl cr dy) nx 0 0 7 [(1, .int (nI a)), (0, .ref 14)] [] := by
    intro kq
    induction kq with
    | zero =>
      intro a ha
      have ea : a = n := by omega
      intro ci' hL
      have hnb : ci' 2 1 = nI n := by rw [hL.2 2 (by decide) (by decide) (by decide), up2_k _ _ _ (by decide)]; exact hn
      refine sv_iload_n hΓ dX6_assign_7 rfl 0 rfl rfl ?_
      refine sv_aload_n hΓ dX6_assign_8 rfl 1 rfl rfl ?_
      refine g_X6_25_14 hΓ dX6_assign_9 rfl ?_
      refine sv_callV hΓ (fun l => ct_X1_sizeN l n hnb) wv_X6_37 vs_X1_size rfl m_2 rfl rfl (by decide) (Nat.le_of_ble_eq_true rfl) (Nat.le_of_ble_eq_true rfl) (Nat.le_of_ble_eq_true rfl) dX6_assign_12 rfl (fun r M' nx' p1 => ?_)
      obtain ⟨rfl, rfl, rfl⟩ := p1
      show SV E Γ 3 (mm ci' cl cr dy) nx 0 0 15 [(1, .int (nI a)), (0, .ref 14)] [.int (nI n), .int (nI a)]
      refine sv_icmp_ge (tgt := 37) hΓ dX6_assign_15 (by decide) rfl (fun u2 => ?_) (fun u2 => absurd (nI_le (by omega) (by omega)) u2)
      replace u2 : (nI n) ≤ ((nI a) : Int32) := u2
      have hR0 : RT (clrC (up2 c 43 18 0) n) ci ci' n T 0 := RT_0 (ea ▸ hL) hs0 (fun b hb => clr_at _ b n hb) (clr_18 n)
      refine sv_iconst (v := 0) hΓ dX6_assign_37 (by decide) rfl ?_
      refine sv_istore_n (lv' := [(1, .int 0), (0, .ref 14)]) hΓ dX6_assign_38 rfl (by decide) rfl rfl ?_
      have LP39 : ∀ kq k : Nat, k + kq = n → ∀ cj, RT (clrC (up2 c 43 18 0) n) ci cj n T k → SV E Γ 3 (mm cj cl cr dy) nx 0 0 39 [(1, .int (nI k)), (0, .ref 14)] [] := by
        intro kq
        induction kq with
        | zero =>
          intro k ha
          have ea : k = n := by omega
          intro cj hR
          have hnc : cj 2 1 = nI n := by rw [hR.2.2.2.2 2 (by decide) (by decide) (by decide) (by decide)]; exact hn
          refine sv_iload_n hΓ dX6_assign_39 rfl 0 rfl rfl ?_
          refine sv_aload_n hΓ dX6_assign_40 rfl 1 rfl rfl ?_
          refine g_X6_25_14 hΓ dX6_assign_41 rfl ?_
          refine sv_callV hΓ (fun l => ct_X1_sizeN l n hnc) wv_X6_37 vs_X1_size rfl m_2 rfl rfl (by decide) (Nat.le_of_ble_eq_true rfl) (Nat.le_of_ble_eq_true rfl) (Nat.le_of_ble_eq_true rfl) dX6_assign_44 rfl (fun r M' nx' p3 => ?_)
          obtain ⟨rfl, rfl, rfl⟩ := p3
          show SV E Γ 3 (mm cj cl cr dy) nx 0 0 47 [(1, .int (nI k)), (0, .ref 14)] [.int (nI n), .int (nI k)]
          refine sv_icmp_ge (tgt := 97) hΓ dX6_assign_47 (by decide) rfl (fun u4 => ?_) (fun u4 => absurd (nI_le (by omega) (by omega)) u4)
          replace u4 : (nI n) ≤ ((nI k) : Int32) := u4
          exact sv_vret hΓ hQ dX6_assign_97 (Nat.le_of_ble_eq_true rfl) (Nat.le_of_ble_eq_true rfl) ⟨rfl, cj, (RT_e hT2 (ea ▸ hR)).1, (RT_e hT2 (ea ▸ hR)).2, hR.2.2.2.2, rfl, rfl⟩
        | succ kq ih =>
          intro k ha
          intro cj hR
          have hnc : cj 2 1 = nI n := by rw [hR.2.2.2.2 2 (by decide) (by decide) (by decide) (by decide)]; exact hn
          refine sv_iload_n hΓ dX6_assign_39 rfl 0 rfl rfl ?_
          refine sv_aload_n hΓ dX6_assign_40 rfl 1 rfl rfl ?_
          refine g_X6_25_14 hΓ dX6_assign_41 rfl ?_
          refine sv_callV hΓ (fun l => ct_X1_sizeN l n hnc) wv_X6_37 vs_X1_size rfl m_2 rfl rfl (by decide) (Nat.le_of_ble_eq_true rfl) (Nat.le_of_ble_eq_true rfl) (Nat.le_of_ble_eq_true rfl) dX6_assign_44 rfl (fun r M' nx' p5 => ?_)
          obtain ⟨rfl, rfl, rfl⟩ := p5
          show SV E Γ 3 (mm cj cl cr dy) nx 0 0 47 [(1, .int (nI k)), (0, .ref 14)] [.int (nI n), .int (nI k)]
          refine sv_icmp_ge (tgt := 97) hΓ dX6_assign_47 (by decide) rfl (fun u6 => absurd u6 (nI_ge (by omega) (by omega))) (fun u6 => ?_)
          replace u6 : ¬ ((nI n) ≤ ((nI k) : Int32)) := u6
          refine sv_aload_n hΓ dX6_assign_50 rfl 1 rfl rfl ?_
          refine sv_callV hΓ (fun l => ct_X6_nextWithout l n hnc (by omega)) wv_X6_47 vs_X6_nextWithout rfl m_14 rfl rfl (by decide) (Nat.le_of_ble_eq_true rfl) (Nat.le_of_ble_eq_true rfl) (Nat.le_of_ble_eq_true rfl) dX6_assign_51 rfl (fun r M' nx' p7 => ?_)
          obtain ⟨rfl, rfl, rfl⟩ := p7
          show SV E Γ 3 (mm cj cl cr dy) nx 0 0 54 [(1, .int (nI k)), (0, .ref 14)] [.int (nxF (cj 15) (cj 17) n)]
          rcases nxt hn6 hT2 hL0 hR with ⟨e, hk⟩ | ⟨x, hx, e, hu, h57, hk⟩
          · rw [e]
            refine sv_istore_n (lv' := [(2, .int ((-2))), (1, .int (nI k)), (0, .ref 14)]) hΓ dX6_assign_54 rfl (by decide) rfl rfl ?_
            refine sv_iload_n hΓ dX6_assign_55 rfl 0 rfl rfl ?_
            refine sv_bipush (v := (-2)) hΓ dX6_assign_56 (by decide) rfl ?_
            refine sv_icmp_eq (tgt := 91) hΓ dX6_assign_58 (by decide) rfl (fun u8 => ?_) (fun u8 => absurd (by decide) u8)
            replace u8 : (((-2)) : Int32) = ((-2)) := u8
            refine sv_iinc (v := nI (k + 1)) (lv' := [(1, .int (nI (k + 1))), (2, .int ((-2))), (0, .ref 14)]) hΓ dX6_assign_91 1 rfl (nx_inc rfl) (by decide) rfl rfl ?_
            refine sv_goto (pc' := 39) hΓ dX6_assign_94 (by decide) ?_
            exact SV_lv [0, 2] rfl (ih (k + 1) (by omega) _ (RT_n hR hk))
          · rw [e]
            refine sv_istore_n (lv' := [(2, .int (nI x)), (1, .int (nI k)), (0, .ref 14)]) hΓ dX6_assign_54 rfl (by decide) rfl rfl ?_
            refine sv_iload_n hΓ dX6_assign_55 rfl 0 rfl rfl ?_
            refine sv_bipush (v := (-2)) hΓ dX6_assign_56 (by decide) rfl ?_
            refine sv_icmp_eq (tgt := 91) hΓ dX6_assign_58 (by decide) rfl (fun u9 => absurd u9 (nn_2 (nI_nn (by omega)))) (fun u9 => ?_)
            replace u9 : ¬ (((nI x) : Int32) = ((-2))) := u9
            refine sv_aload_n hΓ dX6_assign_61 rfl 2 rfl rfl ?_
            refine g_X6_18_14 hΓ dX6_assign_62 rfl ?_
            refine sv_iload_n hΓ dX6_assign_65 rfl 0 rfl rfl ?_
            refine sv_aload_n hΓ dX6_assign_66 rfl 2 rfl rfl ?_
            refine sv_iload_n hΓ dX6_assign_67 rfl 0 rfl rfl ?_
            refine sv_callV hΓ (fun l => ct_X6_leastFree l ((rgK (clrC (up2 c 43 18 0) n) n T k)) n x hnc (by omega) hR.1 (by omega) hu h57) wv_X6_50 vs_X6_leastFree rfl m_14 rfl rfl (by decide) (Nat.le_of_ble_eq_true rfl) (Nat.le_of_ble_eq_true rfl) (Nat.le_of_ble_eq_true rfl) dX6_assign_68 rfl (fun r M' nx' p10 => ?_)
            obtain ⟨rfl, rfl, rfl⟩ := p10
            show SV E Γ 3 (mm cj cl cr dy) nx 0 0 71 [(2, .int (nI x)), (1, .int (nI k)), (0, .ref 14)] [.int (nI (rgF ((rgK (clrC (up2 c 43 18 0) n) n T k)) n x 17 0)), .int (nI x), .ref 17]
            refine as_17 hΓ (x) rfl (by omega) dX6_assign_71 rfl ?_
            refine sv_aload_n hΓ dX6_assign_72 rfl 2 rfl rfl ?_
            refine sv_aload_n hΓ dX6_assign_73 rfl 2 rfl rfl ?_
            refine g_X6_21_14 hΓ dX6_assign_74 rfl ?_
            refine sv_aload_n hΓ dX6_assign_77 rfl 2 rfl rfl ?_
            refine g_X6_18_14 hΓ dX6_assign_78 rfl ?_
            refine sv_iload_n hΓ dX6_assign_81 rfl 0 rfl rfl ?_
            refine ai_17 hΓ (x) rfl (by omega) dX6_assign_82 rfl ?_
            show SV E Γ 3 (mm (up2 cj 17 x (nI (rgF ((rgK (clrC (up2 c 43 18 0) n) n T k)) n x 17 0))) cl cr dy) nx 0 0 83 [(2, .int (nI x)), (1, .int (nI k)), (0, .ref 14)] [.int ((up2 cj 17 x (nI (rgF ((rgK (clrC (up2 c 43 18 0) n) n T k)) n x 17 0))) 17 x), .int (cj 14 6), .ref 14]
            rw [up2_s]
            refine sv_iconst (v := 1) hΓ dX6_assign_83 (by decide) rfl ?_
            refine sv_iaddE (v := nI ((rgF ((rgK (clrC (up2 c 43 18 0) n) n T k)) n x 17 0) + 1)) hΓ dX6_assign_84 (nx_add rfl rfl) rfl ?_
            refine sv_mmax hΓ ⟨tb_571, tb_519, tb_13, tb_520⟩ (by decide) (Nat.le_of_ble_eq_true rfl) (Nat.le_of_ble_eq_true rfl) (Nat.le_of_ble_eq_true rfl) dX6_assign_85 rfl ?_
            refine p_X6_21_14 hΓ dX6_assign_88 rfl ?_
            refine sv_iinc (v := nI (k + 1)) (lv' := [(1, .int (nI (k + 1))), (2, .int (nI x)), (0, .ref 14)]) hΓ dX6_assign_91 1 rfl (nx_inc rfl) (by decide) rfl rfl ?_
            refine sv_goto (pc' := 39) hΓ dX6_assign_94 (by decide) ?_
            exact SV_lv [0, 2] rfl (ih (k + 1) (by omega) _ (RT_s hn6 hx hR hu hk rfl (by rfl)))
      exact SV_lv [0, 1] rfl (LP39 n 0 (by omega) _ hR0)
    | succ kq ih =>
      intro a ha
      intro ci' hL
      have hnb : ci' 2 1 = nI n := by rw [hL.2 2 (by decide) (by decide) (by decide), up2_k _ _ _ (by decide)]; exact hn
      refine sv_iload_n hΓ dX6_assign_7 rfl 0 rfl rfl ?_
      refine sv_aload_n hΓ dX6_assign_8 rfl 1 rfl rfl ?_
      refine g_X6_25_14 hΓ dX6_assign_9 rfl ?_
      refine sv_callV hΓ (fun l => ct_X1_sizeN l n hnb) wv_X6_37 vs_X1_size rfl m_2 rfl rfl (by decide) (Nat.le_of_ble_eq_true rfl) (Nat.le_of_ble_eq_true rfl) (Nat.le_of_ble_eq_true rfl) dX6_assign_12 rfl (fun r M' nx' p11 => ?_)
      obtain ⟨rfl, rfl, rfl⟩ := p11
      show SV E Γ 3 (mm ci' cl cr dy) nx 0 0 15 [(1, .int (nI a)), (0, .ref 14)] [.int (nI n), .int (nI a)]
      refine sv_icmp_ge (tgt := 37) hΓ dX6_assign_15 (by decide) rfl (fun u12 => absurd u12 (nI_ge (by omega) (by omega))) (fun u12 => ?_)
      replace u12 : ¬ ((nI n) ≤ ((nI a) : Int32)) := u12
      refine sv_aload_n hΓ dX6_assign_18 rfl 1 rfl rfl ?_
      refine sv_iload_n hΓ dX6_assign_19 rfl 0 rfl rfl ?_
      refine sv_callV hΓ (fun l => ct_X6_findLife l c nu n a (sm.rf.BK hB0 ((hL.2 2 (by decide) (by decide) (by decide)).trans (up2_k _ _ _ (by decide))) ((hL.2 5 (by decide) (by decide) (by decide)).trans (up2_k _ _ _ (by decide))) ((hL.2 6 (by decide) (by decide) (by decide)).trans (up2_k _ _ _ (by decide))) ((hL.2 7 (by decide) (by decide) (by decide)).trans (up2_k _ _ _ (by decide)))) (by omega) (fun b hb => (ht b hb).trans (by rw [hL.2 11 (by decide) (by decide) (by decide), up2_k _ _ _ (by decide)]))) wv_X6_43 vs_X6_findLife rfl m_14 rfl rfl (by decide) (Nat.le_of_ble_eq_true rfl) (Nat.le_of_ble_eq_true rfl) (Nat.le_of_ble_eq_true rfl) dX6_assign_20 rfl (fun r M' nx' p13 => ?_)
      obtain ⟨rfl, c1, hFE, rfl, rfl⟩ := p13
      show SV E Γ 3 (mm c1 cl cr dy) nx 0 0 23 [(1, .int (nI a)), (0, .ref 14)] []
      refine sv_aload_n hΓ dX6_assign_23 rfl 1 rfl rfl ?_
      refine g_X6_18_14 hΓ dX6_assign_24 rfl ?_
      refine sv_iload_n hΓ dX6_assign_27 rfl 0 rfl rfl ?_
      refine sv_bipush (v := (-2)) hΓ dX6_assign_28 (by decide) rfl ?_
      refine as_17 hΓ (a) rfl (by omega) dX6_assign_30 rfl ?_
      refine sv_iinc (v := nI (a + 1)) (lv' := [(1, .int (nI (a + 1))), (0, .ref 14)]) hΓ dX6_assign_31 0 rfl (nx_inc rfl) (by decide) rfl rfl ?_
      refine sv_goto (pc' := 7) hΓ dX6_assign_34 (by decide) ?_
      exact SV_lv [0, 1] rfl (ih (a + 1) (by omega) _ (LV_s hL hFE))
  exact SV_lv [0, 1] rfl (LP7 n 0 (by omega) _ ⟨fun b hb => by omega, fun _ _ _ _ => rfl⟩)
