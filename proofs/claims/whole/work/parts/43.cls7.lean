theorem nx_dec {k : Nat} (h : 0 < k) : nI k + Int32.ofInt (-1) = nI (k - 1) := by
  obtain ⟨j, rfl⟩ : ∃ j, k = j + 1 := ⟨k - 1, by omega⟩
  rw [← nI_1, Int32.add_assoc, show (1 : Int32) + Int32.ofInt (-1) = 0 from rfl, Int32.add_zero]; rfl
theorem OM_s2 {ci ci' : aI} {g : Nat → Nat} {i i' b : Nat} {v : Int32} (hi : i' = i + 1) (h : OM ci ci' g i' b) (hv : v = nI (g i)) (h2 : ci 11 b < ci 11 (g i)) : OM ci (up2 ci' 13 i' v) g i b := by subst hi; exact OM_s h hv h2
set_option maxRecDepth 100000 in
set_option maxHeartbeats 4000000 in
/-- putInOrder -/
theorem ct_X5_putInOrder {E : aG} (l : Launch) (b : Nat) (g : Nat → Nat) {ci : Nat → Nat → Int32} {cl : Nat → Nat → Int64} {cr : Nat → Nat → Option Nat} {dy : aM} {nx : Nat} (hb : b < 16) (hO : OA ci g b) : CT E l yX5_putInOrder cX5_putInOrder 3 none 0 [.ref 10, .int (nI b)] (mm ci cl cr dy) nx 0 0 (fun r M' nx' => r = none ∧ ∃ ci' g', OA ci' g' (b + 1) ∧ (∀ k, ¬ k = 13 → ci' k = ci k) ∧ M' = mm ci' cl cr dy ∧ nx = nx') := by
  refine CT_intro (by decide) (Nat.le_of_ble_eq_true rfl) (fun Γ hΓ hQ => ?_)
  replace hΓ : CK E RX5 cX5_putInOrder 3 none "putInOrder" 0 0 0 Γ := hΓ
  show SV E Γ 3 (mm ci cl cr dy) nx 0 0 0 [(0, .ref 10), (1, .int (nI b))] []
  refine sv_iload_n hΓ dX5_putInOrder_0 rfl 1 rfl rfl ?_
  refine sv_istore_n (lv' := [(2, .int (nI b)), (0, .ref 10), (1, .int (nI b))]) hΓ dX5_putInOrder_1 rfl (by decide) rfl rfl ?_
  have LP2 : ∀ kq m : Nat, m + kq = b → ∀ ci', OM ci ci' g (b - m) b → SV E Γ 3 (mm ci' cl cr dy) nx 0 0 2 [(2, .int (nI (b - m))), (0, .ref 10), (1, .int (nI b))] [] := by
    intro kq
    induction kq with
    | zero =>
      intro m ha
      have ea : m = b := by omega
      intro ci' hOM
      refine sv_iload_n hΓ dX5_putInOrder_2 rfl 0 rfl rfl ?_
      refine sv_if_le (tgt := 48) hΓ dX5_putInOrder_3 (by decide) rfl (fun u1 => ?_) (fun u1 => absurd (by rw [show b - m = 0 by omega]; decide) u1)
      replace u1 : ((nI (b - m)) : Int32) ≤ 0 := u1
      refine sv_aload_n hΓ dX5_putInOrder_48 rfl 1 rfl rfl ?_
      refine g_X5_18_10 hΓ dX5_putInOrder_49 rfl ?_
      refine sv_iload_n hΓ dX5_putInOrder_52 rfl 0 rfl rfl ?_
      refine sv_iload_n hΓ dX5_putInOrder_53 rfl 2 rfl rfl ?_
      refine as_13 hΓ (b - m) rfl (by omega) dX5_putInOrder_54 rfl ?_
      exact sv_vret hΓ hQ dX5_putInOrder_55 (Nat.le_of_ble_eq_true rfl) (Nat.le_of_ble_eq_true rfl) ⟨rfl, _, _, OM_e hO (by omega) hOM (Or.inl (by omega)), fun k hk => (up2_k _ _ _ hk).trans (hOM.1 k hk), rfl, rfl⟩
    | succ kq ih =>
      intro m ha
      intro ci' hOM
      refine sv_iload_n hΓ dX5_putInOrder_2 rfl 0 rfl rfl ?_
      refine sv_if_le (tgt := 48) hΓ dX5_putInOrder_3 (by decide) rfl (fun u2 => absurd u2 (nI_npos (by omega) (by omega))) (fun u2 => ?_)
      replace u2 : ¬ (((nI (b - m)) : Int32) ≤ 0) := u2
      refine sv_aload_n hΓ dX5_putInOrder_6 rfl 1 rfl rfl ?_
      refine g_X5_9_10 hΓ dX5_putInOrder_7 rfl ?_
      refine sv_aload_n hΓ dX5_putInOrder_10 rfl 1 rfl rfl ?_
      refine g_X5_18_10 hΓ dX5_putInOrder_11 rfl ?_
      refine sv_iload_n hΓ dX5_putInOrder_14 rfl 0 rfl rfl ?_
      refine sv_iconst (v := 1) hΓ dX5_putInOrder_15 (by decide) rfl ?_
      refine sv_isubE (v := nI ((b - m) - 1)) hΓ dX5_putInOrder_16 (nx_subE rfl rfl (by omega)) rfl ?_
      refine ai_13 hΓ ((b - m) - 1) rfl (by omega) dX5_putInOrder_17 rfl ?_
      refine ai_11 hΓ (g (b - m - 1)) ((hOM.2.1 _ (by omega))) (Nat.lt_of_lt_of_le (hO.1.1 _ (by omega)) (by omega)) dX5_putInOrder_18 rfl ?_
      refine sv_aload_n hΓ dX5_putInOrder_19 rfl 1 rfl rfl ?_
      refine g_X5_9_10 hΓ dX5_putInOrder_20 rfl ?_
      refine sv_iload_n hΓ dX5_putInOrder_23 rfl 2 rfl rfl ?_
      refine ai_11 hΓ (b) rfl (by omega) dX5_putInOrder_24 rfl ?_
      refine sv_icmp_le (tgt := 48) hΓ dX5_putInOrder_25 (by decide) rfl (fun u3 => ?_) (fun u3 => ?_)
      · replace u3 : ((ci' 11 (g (b - m - 1))) : Int32) ≤ (ci' 11 b) := u3
        refine sv_aload_n hΓ dX5_putInOrder_48 rfl 1 rfl rfl ?_
        refine g_X5_18_10 hΓ dX5_putInOrder_49 rfl ?_
        refine sv_iload_n hΓ dX5_putInOrder_52 rfl 0 rfl rfl ?_
        refine sv_iload_n hΓ dX5_putInOrder_53 rfl 2 rfl rfl ?_
        refine as_13 hΓ (b - m) rfl (by omega) dX5_putInOrder_54 rfl ?_
        exact sv_vret hΓ hQ dX5_putInOrder_55 (Nat.le_of_ble_eq_true rfl) (Nat.le_of_ble_eq_true rfl) ⟨rfl, _, _, OM_e hO (by omega) hOM (Or.inr (by rw [← hOM.1 11 (by decide)]; exact Int32.not_lt.mpr u3)), fun k hk => (up2_k _ _ _ hk).trans (hOM.1 k hk), rfl, rfl⟩
      · replace u3 : ¬ (((ci' 11 (g (b - m - 1))) : Int32) ≤ (ci' 11 b)) := u3
        refine sv_aload_n hΓ dX5_putInOrder_28 rfl 1 rfl rfl ?_
        refine g_X5_18_10 hΓ dX5_putInOrder_29 rfl ?_
        refine sv_iload_n hΓ dX5_putInOrder_32 rfl 0 rfl rfl ?_
        refine sv_aload_n hΓ dX5_putInOrder_33 rfl 1 rfl rfl ?_
        refine g_X5_18_10 hΓ dX5_putInOrder_34 rfl ?_
        refine sv_iload_n hΓ dX5_putInOrder_37 rfl 0 rfl rfl ?_
        refine sv_iconst (v := 1) hΓ dX5_putInOrder_38 (by decide) rfl ?_
        refine sv_isubE (v := nI ((b - m) - 1)) hΓ dX5_putInOrder_39 (nx_subE rfl rfl (by omega)) rfl ?_
        refine ai_13 hΓ ((b - m) - 1) rfl (by omega) dX5_putInOrder_40 rfl ?_
        refine as_13 hΓ (b - m) rfl (by omega) dX5_putInOrder_41 rfl ?_
        refine sv_iinc (v := nI (b - (m + 1))) (lv' := [(2, .int (nI (b - (m + 1)))), (0, .ref 10), (1, .int (nI b))]) hΓ dX5_putInOrder_42 0 rfl (nx_dec (by omega)) (by decide) rfl rfl ?_
        refine sv_goto (pc' := 2) hΓ dX5_putInOrder_45 (by decide) ?_
        exact SV_lv [0, 1, 2] rfl (ih (m + 1) (by omega) _ (OM_s2 (i := b - (m + 1)) (by omega) hOM (hOM.2.1 _ (by omega)) (by rw [← hOM.1 11 (by decide)]; exact Int32.not_le.mp u3)))
  exact SV_lv [0, 1, 2] rfl (LP2 b 0 (by omega) ci (OM_0 hO))
set_option maxRecDepth 100000 in
set_option maxHeartbeats 4000000 in
/-- beginner -/
theorem ct_X5_beginner {E : aG} (l : Launch) (c : aI) (n : Nat) (t : Int32) (i : Int32) {ci : Nat → Nat → Int32} {cl : Nat → Nat → Int64} {cr : Nat → Nat → Option Nat} {dy : aM} {nx : Nat} (hn : ci 2 1 = nI n) (hn6 : n ≤ 16) (ht : ∀ a, a < n → c 55 a = ci 11 a) : CT E l yX5_beginner cX5_beginner 5 (some .int) 1 [.ref 10, .int t, .int i] (mm ci cl cr dy) nx 0 0 (fun r M' nx' => r = some (.int (atF c t i n 0 0)) ∧ M' = mm ci cl cr dy ∧ nx = nx') := by
  refine CT_intro (by decide) (Nat.le_of_ble_eq_true rfl) (fun Γ hΓ hQ => ?_)
  replace hΓ : CK E RX5 cX5_beginner 5 (some .int) "beginner" 1 0 0 Γ := hΓ
  show SV E Γ 5 (mm ci cl cr dy) nx 0 0 0 [(0, .ref 10), (1, .int t), (2, .int i)] []
  refine sv_iconst (v := 0) hΓ dX5_beginner_0 (by decide) rfl ?_
  refine sv_istore_n (lv' := [(3, .int 0), (0, .ref 10), (1, .int t), (2, .int i)]) hΓ dX5_beginner_1 rfl (by decide) rfl rfl ?_
  refine sv_iconst (v := 0) hΓ dX5_beginner_2 (by decide) rfl ?_
  refine sv_istore (lv' := [(4, .int 0), (3, .int 0), (0, .ref 10), (1, .int t), (2, .int i)]) hΓ dX5_beginner_3 (by decide) rfl rfl ?_
  have LP5 : ∀ kq a : Nat, a + kq = n → ∀ m, m ≤ a → atF c t i kq a m = atF c t i n 0 0 → SV E Γ 5 (mm ci cl cr dy) nx 0 0 5 [(4, .int (nI a)), (3, .int (nI m)), (0, .ref 10), (1, .int t), (2, .int i)] [] := by
    intro kq
    induction kq with
    | zero =>
      intro a ha
      have ea : a = n := by omega
      intro m hm hf
      refine sv_iload hΓ dX5_beginner_5 0 rfl rfl ?_
      refine sv_aload_n hΓ dX5_beginner_7 rfl 2 rfl rfl ?_
      refine g_X5_25_10 hΓ dX5_beginner_8 rfl ?_
      refine sv_callV hΓ (fun l => ct_X1_sizeN l n hn) wv_X5_37 vs_X1_size rfl m_2 rfl rfl (by decide) (Nat.le_of_ble_eq_true rfl) (Nat.le_of_ble_eq_true rfl) (Nat.le_of_ble_eq_true rfl) dX5_beginner_11 rfl (fun r M' nx' p1 => ?_)
      obtain ⟨rfl, rfl, rfl⟩ := p1
      show SV E Γ 5 (mm ci cl cr dy) nx 0 0 14 [(4, .int (nI a)), (3, .int (nI m)), (0, .ref 10), (1, .int t), (2, .int i)] [.int (nI n), .int (nI a)]
      refine sv_icmp_ge (tgt := 45) hΓ dX5_beginner_14 (by decide) rfl (fun u2 => ?_) (fun u2 => absurd (nI_le (by omega) (by omega)) u2)
      refine sv_bipush (v := (-2)) hΓ dX5_beginner_45 (by decide) rfl ?_
      exact sv_iret hΓ hQ dX5_beginner_47 (Nat.le_of_ble_eq_true rfl) (Nat.le_of_ble_eq_true rfl) ⟨by rw [← hf]; rfl, rfl, rfl⟩
    | succ kq ih =>
      intro a ha
      intro m hm hf
      refine sv_iload hΓ dX5_beginner_5 0 rfl rfl ?_
      refine sv_aload_n hΓ dX5_beginner_7 rfl 2 rfl rfl ?_
      refine g_X5_25_10 hΓ dX5_beginner_8 rfl ?_
      refine sv_callV hΓ (fun l => ct_X1_sizeN l n hn) wv_X5_37 vs_X1_size rfl m_2 rfl rfl (by decide) (Nat.le_of_ble_eq_true rfl) (Nat.le_of_ble_eq_true rfl) (Nat.le_of_ble_eq_true rfl) dX5_beginner_11 rfl (fun r M' nx' p3 => ?_)
      obtain ⟨rfl, rfl, rfl⟩ := p3
      show SV E Γ 5 (mm ci cl cr dy) nx 0 0 14 [(4, .int (nI a)), (3, .int (nI m)), (0, .ref 10), (1, .int t), (2, .int i)] [.int (nI n), .int (nI a)]
      refine sv_icmp_ge (tgt := 45) hΓ dX5_beginner_14 (by decide) rfl (fun u4 => absurd u4 (nI_ge (by omega) (by omega))) (fun u4 => ?_)
      refine sv_aload_n hΓ dX5_beginner_17 rfl 2 rfl rfl ?_
      refine g_X5_9_10 hΓ dX5_beginner_18 rfl ?_
      refine sv_iload hΓ dX5_beginner_21 0 rfl rfl ?_
      refine ai_11 hΓ (a) rfl (by omega) dX5_beginner_23 rfl ?_
      refine sv_iload_n hΓ dX5_beginner_24 rfl 3 rfl rfl ?_
      refine sv_icmp_ne (tgt := 39) hΓ dX5_beginner_25 (by decide) rfl (fun u5 => ?_) (fun u5 => ?_)
      · refine sv_iinc (v := nI (a + 1)) (lv' := [(4, .int (nI (a + 1))), (3, .int (nI m)), (0, .ref 10), (1, .int t), (2, .int i)]) hΓ dX5_beginner_39 0 rfl (nx_inc rfl) (by decide) rfl rfl ?_
        refine sv_goto (pc' := 5) hΓ dX5_beginner_42 (by decide) ?_
        exact SV_lv [0, 1, 2, 3, 4] rfl (ih (a + 1) (by omega) (m) (by omega) (by rw [← hf]; simp only [atF]; rw [if_neg (by rw [ht a (by omega)]; exact u5)]))
      · refine sv_iload_n hΓ dX5_beginner_28 rfl 1 rfl rfl ?_
        refine sv_iload_n hΓ dX5_beginner_29 rfl 4 rfl rfl ?_
        refine sv_icmp_ne (tgt := 36) hΓ dX5_beginner_30 (by decide) rfl (fun u6 => ?_) (fun u6 => ?_)
        · refine sv_iinc (v := nI (m + 1)) (lv' := [(3, .int (nI (m + 1))), (4, .int (nI a)), (0, .ref 10), (1, .int t), (2, .int i)]) hΓ dX5_beginner_36 1 rfl (nx_inc rfl) (by decide) rfl rfl ?_
          refine sv_iinc (v := nI (a + 1)) (lv' := [(4, .int (nI (a + 1))), (3, .int (nI (m + 1))), (0, .ref 10), (1, .int t), (2, .int i)]) hΓ dX5_beginner_39 1 rfl (nx_inc rfl) (by decide) rfl rfl ?_
          refine sv_goto (pc' := 5) hΓ dX5_beginner_42 (by decide) ?_
          exact SV_lv [0, 1, 2, 3, 4] rfl (ih (a + 1) (by omega) (m + 1) (by omega) (by rw [← hf]; simp only [atF]; rw [if_pos (by rw [ht a (by omega)]; exact u5), if_neg u6]))
        · refine sv_iload hΓ dX5_beginner_33 0 rfl rfl ?_
          exact sv_iret hΓ hQ dX5_beginner_35 (Nat.le_of_ble_eq_true rfl) (Nat.le_of_ble_eq_true rfl) ⟨by rw [← hf]; simp only [atF]; rw [if_pos (by rw [ht a (by omega)]; exact u5), if_pos u6], rfl, rfl⟩
  exact SV_lv [0, 1, 2, 3, 4] rfl (LP5 n 0 (by omega) 0 (by omega) rfl)
set_option maxRecDepth 100000 in
set_option maxHeartbeats 4000000 in
/-- layActs -/
theorem ct_X5_layActs {E : aG} (l : Launch) (c : aI) (nu : Nat → Int64) (n : Nat) {ci : Nat → Nat → Int32} {cl : Nat → Nat → Int64} {cr : Nat → Nat → Option Nat} {dy : aM} {nx : Nat} (hB : BK c nu ci cr dy n) (h0 : c 43 16 = 0) (hPL : PLF c nu n) : CT E l yX5_layActs cX5_layActs 2 none 4 [.ref 10] (mm ci cl cr dy) nx 0 0 (fun r M' nx' => r = none ∧ ∃ ci', LA c (sC c nu) ci ci' n ∧ M' = mm ci' cl cr dy ∧ nx = nx') := by
  refine CT_intro (by decide) (Nat.le_of_ble_eq_true rfl) (fun Γ hΓ hQ => ?_)
  replace hΓ : CK E RX5 cX5_layActs 2 none "layActs" 4 0 0 Γ := hΓ
  have hB0 := hB
  obtain ⟨hAC, hST, hn6, hn, hwf, hwp, hln⟩ := hB
  show SV E Γ 2 (mm ci cl cr dy) nx 0 0 0 [(0, .ref 10)] []
  refine sv_aload_n hΓ dX5_layActs_0 rfl 0 rfl rfl ?_
  refine sv_iconst (v := 0) hΓ dX5_layActs_1 (by decide) rfl ?_
  refine p_X5_21_10 hΓ dX5_layActs_2 rfl ?_
  refine sv_iconst (v := 0) hΓ dX5_layActs_5 (by decide) rfl ?_
  refine sv_istore_n (lv' := [(1, .int 0), (0, .ref 10)]) hΓ dX5_layActs_6 rfl (by decide) rfl rfl ?_
  have LP7 : ∀ kq b : Nat, b + kq = n → ∀ ci', LA c (sC c nu) ci ci' b → SV E Γ 2 (mm ci' cl cr dy) nx 0 0 7 [(1, .int (nI b)), (0, .ref 10)] [] := by
    intro kq
    induction kq with
    | zero =>
      intro b ha
      have ea : b = n := by omega
      intro ci' hL
      have hnb : ci' 2 1 = nI n := by rw [(hL.2.2.2 2 (by decide) (by decide) (by decide) (by decide))]; exact hn
      refine sv_iload_n hΓ dX5_layActs_7 rfl 0 rfl rfl ?_
      refine sv_aload_n hΓ dX5_layActs_8 rfl 1 rfl rfl ?_
      refine g_X5_25_10 hΓ dX5_layActs_9 rfl ?_
      refine sv_callV hΓ (fun l => ct_X1_sizeN l n hnb) wv_X5_37 vs_X1_size rfl m_2 rfl rfl (by decide) (Nat.le_of_ble_eq_true rfl) (Nat.le_of_ble_eq_true rfl) (Nat.le_of_ble_eq_true rfl) dX5_layActs_12 rfl (fun r M' nx' p1 => ?_)
      obtain ⟨rfl, rfl, rfl⟩ := p1
      show SV E Γ 2 (mm ci' cl cr dy) nx 0 0 15 [(1, .int (nI b)), (0, .ref 10)] [.int (nI n), .int (nI b)]
      refine sv_icmp_ge (tgt := 79) hΓ dX5_layActs_15 (by decide) rfl (fun u2 => ?_) (fun u2 => absurd (nI_le (by omega) (by omega)) u2)
      replace u2 : (nI n) ≤ ((nI b) : Int32) := u2
      exact sv_vret hΓ hQ dX5_layActs_79 (Nat.le_of_ble_eq_true rfl) (Nat.le_of_ble_eq_true rfl) ⟨rfl, ci', ea ▸ hL, rfl, rfl⟩
    | succ kq ih =>
      intro b ha
      intro ci' hL
      have smb := sm_lay c (sC c nu) b
      have hnb : ci' 2 1 = nI n := by rw [(hL.2.2.2 2 (by decide) (by decide) (by decide) (by decide))]; exact hn
      have hBb : BK (layC c (sC c nu) b) nu ci' cr dy n := (smb.BK hB0 (hL.2.2.2 2 (by decide) (by decide) (by decide) (by decide)) (hL.2.2.2 5 (by decide) (by decide) (by decide) (by decide)) (hL.2.2.2 6 (by decide) (by decide) (by decide) (by decide)) (hL.2.2.2 7 (by decide) (by decide) (by decide) (by decide)))
      obtain ⟨R, A, np, hR, hA, hRA, hA2, hpn⟩ := hPL b (by omega)
      obtain ⟨g, hO⟩ := hL.2.2.1
      refine sv_iload_n hΓ dX5_layActs_7 rfl 0 rfl rfl ?_
      refine sv_aload_n hΓ dX5_layActs_8 rfl 1 rfl rfl ?_
      refine g_X5_25_10 hΓ dX5_layActs_9 rfl ?_
      refine sv_callV hΓ (fun l => ct_X1_sizeN l n hnb) wv_X5_37 vs_X1_size rfl m_2 rfl rfl (by decide) (Nat.le_of_ble_eq_true rfl) (Nat.le_of_ble_eq_true rfl) (Nat.le_of_ble_eq_true rfl) dX5_layActs_12 rfl (fun r M' nx' p3 => ?_)
      obtain ⟨rfl, rfl, rfl⟩ := p3
      show SV E Γ 2 (mm ci' cl cr dy) nx 0 0 15 [(1, .int (nI b)), (0, .ref 10)] [.int (nI n), .int (nI b)]
      refine sv_icmp_ge (tgt := 79) hΓ dX5_layActs_15 (by decide) rfl (fun u4 => absurd u4 (nI_ge (by omega) (by omega))) (fun u4 => ?_)
      replace u4 : ¬ ((nI n) ≤ ((nI b) : Int32)) := u4
      refine sv_aload_n hΓ dX5_layActs_18 rfl 1 rfl rfl ?_
      refine sv_iload_n hΓ dX5_layActs_19 rfl 0 rfl rfl ?_
      refine sv_aload_n hΓ dX5_layActs_20 rfl 1 rfl rfl ?_
      refine g_X5_33_10 hΓ dX5_layActs_21 rfl ?_
      refine sv_iload_n hΓ dX5_layActs_24 rfl 0 rfl rfl ?_
      refine sv_aload_n hΓ dX5_layActs_25 rfl 1 rfl rfl ?_
      refine g_X5_9_10 hΓ dX5_layActs_26 rfl ?_
      refine sv_callV hΓ (fun l => ct_X4_readyTickP l ((layC c (sC c nu) b)) nu n b hBb (by omega) (fun a ha => (hL.1 a ha).1.symm)) wv_X5_43 vs_X4_readyTick rfl m_8 rfl rfl (by decide) (Nat.le_of_ble_eq_true rfl) (Nat.le_of_ble_eq_true rfl) (Nat.le_of_ble_eq_true rfl) dX5_layActs_29 rfl (fun r M' nx' p5 => ?_)
      obtain ⟨rfl, rfl, rfl⟩ := p5
      show SV E Γ 2 (mm ci' cl cr dy) nx 0 0 32 [(1, .int (nI b)), (0, .ref 10)] [.int (askF ((layC c (sC c nu) b)) (sC ((layC c (sC c nu) b)) nu) b b), .int (nI b), .ref 10]
      rw [smb.sC nu, hR]
      refine sv_callV hΓ (fun l => ct_X5_seat l ((layC c (sC c nu) b)) nu n b R A np hBb (by omega) (fun a ha => (hL.1 a ha).1.symm) (fun a ha => (hL.1 a ha).2.symm) (by rw [smb.sC nu]; exact hR) (hL.2.1.trans hA) hRA hA2 (by rw [smb.sC nu, smb.1, smb.2.2.2.2.1]; exact hpn)) wv_X5_49 vs_X5_seat rfl m_10 rfl rfl (by decide) (Nat.le_of_ble_eq_true rfl) (Nat.le_of_ble_eq_true rfl) (Nat.le_of_ble_eq_true rfl) dX5_layActs_32 rfl (fun r M' nx' p6 => ?_)
      obtain ⟨rfl, c1, hs1, ht1, hp1, rfl, rfl⟩ := p6
      rw [smb.sC nu] at ht1 hp1
      show SV E Γ 2 (mm c1 cl cr dy) nx 0 0 35 [(1, .int (nI b)), (0, .ref 10)] []
      refine sv_aload_n hΓ dX5_layActs_35 rfl 1 rfl rfl ?_
      refine sv_aload_n hΓ dX5_layActs_36 rfl 1 rfl rfl ?_
      refine g_X5_21_10 hΓ dX5_layActs_37 rfl ?_
      refine sv_aload_n hΓ dX5_layActs_40 rfl 1 rfl rfl ?_
      refine g_X5_9_10 hΓ dX5_layActs_41 rfl ?_
      refine sv_iload_n hΓ dX5_layActs_44 rfl 0 rfl rfl ?_
      refine ai_11 hΓ (b) rfl (by omega) dX5_layActs_45 rfl ?_
      refine sv_aload_n hΓ dX5_layActs_46 rfl 1 rfl rfl ?_
      refine g_X5_29_10 hΓ dX5_layActs_47 rfl ?_
      refine sv_aload_n hΓ dX5_layActs_50 rfl 1 rfl rfl ?_
      refine g_X5_25_10 hΓ dX5_layActs_51 rfl ?_
      refine sv_iload_n hΓ dX5_layActs_54 rfl 0 rfl rfl ?_
      obtain ⟨kg7, sg7, hrg7, hAg7⟩ := hAC b (by omega)
      refine sv_callV hΓ (fun l => ct_X1_get l b kg7 (by omega) hrg7) wv_X5_53 vs_X1_get rfl m_2 rfl rfl (by decide) (Nat.le_of_ble_eq_true rfl) (Nat.le_of_ble_eq_true rfl) (Nat.le_of_ble_eq_true rfl) dX5_layActs_55 rfl (fun r M' nx' p8 => ?_)
      obtain ⟨rfl, rfl, rfl⟩ := p8
      show SV E Γ 2 (mm c1 cl cr dy) nx 0 0 58 [(1, .int (nI b)), (0, .ref 10)] [.ref kg7, .ref 4, .int (c1 11 b), .int (c1 10 6), .ref 10]
      refine sv_callV hΓ (fun l => ct_X9_lengthOf l ((layC c (sC c nu) b)) nu b kg7 sg7 (smb.AT hAg7) ((smb.BK hB0 ((hs1.1 2 (by decide) (by decide)).trans (hL.2.2.2 2 (by decide) (by decide) (by decide) (by decide))) ((hs1.1 5 (by decide) (by decide)).trans (hL.2.2.2 5 (by decide) (by decide) (by decide) (by decide))) ((hs1.1 6 (by decide) (by decide)).trans (hL.2.2.2 6 (by decide) (by decide) (by decide) (by decide))) ((hs1.1 7 (by decide) (by decide)).trans (hL.2.2.2 7 (by decide) (by decide) (by decide) (by decide))))).2.1) wv_X5_57 vs_X9_lengthOf rfl m_4 rfl rfl (by decide) (Nat.le_of_ble_eq_true rfl) (Nat.le_of_ble_eq_true rfl) (Nat.le_of_ble_eq_true rfl) dX5_layActs_58 rfl (fun r M' nx' p9 => ?_)
      obtain ⟨rfl, rfl, rfl⟩ := p9
      show SV E Γ 2 (mm c1 cl cr dy) nx 0 0 61 [(1, .int (nI b)), (0, .ref 10)] [.int (ln ((layC c (sC c nu) b)) b), .int (c1 11 b), .int (c1 10 6), .ref 10]
      refine sv_iadd hΓ dX5_layActs_61 rfl ?_
      refine sv_mmax hΓ ⟨tb_541, tb_519, tb_13, tb_520⟩ (by decide) (Nat.le_of_ble_eq_true rfl) (Nat.le_of_ble_eq_true rfl) (Nat.le_of_ble_eq_true rfl) dX5_layActs_62 rfl ?_
      refine p_X5_21_10 hΓ dX5_layActs_65 rfl ?_
      refine sv_aload_n hΓ dX5_layActs_68 rfl 1 rfl rfl ?_
      refine sv_iload_n hΓ dX5_layActs_69 rfl 0 rfl rfl ?_
      refine sv_callV hΓ (fun l => ct_X5_putInOrder l b g (by omega) (up_OA (SB_OA hs1 hO))) wv_X5_69 vs_X5_putInOrder rfl m_10 rfl rfl (by decide) (Nat.le_of_ble_eq_true rfl) (Nat.le_of_ble_eq_true rfl) (Nat.le_of_ble_eq_true rfl) dX5_layActs_70 rfl (fun r M' nx' p10 => ?_)
      obtain ⟨rfl, c2, g2, hO2, hk2, rfl, rfl⟩ := p10
      show SV E Γ 2 (mm c2 cl cr dy) nx 0 0 73 [(1, .int (nI b)), (0, .ref 10)] []
      refine sv_iinc (v := nI (b + 1)) (lv' := [(1, .int (nI (b + 1))), (0, .ref 10)]) hΓ dX5_layActs_73 0 rfl (nx_inc rfl) (by decide) rfl rfl ?_
      refine sv_goto (pc' := 7) hΓ dX5_layActs_76 (by decide) ?_
      exact SV_lv [0, 1] rfl (ih (b + 1) (by omega) c2 (LA_s hL hs1 ht1 hp1 (fun k hk => by rw [hk2 k hk, show c1 10 = ci' 10 from hs1.1 10 (by decide) (by decide), smb.ln]) hO2))
  exact SV_lv [0, 1] rfl (LP7 n 0 (by omega) _ (LA_0 h0))
