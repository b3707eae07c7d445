set_option maxRecDepth 100000 in
set_option maxHeartbeats 4000000 in
/-- isFree -/
theorem ct_X5_isFree {E : aG} (l : Launch) (c : aI) (nu : Nat → Int64) (n : Nat) (b : Nat) (j : Nat) (i : Int32) (t : Int32) {ci : Nat → Nat → Int32} {cl : Nat → Nat → Int64} {cr : Nat → Nat → Option Nat} {dy : aM} {nx : Nat} (hB : BK c nu ci cr dy n) (hb : b < n) (ek : kd (c 44 b) = nI j) (hj : j < 4) (ht : ∀ a, a < b → c 55 a = ci 11 a) (hp : ∀ a, a < b → c 56 a = ci 12 a) : CT E l yX5_isFree cX5_isFree 8 (some .boolean) 1 [.ref 10, .int (nI b), .int (nI j), .int i, .int t] (mm ci cl cr dy) nx 0 0 (fun r M' nx' => r = some (.int (frI c b i t b)) ∧ M' = mm ci cl cr dy ∧ nx = nx') := by
  refine CT_intro (by decide) (Nat.le_of_ble_eq_true rfl) (fun Γ hΓ hQ => ?_)
  replace hΓ : CK E RX5 cX5_isFree 8 (some .boolean) "isFree" 1 0 0 Γ := hΓ
  have hB0 := hB
  obtain ⟨hAC, hST, hn6, hn, hwf, hwp, hln⟩ := hB
  show SV E Γ 8 (mm ci cl cr dy) nx 0 0 0 [(0, .ref 10), (1, .int (nI b)), (2, .int (nI j)), (3, .int i), (4, .int t)] []
  refine sv_aload_n hΓ dX5_isFree_0 rfl 0 rfl rfl ?_
  refine g_X5_29_10 hΓ dX5_isFree_1 rfl ?_
  refine sv_iload_n hΓ dX5_isFree_4 rfl 2 rfl rfl ?_
  refine sv_callV hΓ (fun l => ct_X9_filledTicks l c j hST (by omega)) wv_X5_89 vs_X9_filledTicks rfl m_4 rfl rfl (by decide) (Nat.le_of_ble_eq_true rfl) (Nat.le_of_ble_eq_true rfl) (Nat.le_of_ble_eq_true rfl) dX5_isFree_5 rfl (fun r M' nx' p1 => ?_)
  obtain ⟨rfl, rfl, rfl⟩ := p1
  show SV E Γ 8 (mm ci cl cr dy) nx 0 0 8 [(0, .ref 10), (1, .int (nI b)), (2, .int (nI j)), (3, .int i), (4, .int t)] [.int (fT c j)]
  refine sv_istore (lv' := [(5, .int (fT c j)), (0, .ref 10), (1, .int (nI b)), (2, .int (nI j)), (3, .int i), (4, .int t)]) hΓ dX5_isFree_8 (by decide) rfl rfl ?_
  refine sv_iconst (v := 0) hΓ dX5_isFree_10 (by decide) rfl ?_
  refine sv_istore (lv' := [(6, .int 0), (5, .int (fT c j)), (0, .ref 10), (1, .int (nI b)), (2, .int (nI j)), (3, .int i), (4, .int t)]) hΓ dX5_isFree_11 (by decide) rfl rfl ?_
  have LP13 : ∀ kq a : Nat, a + kq = b → frI c b i t a = 1 → SV E Γ 8 (mm ci cl cr dy) nx 0 0 13 [(6, .int (nI a)), (5, .int (fT c j)), (0, .ref 10), (1, .int (nI b)), (2, .int (nI j)), (3, .int i), (4, .int t)] [] := by
    intro kq
    induction kq with
    | zero =>
      intro a ha
      have ea : a = b := by omega
      intro hf
      refine sv_iload hΓ dX5_isFree_13 0 rfl rfl ?_
      refine sv_iload_n hΓ dX5_isFree_15 rfl 3 rfl rfl ?_
      refine sv_icmp_ge (tgt := 96) hΓ dX5_isFree_16 (by decide) rfl (fun u2 => ?_) (fun u2 => absurd (nI_le (by omega) (by omega)) u2)
      refine sv_iconst (v := 1) hΓ dX5_isFree_96 (by decide) rfl ?_
      exact sv_zret hΓ hQ dX5_isFree_97 (Nat.le_of_ble_eq_true rfl) (Nat.le_of_ble_eq_true rfl) rfl ⟨by rw [show frI c b i t b = 1 from ea ▸ hf], rfl, rfl⟩
    | succ kq ih =>
      intro a ha
      intro hf
      refine sv_iload hΓ dX5_isFree_13 0 rfl rfl ?_
      refine sv_iload_n hΓ dX5_isFree_15 rfl 3 rfl rfl ?_
      refine sv_icmp_ge (tgt := 96) hΓ dX5_isFree_16 (by decide) rfl (fun u3 => absurd u3 (nI_ge (by omega) (by omega))) (fun u3 => ?_)
      refine sv_aload_n hΓ dX5_isFree_19 rfl 2 rfl rfl ?_
      refine g_X5_15_10 hΓ dX5_isFree_20 rfl ?_
      refine sv_iload hΓ dX5_isFree_23 0 rfl rfl ?_
      refine ai_12 hΓ (a) rfl (by omega) dX5_isFree_25 rfl ?_
      refine sv_iload_n hΓ dX5_isFree_26 rfl 5 rfl rfl ?_
      refine sv_icmp_ne (tgt := 50) hΓ dX5_isFree_27 (by decide) rfl (fun u4 => ?_) (fun u4 => ?_)
      · refine sv_iconst (v := 0) hΓ dX5_isFree_50 (by decide) rfl ?_
        refine sv_istore (lv' := [(7, .int 0), (6, .int (nI a)), (5, .int (fT c j)), (0, .ref 10), (1, .int (nI b)), (2, .int (nI j)), (3, .int i), (4, .int t)]) hΓ dX5_isFree_51 (by decide) rfl rfl ?_
        refine sv_iload hΓ dX5_isFree_53 0 rfl rfl ?_
        refine sv_if_eq (tgt := 90) hΓ dX5_isFree_55 (by decide) rfl (fun u5 => ?_) (fun u5 => absurd (by decide) u5)
        refine sv_iinc (v := nI (a + 1)) (lv' := [(6, .int (nI (a + 1))), (7, .int 0), (5, .int (fT c j)), (0, .ref 10), (1, .int (nI b)), (2, .int (nI j)), (3, .int i), (4, .int t)]) hΓ dX5_isFree_90 1 rfl (nx_inc rfl) (by decide) rfl rfl ?_
        refine sv_goto (pc' := 13) hΓ dX5_isFree_93 (by decide) ?_
        exact SV_lv [0, 2, 3, 4, 5, 6, 7] rfl (ih (a + 1) (by omega) (fr_s1 hf (fun q => u4 (by rw [← hp a (by omega)]; exact q.2))))
      · refine sv_aload_n hΓ dX5_isFree_30 rfl 2 rfl rfl ?_
        refine g_X5_25_10 hΓ dX5_isFree_31 rfl ?_
        refine sv_iload hΓ dX5_isFree_34 0 rfl rfl ?_
        obtain ⟨kg6, sg6, hrg6, hAg6⟩ := hAC a (by omega)
        refine sv_callV hΓ (fun l => ct_X1_get l a kg6 (by omega) hrg6) wv_X5_53 vs_X1_get rfl m_2 rfl rfl (by decide) (Nat.le_of_ble_eq_true rfl) (Nat.le_of_ble_eq_true rfl) (Nat.le_of_ble_eq_true rfl) dX5_isFree_36 rfl (fun r M' nx' p7 => ?_)
        obtain ⟨rfl, rfl, rfl⟩ := p7
        show SV E Γ 8 (mm ci cl cr dy) nx 0 0 39 [(6, .int (nI a)), (5, .int (fT c j)), (0, .ref 10), (1, .int (nI b)), (2, .int (nI j)), (3, .int i), (4, .int t)] [.ref kg6]
        refine sv_callV hΓ (fun l => ct_X0_kind l c nu a kg6 sg6 hAg6) wv_X5_73 vs_X0_kind rfl hAg6.m rfl rfl (by decide) (Nat.le_of_ble_eq_true rfl) (Nat.le_of_ble_eq_true rfl) (Nat.le_of_ble_eq_true rfl) dX5_isFree_39 rfl (fun r M' nx' p8 => ?_)
        obtain ⟨rfl, rfl, rfl⟩ := p8
        show SV E Γ 8 (mm ci cl cr dy) nx 0 0 42 [(6, .int (nI a)), (5, .int (fT c j)), (0, .ref 10), (1, .int (nI b)), (2, .int (nI j)), (3, .int i), (4, .int t)] [.int (kd (c 44 a))]
        refine sv_iload_n hΓ dX5_isFree_42 rfl 4 rfl rfl ?_
        refine sv_icmp_ne (tgt := 50) hΓ dX5_isFree_43 (by decide) rfl (fun u9 => ?_) (fun u9 => ?_)
        · refine sv_iconst (v := 0) hΓ dX5_isFree_50 (by decide) rfl ?_
          refine sv_istore (lv' := [(7, .int 0), (6, .int (nI a)), (5, .int (fT c j)), (0, .ref 10), (1, .int (nI b)), (2, .int (nI j)), (3, .int i), (4, .int t)]) hΓ dX5_isFree_51 (by decide) rfl rfl ?_
          refine sv_iload hΓ dX5_isFree_53 0 rfl rfl ?_
          refine sv_if_eq (tgt := 90) hΓ dX5_isFree_55 (by decide) rfl (fun u10 => ?_) (fun u10 => absurd (by decide) u10)
          refine sv_iinc (v := nI (a + 1)) (lv' := [(6, .int (nI (a + 1))), (7, .int 0), (5, .int (fT c j)), (0, .ref 10), (1, .int (nI b)), (2, .int (nI j)), (3, .int i), (4, .int t)]) hΓ dX5_isFree_90 1 rfl (nx_inc rfl) (by decide) rfl rfl ?_
          refine sv_goto (pc' := 13) hΓ dX5_isFree_93 (by decide) ?_
          exact SV_lv [0, 2, 3, 4, 5, 6, 7] rfl (ih (a + 1) (by omega) (fr_s1 hf (fun q => u9 (q.1.trans ek))))
        · refine sv_iconst (v := 1) hΓ dX5_isFree_46 (by decide) rfl ?_
          refine sv_goto (pc' := 51) hΓ dX5_isFree_47 (by decide) ?_
          refine sv_istore (lv' := [(7, .int 1), (6, .int (nI a)), (5, .int (fT c j)), (0, .ref 10), (1, .int (nI b)), (2, .int (nI j)), (3, .int i), (4, .int t)]) hΓ dX5_isFree_51 (by decide) rfl rfl ?_
          refine sv_iload hΓ dX5_isFree_53 0 rfl rfl ?_
          refine sv_if_eq (tgt := 90) hΓ dX5_isFree_55 (by decide) rfl (fun u11 => absurd u11 (by decide)) (fun u11 => ?_)
          refine sv_aload_n hΓ dX5_isFree_58 rfl 3 rfl rfl ?_
          refine g_X5_9_10 hΓ dX5_isFree_59 rfl ?_
          refine sv_iload hΓ dX5_isFree_62 1 rfl rfl ?_
          refine ai_11 hΓ (a) rfl (by omega) dX5_isFree_64 rfl ?_
          refine sv_iload hΓ dX5_isFree_65 7 rfl rfl ?_
          refine sv_iload hΓ dX5_isFree_67 2 rfl rfl ?_
          refine sv_iadd hΓ dX5_isFree_69 rfl ?_
          refine sv_icmp_ge (tgt := 90) hΓ dX5_isFree_70 (by decide) rfl (fun u12 => ?_) (fun u12 => ?_)
          · refine sv_iinc (v := nI (a + 1)) (lv' := [(6, .int (nI (a + 1))), (7, .int 1), (5, .int (fT c j)), (0, .ref 10), (1, .int (nI b)), (2, .int (nI j)), (3, .int i), (4, .int t)]) hΓ dX5_isFree_90 1 rfl (nx_inc rfl) (by decide) rfl rfl ?_
            refine sv_goto (pc' := 13) hΓ dX5_isFree_93 (by decide) ?_
            exact SV_lv [0, 2, 3, 4, 5, 6, 7] rfl (ih (a + 1) (by omega) (fr_s2 hj hf ek u9 (Or.inl (Int32.not_lt.mpr (by rw [ht a (by omega)]; exact u12)))))
          · refine sv_iload hΓ dX5_isFree_73 7 rfl rfl ?_
            refine sv_aload_n hΓ dX5_isFree_75 rfl 3 rfl rfl ?_
            refine g_X5_9_10 hΓ dX5_isFree_76 rfl ?_
            refine sv_iload hΓ dX5_isFree_79 1 rfl rfl ?_
            refine ai_11 hΓ (a) rfl (by omega) dX5_isFree_81 rfl ?_
            refine sv_iload hΓ dX5_isFree_82 2 rfl rfl ?_
            refine sv_iadd hΓ dX5_isFree_84 rfl ?_
            refine sv_icmp_ge (tgt := 90) hΓ dX5_isFree_85 (by decide) rfl (fun u13 => ?_) (fun u13 => ?_)
            · refine sv_iinc (v := nI (a + 1)) (lv' := [(6, .int (nI (a + 1))), (7, .int 1), (5, .int (fT c j)), (0, .ref 10), (1, .int (nI b)), (2, .int (nI j)), (3, .int i), (4, .int t)]) hΓ dX5_isFree_90 1 rfl (nx_inc rfl) (by decide) rfl rfl ?_
              refine sv_goto (pc' := 13) hΓ dX5_isFree_93 (by decide) ?_
              exact SV_lv [0, 2, 3, 4, 5, 6, 7] rfl (ih (a + 1) (by omega) (fr_s2 hj hf ek u9 (Or.inr (Int32.not_lt.mpr (by rw [ht a (by omega)]; exact u13)))))
            · refine sv_iconst (v := 0) hΓ dX5_isFree_88 (by decide) rfl ?_
              exact sv_zret hΓ hQ dX5_isFree_89 (Nat.le_of_ble_eq_true rfl) (Nat.le_of_ble_eq_true rfl) rfl ⟨by rw [fr_z (fr_s0 hj hf ek u9 (by rw [hp a (by omega)]; exact u4) (by rw [ht a (by omega)]; exact Int32.not_le.mp u12) (by rw [ht a (by omega)]; exact Int32.not_le.mp u13)) b (by omega)], rfl, rfl⟩
  exact SV_lv [0, 1, 2, 3, 4, 5, 6] rfl (LP13 b 0 (by omega) rfl)
set_option maxRecDepth 100000 in
set_option maxHeartbeats 4000000 in
/-- freePart -/
theorem ct_X5_freePart {E : aG} (l : Launch) (c : aI) (nu : Nat → Int64) (n : Nat) (b : Nat) (j : Nat) (t : Int32) (np : Nat) {ci : Nat → Nat → Int32} {cl : Nat → Nat → Int64} {cr : Nat → Nat → Option Nat} {dy : aM} {nx : Nat} (hB : BK c nu ci cr dy n) (hb : b < n) (ek : kd (c 44 b) = nI j) (hj : j < 4) (ht : ∀ a, a < b → c 55 a = ci 11 a) (hp : ∀ a, a < b → c 56 a = ci 12 a) (hpn : c 49 j = nI np) (hp4 : np ≤ 4) : CT E l yX5_freePart cX5_freePart 5 (some .int) 2 [.ref 10, .int (nI b), .int (nI j), .int t] (mm ci cl cr dy) nx 0 0 (fun r M' nx' => r = some (.int (fpF c b t np 0)) ∧ M' = mm ci cl cr dy ∧ nx = nx') := by
  refine CT_intro (by decide) (Nat.le_of_ble_eq_true rfl) (fun Γ hΓ hQ => ?_)
  replace hΓ : CK E RX5 cX5_freePart 5 (some .int) "freePart" 2 0 0 Γ := hΓ
  have hB0 := hB
  obtain ⟨hAC, hST, hn6, hn, hwf, hwp, hln⟩ := hB
  have hq : ci 5 j = nI np := (hST j hj).1.trans hpn
  show SV E Γ 5 (mm ci cl cr dy) nx 0 0 0 [(0, .ref 10), (1, .int (nI b)), (2, .int (nI j)), (3, .int t)] []
  refine sv_iconst (v := 0) hΓ dX5_freePart_0 (by decide) rfl ?_
  refine sv_istore (lv' := [(4, .int 0), (0, .ref 10), (1, .int (nI b)), (2, .int (nI j)), (3, .int t)]) hΓ dX5_freePart_1 (by decide) rfl rfl ?_
  have LP3 : ∀ kq i : Nat, i + kq = np → fpF c b t kq i = fpF c b t np 0 → SV E Γ 5 (mm ci cl cr dy) nx 0 0 3 [(4, .int (nI i)), (0, .ref 10), (1, .int (nI b)), (2, .int (nI j)), (3, .int t)] [] := by
    intro kq
    induction kq with
    | zero =>
      intro i ha
      have ea : i = np := by omega
      intro hf
      refine sv_iload hΓ dX5_freePart_3 0 rfl rfl ?_
      refine sv_aload_n hΓ dX5_freePart_5 rfl 1 rfl rfl ?_
      refine g_X5_29_10 hΓ dX5_freePart_6 rfl ?_
      refine g_X5_82_4 hΓ dX5_freePart_9 rfl ?_
      refine sv_iload_n hΓ dX5_freePart_12 rfl 3 rfl rfl ?_
      refine ai_5 hΓ (j) rfl (by omega) dX5_freePart_13 rfl ?_
      refine sv_icmp_ge (tgt := 38) hΓ dX5_freePart_14 (by decide) rfl (fun u1 => ?_) (fun u1 => absurd (by rw [hq]; exact nI_le (by omega) (by omega)) u1)
      refine sv_bipush (v := (-2)) hΓ dX5_freePart_38 (by decide) rfl ?_
      exact sv_iret hΓ hQ dX5_freePart_40 (Nat.le_of_ble_eq_true rfl) (Nat.le_of_ble_eq_true rfl) ⟨by rw [← hf]; rfl, rfl, rfl⟩
    | succ kq ih =>
      intro i ha
      intro hf
      refine sv_iload hΓ dX5_freePart_3 0 rfl rfl ?_
      refine sv_aload_n hΓ dX5_freePart_5 rfl 1 rfl rfl ?_
      refine g_X5_29_10 hΓ dX5_freePart_6 rfl ?_
      refine g_X5_82_4 hΓ dX5_freePart_9 rfl ?_
      refine sv_iload_n hΓ dX5_freePart_12 rfl 3 rfl rfl ?_
      refine ai_5 hΓ (j) rfl (by omega) dX5_freePart_13 rfl ?_
      refine sv_icmp_ge (tgt := 38) hΓ dX5_freePart_14 (by decide) rfl (fun u2 => absurd u2 (by rw [hq]; exact nI_ge (by omega) (by omega))) (fun u2 => ?_)
      refine sv_aload_n hΓ dX5_freePart_17 rfl 1 rfl rfl ?_
      refine sv_iload_n hΓ dX5_freePart_18 rfl 2 rfl rfl ?_
      refine sv_iload_n hΓ dX5_freePart_19 rfl 3 rfl rfl ?_
      refine sv_iload hΓ dX5_freePart_20 0 rfl rfl ?_
      refine sv_iload_n hΓ dX5_freePart_22 rfl 4 rfl rfl ?_
      refine sv_callV hΓ (fun l => ct_X5_isFree l c nu n b j (nI i) t hB0 (by omega) ek (by omega) ht hp) wv_X5_85 vs_X5_isFree rfl m_10 rfl rfl (by decide) (Nat.le_of_ble_eq_true rfl) (Nat.le_of_ble_eq_true rfl) (Nat.le_of_ble_eq_true rfl) dX5_freePart_23 rfl (fun r M' nx' p3 => ?_)
      obtain ⟨rfl, rfl, rfl⟩ := p3
      show SV E Γ 5 (mm ci cl cr dy) nx 0 0 26 [(4, .int (nI i)), (0, .ref 10), (1, .int (nI b)), (2, .int (nI j)), (3, .int t)] [.int (frI c b (nI i) t b)]
      refine sv_if_eq (tgt := 32) hΓ dX5_freePart_26 (by decide) rfl (fun u4 => ?_) (fun u4 => ?_)
      · refine sv_iinc (v := nI (i + 1)) (lv' := [(4, .int (nI (i + 1))), (0, .ref 10), (1, .int (nI b)), (2, .int (nI j)), (3, .int t)]) hΓ dX5_freePart_32 0 rfl (nx_inc rfl) (by decide) rfl rfl ?_
        refine sv_goto (pc' := 3) hΓ dX5_freePart_35 (by decide) ?_
        exact SV_lv [0, 1, 2, 3, 4] rfl (ih (i + 1) (by omega) (by rw [← hf]; simp only [fpF]; rw [if_pos u4]))
      · refine sv_iload hΓ dX5_freePart_29 0 rfl rfl ?_
        exact sv_iret hΓ hQ dX5_freePart_31 (Nat.le_of_ble_eq_true rfl) (Nat.le_of_ble_eq_true rfl) ⟨by rw [← hf]; simp only [fpF]; rw [if_neg u4], rfl, rfl⟩
  exact SV_lv [0, 1, 2, 3, 4] rfl (LP3 np 0 (by omega) rfl)
set_option maxRecDepth 100000 in
set_option maxHeartbeats 4000000 in
/-- seat -/
theorem ct_X5_seat {E : aG} (l : Launch) (c : aI) (nu : Nat → Int64) (n : Nat) (b : Nat) (R : Nat) (A : Nat) (np : Nat) {ci : Nat → Nat → Int32} {cl : Nat → Nat → Int64} {cr : Nat → Nat → Option Nat} {dy : aM} {nx : Nat} (hB : BK c nu ci cr dy n) (hb : b < n) (ht : ∀ a, a < b → c 55 a = ci 11 a) (hp : ∀ a, a < b → c 56 a = ci 12 a) (hR : askF c (sC c nu) b b = nI R) (hA : ci 10 6 = nI A) (hRA : R ≤ A) (hA2 : A ≤ 200) (hpn : ¬ kd (c 44 b) < 0 → c 49 (kd (c 44 b)).toNatClampNeg = nI np ∧ np ≤ 4 ∧ ∀ t, A ≤ t → t ≤ 1000 → 0 ≤ fpF (ly1 c (sC c nu) b) b (nI t) np 0) : CT E l yX5_seat cX5_seat 6 none 3 [.ref 10, .int (nI b), .int (nI R)] (mm ci cl cr dy) nx 0 0 (fun r M' nx' => r = none ∧ ∃ ci', SB ci ci' b ∧ ci' 11 b = lyT c (sC c nu) b ∧ ci' 12 b = ly2 c (sC c nu) b 56 b ∧ M' = mm ci' cl cr dy ∧ nx = nx') := by
  refine CT_intro (by decide) (Nat.le_of_ble_eq_true rfl) (fun Γ hΓ hQ => ?_)
  replace hΓ : CK E RX5 cX5_seat 6 none "seat" 3 0 0 Γ := hΓ
  have hB0 := hB
  obtain ⟨hAC, hST, hn6, hn, hwf, hwp, hln⟩ := hB
  show SV E Γ 6 (mm ci cl cr dy) nx 0 0 0 [(0, .ref 10), (1, .int (nI b)), (2, .int (nI R))] []
  refine sv_aload_n hΓ dX5_seat_0 rfl 0 rfl rfl ?_
  refine g_X5_25_10 hΓ dX5_seat_1 rfl ?_
  refine sv_iload_n hΓ dX5_seat_4 rfl 1 rfl rfl ?_
  obtain ⟨kg1, sg1, hrg1, hAg1⟩ := hAC b (by omega)
  refine sv_callV hΓ (fun l => ct_X1_get l b kg1 (by omega) hrg1) wv_X5_53 vs_X1_get rfl m_2 rfl rfl (by decide) (Nat.le_of_ble_eq_true rfl) (Nat.le_of_ble_eq_true rfl) (Nat.le_of_ble_eq_true rfl) dX5_seat_5 rfl (fun r M' nx' p2 => ?_)
  obtain ⟨rfl, rfl, rfl⟩ := p2
  show SV E Γ 6 (mm ci cl cr dy) nx 0 0 8 [(0, .ref 10), (1, .int (nI b)), (2, .int (nI R))] [.ref kg1]
  refine sv_callV hΓ (fun l => ct_X0_kind l c nu b kg1 sg1 hAg1) wv_X5_73 vs_X0_kind rfl hAg1.m rfl rfl (by decide) (Nat.le_of_ble_eq_true rfl) (Nat.le_of_ble_eq_true rfl) (Nat.le_of_ble_eq_true rfl) dX5_seat_8 rfl (fun r M' nx' p3 => ?_)
  obtain ⟨rfl, rfl, rfl⟩ := p3
  show SV E Γ 6 (mm ci cl cr dy) nx 0 0 11 [(0, .ref 10), (1, .int (nI b)), (2, .int (nI R))] [.int (kd (c 44 b))]
  refine sv_istore_n (lv' := [(3, .int (kd (c 44 b))), (0, .ref 10), (1, .int (nI b)), (2, .int (nI R))]) hΓ dX5_seat_11 rfl (by decide) rfl rfl ?_
  refine sv_aload_n hΓ dX5_seat_12 rfl 1 rfl rfl ?_
  refine g_X5_9_10 hΓ dX5_seat_13 rfl ?_
  refine sv_iload_n hΓ dX5_seat_16 rfl 2 rfl rfl ?_
  refine sv_iload_n hΓ dX5_seat_17 rfl 3 rfl rfl ?_
  refine as_11 hΓ (b) rfl (by omega) dX5_seat_18 rfl ?_
  refine sv_aload_n hΓ dX5_seat_19 rfl 1 rfl rfl ?_
  refine g_X5_15_10 hΓ dX5_seat_20 rfl ?_
  refine sv_iload_n hΓ dX5_seat_23 rfl 2 rfl rfl ?_
  refine sv_bipush (v := (-2)) hΓ dX5_seat_24 (by decide) rfl ?_
  refine as_12 hΓ (b) rfl (by omega) dX5_seat_26 rfl ?_
  refine sv_iload_n hΓ dX5_seat_27 rfl 0 rfl rfl ?_
  refine sv_bipush (v := (-2)) hΓ dX5_seat_28 (by decide) rfl ?_
  refine sv_icmp_ne (tgt := 34) hΓ dX5_seat_30 (by decide) rfl (fun u4 => ?_) (fun u4 => ?_)
  · replace u4 : ¬ ((kd (c 44 b)) : Int32) = ((-2)) := u4
    have hk1 : ¬ kd (ly1 c (sC c nu) b 44 b) < 0 := kd_n2 u4
    obtain ⟨j, hj, ek⟩ := kd_in _ (kd_n2 u4)
    obtain ⟨hq1, hq4, hfr⟩ := hpn (kd_n2 u4)
    have hnp : npF (ly1 c (sC c nu) b) b = np := by show ((ly1 c (sC c nu) b) 49 (kd (ly1 c (sC c nu) b 44 b)).toNatClampNeg).toNatClampNeg = np; rw [show ly1 c (sC c nu) b 49 = c 49 from rfl, show ly1 c (sC c nu) b 44 b = c 44 b from rfl, hq1, nI_clamp (by omega)]
    rw [ek, nI_clamp (by omega)] at hq1
    generalize hc1 : up2 (up2 ci 11 b (nI R)) 12 b (-2) = ci1
    have hsb1 : SB ci ci1 b := hc1 ▸ SB.rf.up
    have h12 : ci1 12 b = -2 := by rw [← hc1, up2_s]
    have hA1 : ci1 10 6 = nI A := by rw [← hc1, up2_k _ _ _ (by decide), up2_k _ _ _ (by decide)]; exact hA
    rw [ek]
    refine sv_iload_n hΓ dX5_seat_34 rfl 3 rfl rfl ?_
    refine sv_aload_n hΓ dX5_seat_35 rfl 1 rfl rfl ?_
    refine g_X5_21_10 hΓ dX5_seat_36 rfl ?_
    refine sv_mmax hΓ ⟨tb_541, tb_519, tb_13, tb_520⟩ (by decide) (Nat.le_of_ble_eq_true rfl) (Nat.le_of_ble_eq_true rfl) (Nat.le_of_ble_eq_true rfl) dX5_seat_39 rfl ?_
    rw [hA1, mx_AR hRA hA2]
    refine sv_istore (lv' := [(4, .int (nI A)), (3, .int (nI j)), (0, .ref 10), (1, .int (nI b)), (2, .int (nI R))]) hΓ dX5_seat_42 (by decide) rfl rfl ?_
    refine sv_iload_n hΓ dX5_seat_44 rfl 4 rfl rfl ?_
    refine sv_istore (lv' := [(5, .int (nI R)), (4, .int (nI A)), (3, .int (nI j)), (0, .ref 10), (1, .int (nI b)), (2, .int (nI R))]) hΓ dX5_seat_45 (by decide) rfl rfl ?_
    have LP47 : ∀ kq m : Nat, m + kq = A - R → ∀ ci', SB ci ci' b → ci' 12 b = -2 → (∀ q, q < m → ¬ 0 ≤ fpF (ly1 c (sC c nu) b) b (nI (R + q)) np 0) → SV E Γ 6 (mm ci' cl cr dy) nx 0 0 47 [(5, .int (nI (R + m))), (4, .int (nI A)), (3, .int (nI j)), (0, .ref 10), (1, .int (nI b)), (2, .int (nI R))] [] := by
      intro kq
      induction kq with
      | zero =>
        intro m ha
        have ea : m = A - R := by omega
        intro ci' hsb h12 hno
        refine sv_iload hΓ dX5_seat_47 0 rfl rfl ?_
        refine sv_iload hΓ dX5_seat_49 1 rfl rfl ?_
        refine sv_icmp_gt (tgt := 93) hΓ dX5_seat_51 (by decide) rfl (fun u5 => absurd u5 (fun q => absurd q (Int32.not_lt.mpr (nI_le (by omega) (by omega))))) (fun u5 => ?_)
        replace u5 : ¬ ((nI A) < ((nI (R + m)) : Int32)) := u5
        refine sv_aload_n hΓ dX5_seat_54 rfl 3 rfl rfl ?_
        refine g_X5_15_10 hΓ dX5_seat_55 rfl ?_
        refine sv_iload_n hΓ dX5_seat_58 rfl 4 rfl rfl ?_
        refine ai_12 hΓ (b) rfl (by omega) dX5_seat_59 rfl ?_
        refine sv_bipush (v := (-2)) hΓ dX5_seat_60 (by decide) rfl ?_
        refine sv_icmp_ne (tgt := 93) hΓ dX5_seat_62 (by decide) rfl (fun u6 => absurd u6 (fun q => q h12)) (fun u6 => ?_)
        replace u6 : ((ci' 12 b) : Int32) = ((-2)) := u6
        refine sv_aload_n hΓ dX5_seat_65 rfl 3 rfl rfl ?_
        refine g_X5_9_10 hΓ dX5_seat_66 rfl ?_
        refine sv_iload_n hΓ dX5_seat_69 rfl 4 rfl rfl ?_
        refine sv_iload hΓ dX5_seat_70 0 rfl rfl ?_
        refine as_11 hΓ (b) rfl (by omega) dX5_seat_72 rfl ?_
        refine sv_aload_n hΓ dX5_seat_73 rfl 3 rfl rfl ?_
        refine g_X5_15_10 hΓ dX5_seat_74 rfl ?_
        refine sv_iload_n hΓ dX5_seat_77 rfl 4 rfl rfl ?_
        refine sv_aload_n hΓ dX5_seat_78 rfl 3 rfl rfl ?_
        refine sv_iload_n hΓ dX5_seat_79 rfl 4 rfl rfl ?_
        refine sv_iload_n hΓ dX5_seat_80 rfl 2 rfl rfl ?_
        refine sv_iload hΓ dX5_seat_81 0 rfl rfl ?_
        refine sv_callV hΓ (fun l => ct_X5_freePart l ((ly1 c (sC c nu) b)) nu n b j (nI (R + m)) np ((sm_ly1 c (sC c nu) b).BK hB0 ((up2_k _ _ _ (by decide)).trans (hsb.1 2 (by decide) (by decide))) ((up2_k _ _ _ (by decide)).trans (hsb.1 5 (by decide) (by decide))) ((up2_k _ _ _ (by decide)).trans (hsb.1 6 (by decide) (by decide))) ((up2_k _ _ _ (by decide)).trans (hsb.1 7 (by decide) (by decide)))) (by omega) ek (by omega) (fun a ha => (ht a ha).trans ((hsb.2 a (by omega)).1.symm.trans (up2_j _ _ _ (by omega)).symm)) (fun a ha => ((up2_j _ _ _ (by omega)).trans (hp a ha)).trans (hsb.2 a (by omega)).2.symm) hq1 hq4) wv_X5_78 vs_X5_freePart rfl m_10 rfl rfl (by decide) (Nat.le_of_ble_eq_true rfl) (Nat.le_of_ble_eq_true rfl) (Nat.le_of_ble_eq_true rfl) dX5_seat_83 rfl (fun r M' nx' p7 => ?_)
        obtain ⟨rfl, rfl, rfl⟩ := p7
        show SV E Γ 6 (mm (up2 ci' 11 b (nI (R + m))) cl cr dy) nx 0 0 86 [(5, .int (nI (R + m))), (4, .int (nI A)), (3, .int (nI j)), (0, .ref 10), (1, .int (nI b)), (2, .int (nI R))] [.int (fpF ((ly1 c (sC c nu) b)) b (nI (R + m)) np 0), .int (nI b), .ref 12]
        refine as_12 hΓ (b) rfl (by omega) dX5_seat_86 rfl ?_
        refine sv_iinc (v := nI (R + m + 1)) (lv' := [(5, .int (nI (R + m + 1))), (4, .int (nI A)), (3, .int (nI j)), (0, .ref 10), (1, .int (nI b)), (2, .int (nI R))]) hΓ dX5_seat_87 0 rfl (nx_inc rfl) (by decide) rfl rfl ?_
        refine sv_goto (pc' := 47) hΓ dX5_seat_90 (by decide) ?_
        by_cases hv : 0 ≤ fpF (ly1 c (sC c nu) b) b (nI (R + m)) np 0
        · refine sv_iload hΓ dX5_seat_47 0 rfl rfl ?_
          refine sv_iload hΓ dX5_seat_49 1 rfl rfl ?_
          refine sv_icmp_gt (tgt := 93) hΓ dX5_seat_51 (by decide) rfl (fun u8 => ?_) (fun u8 => ?_)
          · replace u8 : (nI A) < ((nI (R + m + 1)) : Int32) := u8
            exact sv_vret hΓ hQ dX5_seat_93 (Nat.le_of_ble_eq_true rfl) (Nat.le_of_ble_eq_true rfl) ⟨rfl, _, hsb.up, by rw [up2_k _ _ _ (by decide), up2_s, lyT, if_neg hk1, hR, hnp, sr_at (by omega) hno hv], by rw [up2_s, ly2, if_neg hk1, up2_s, lyT, if_neg hk1, hR, hnp, sr_at (by omega) hno hv], rfl, rfl⟩
          · replace u8 : ¬ ((nI A) < ((nI (R + m + 1)) : Int32)) := u8
            refine sv_aload_n hΓ dX5_seat_54 rfl 3 rfl rfl ?_
            refine g_X5_15_10 hΓ dX5_seat_55 rfl ?_
            refine sv_iload_n hΓ dX5_seat_58 rfl 4 rfl rfl ?_
            refine ai_12 hΓ (b) rfl (by omega) dX5_seat_59 rfl ?_
            show SV E Γ 6 (mm (up2 (up2 ci' 11 b (nI (R + m))) 12 b (fpF ((ly1 c (sC c nu) b)) b (nI (R + m)) np 0)) cl cr dy) nx 0 0 60 [(5, .int (nI (R + m + 1))), (4, .int (nI A)), (3, .int (nI j)), (0, .ref 10), (1, .int (nI b)), (2, .int (nI R))] [.int ((up2 (up2 ci' 11 b (nI (R + m))) 12 b (fpF ((ly1 c (sC c nu) b)) b (nI (R + m)) np 0)) 12 b)]
            rw [up2_s]
            refine sv_bipush (v := (-2)) hΓ dX5_seat_60 (by decide) rfl ?_
            refine sv_icmp_ne (tgt := 93) hΓ dX5_seat_62 (by decide) rfl (fun u9 => ?_) (fun u9 => absurd u9 (nn_2 hv))
            replace u9 : ¬ ((fpF ((ly1 c (sC c nu) b)) b (nI (R + m)) np 0) : Int32) = ((-2)) := u9
            exact sv_vret hΓ hQ dX5_seat_93 (Nat.le_of_ble_eq_true rfl) (Nat.le_of_ble_eq_true rfl) ⟨rfl, _, hsb.up, by rw [up2_k _ _ _ (by decide), up2_s, lyT, if_neg hk1, hR, hnp, sr_at (by omega) hno hv], by rw [up2_s, ly2, if_neg hk1, up2_s, lyT, if_neg hk1, hR, hnp, sr_at (by omega) hno hv], rfl, rfl⟩
        · exact absurd (hfr (R + m) (by omega) (by omega)) hv
      | succ kq ih =>
        intro m ha
        intro ci' hsb h12 hno
        refine sv_iload hΓ dX5_seat_47 0 rfl rfl ?_
        refine sv_iload hΓ dX5_seat_49 1 rfl rfl ?_
        refine sv_icmp_gt (tgt := 93) hΓ dX5_seat_51 (by decide) rfl (fun u10 => absurd u10 (Int32.not_lt.mpr (nI_le (by omega) (by omega)))) (fun u10 => ?_)
        replace u10 : ¬ ((nI A) < ((nI (R + m)) : Int32)) := u10
        refine sv_aload_n hΓ dX5_seat_54 rfl 3 rfl rfl ?_
        refine g_X5_15_10 hΓ dX5_seat_55 rfl ?_
        refine sv_iload_n hΓ dX5_seat_58 rfl 4 rfl rfl ?_
        refine ai_12 hΓ (b) rfl (by omega) dX5_seat_59 rfl ?_
        refine sv_bipush (v := (-2)) hΓ dX5_seat_60 (by decide) rfl ?_
        refine sv_icmp_ne (tgt := 93) hΓ dX5_seat_62 (by decide) rfl (fun u11 => absurd u11 (fun q => q h12)) (fun u11 => ?_)
        replace u11 : ((ci' 12 b) : Int32) = ((-2)) := u11
        refine sv_aload_n hΓ dX5_seat_65 rfl 3 rfl rfl ?_
        refine g_X5_9_10 hΓ dX5_seat_66 rfl ?_
        refine sv_iload_n hΓ dX5_seat_69 rfl 4 rfl rfl ?_
        refine sv_iload hΓ dX5_seat_70 0 rfl rfl ?_
        refine as_11 hΓ (b) rfl (by omega) dX5_seat_72 rfl ?_
        refine sv_aload_n hΓ dX5_seat_73 rfl 3 rfl rfl ?_
        refine g_X5_15_10 hΓ dX5_seat_74 rfl ?_
        refine sv_iload_n hΓ dX5_seat_77 rfl 4 rfl rfl ?_
        refine sv_aload_n hΓ dX5_seat_78 rfl 3 rfl rfl ?_
        refine sv_iload_n hΓ dX5_seat_79 rfl 4 rfl rfl ?_
        refine sv_iload_n hΓ dX5_seat_80 rfl 2 rfl rfl ?_
        refine sv_iload hΓ dX5_seat_81 0 rfl rfl ?_
        refine sv_callV hΓ (fun l => ct_X5_freePart l ((ly1 c (sC c nu) b)) nu n b j (nI (R + m)) np ((sm_ly1 c (sC c nu) b).BK hB0 ((up2_k _ _ _ (by decide)).trans (hsb.1 2 (by decide) (by decide))) ((up2_k _ _ _ (by decide)).trans (hsb.1 5 (by decide) (by decide))) ((up2_k _ _ _ (by decide)).trans (hsb.1 6 (by decide) (by decide))) ((up2_k _ _ _ (by decide)).trans (hsb.1 7 (by decide) (by decide)))) (by omega) ek (by omega) (fun a ha => (ht a ha).trans ((hsb.2 a (by omega)).1.symm.trans (up2_j _ _ _ (by omega)).symm)) (fun a ha => ((up2_j _ _ _ (by omega)).trans (hp a ha)).trans (hsb.2 a (by omega)).2.symm) hq1 hq4) wv_X5_78 vs_X5_freePart rfl m_10 rfl rfl (by decide) (Nat.le_of_ble_eq_true rfl) (Nat.le_of_ble_eq_true rfl) (Nat.le_of_ble_eq_true rfl) dX5_seat_83 rfl (fun r M' nx' p12 => ?_)
        obtain ⟨rfl, rfl, rfl⟩ := p12
        show SV E Γ 6 (mm (up2 ci' 11 b (nI (R + m))) cl cr dy) nx 0 0 86 [(5, .int (nI (R + m))), (4, .int (nI A)), (3, .int (nI j)), (0, .ref 10), (1, .int (nI b)), (2, .int (nI R))] [.int (fpF ((ly1 c (sC c nu) b)) b (nI (R + m)) np 0), .int (nI b), .ref 12]
        refine as_12 hΓ (b) rfl (by omega) dX5_seat_86 rfl ?_
        refine sv_iinc (v := nI (R + m + 1)) (lv' := [(5, .int (nI (R + m + 1))), (4, .int (nI A)), (3, .int (nI j)), (0, .ref 10), (1, .int (nI b)), (2, .int (nI R))]) hΓ dX5_seat_87 0 rfl (nx_inc rfl) (by decide) rfl rfl ?_
        refine sv_goto (pc' := 47) hΓ dX5_seat_90 (by decide) ?_
        by_cases hv : 0 ≤ fpF (ly1 c (sC c nu) b) b (nI (R + m)) np 0
        · refine sv_iload hΓ dX5_seat_47 0 rfl rfl ?_
          refine sv_iload hΓ dX5_seat_49 1 rfl rfl ?_
          refine sv_icmp_gt (tgt := 93) hΓ dX5_seat_51 (by decide) rfl (fun u13 => ?_) (fun u13 => ?_)
          · replace u13 : (nI A) < ((nI (R + m + 1)) : Int32) := u13
            exact sv_vret hΓ hQ dX5_seat_93 (Nat.le_of_ble_eq_true rfl) (Nat.le_of_ble_eq_true rfl) ⟨rfl, _, hsb.up, by rw [up2_k _ _ _ (by decide), up2_s, lyT, if_neg hk1, hR, hnp, sr_at (by omega) hno hv], by rw [up2_s, ly2, if_neg hk1, up2_s, lyT, if_neg hk1, hR, hnp, sr_at (by omega) hno hv], rfl, rfl⟩
          · replace u13 : ¬ ((nI A) < ((nI (R + m + 1)) : Int32)) := u13
            refine sv_aload_n hΓ dX5_seat_54 rfl 3 rfl rfl ?_
            refine g_X5_15_10 hΓ dX5_seat_55 rfl ?_
            refine sv_iload_n hΓ dX5_seat_58 rfl 4 rfl rfl ?_
            refine ai_12 hΓ (b) rfl (by omega) dX5_seat_59 rfl ?_
            show SV E Γ 6 (mm (up2 (up2 ci' 11 b (nI (R + m))) 12 b (fpF ((ly1 c (sC c nu) b)) b (nI (R + m)) np 0)) cl cr dy) nx 0 0 60 [(5, .int (nI (R + m + 1))), (4, .int (nI A)), (3, .int (nI j)), (0, .ref 10), (1, .int (nI b)), (2, .int (nI R))] [.int ((up2 (up2 ci' 11 b (nI (R + m))) 12 b (fpF ((ly1 c (sC c nu) b)) b (nI (R + m)) np 0)) 12 b)]
            rw [up2_s]
            refine sv_bipush (v := (-2)) hΓ dX5_seat_60 (by decide) rfl ?_
            refine sv_icmp_ne (tgt := 93) hΓ dX5_seat_62 (by decide) rfl (fun u14 => ?_) (fun u14 => absurd u14 (nn_2 hv))
            replace u14 : ¬ ((fpF ((ly1 c (sC c nu) b)) b (nI (R + m)) np 0) : Int32) = ((-2)) := u14
            exact sv_vret hΓ hQ dX5_seat_93 (Nat.le_of_ble_eq_true rfl) (Nat.le_of_ble_eq_true rfl) ⟨rfl, _, hsb.up, by rw [up2_k _ _ _ (by decide), up2_s, lyT, if_neg hk1, hR, hnp, sr_at (by omega) hno hv], by rw [up2_s, ly2, if_neg hk1, up2_s, lyT, if_neg hk1, hR, hnp, sr_at (by omega) hno hv], rfl, rfl⟩
        · exact SV_lv [0, 1, 2, 3, 4, 5] rfl (ih (m + 1) (by omega) _ hsb.up (by rw [up2_s]; exact (fp_n2 np 0 (by omega)).resolve_right hv) (fun q hq => if e : q = m then by rw [e]; exact hv else hno q (by omega)))
    exact SV_lv [0, 1, 2, 3, 4, 5] rfl (LP47 (A - R) 0 (by omega) ci1 hsb1 h12 (fun q hq => by omega))
  · replace u4 : ((kd (c 44 b)) : Int32) = ((-2)) := u4
    have hk0 : kd (ly1 c (sC c nu) b 44 b) < 0 := by rw [show ly1 c (sC c nu) b 44 b = c 44 b from rfl, u4]; decide
    exact sv_vret hΓ hQ dX5_seat_33 (Nat.le_of_ble_eq_true rfl) (Nat.le_of_ble_eq_true rfl) ⟨rfl, _, SB.rf.up, by rw [up2_k _ _ _ (by decide), up2_s, lyT, if_pos hk0, hR], by rw [up2_s, ly2, if_pos hk0, ly1, up2_s], rfl, rfl⟩
