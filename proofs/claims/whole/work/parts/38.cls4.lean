theorem kd_n2 {o : Int32} (h : ¬ kd o = -2) : ¬ kd o < 0 := by
  unfold kd at h ⊢
  split
  · decide
  · split
    · decide
    · split
      · decide
      · split
        · decide
        · split
          · decide
          · split
            · decide
            · split
              · decide
              · simp_all
theorem fl_T {c : aI} {a j : Nat} (h : kd (c 44 a) = nI j) (hj : j < 4) : fl c a = fT c j := by
  unfold fl fT
  rw [h, if_pos (nI_nn (by omega)), nI_clamp (by omega)]
theorem lt_mx {x y : Int32} (h : x = y) (h1 : 1 ≤ y) : (if x ≤ 1 then (1 : Int32) else x) = y := by
  subst h
  split
  · rename_i h2; exact Int32.le_antisymm h1 h2
  · rfl
theorem ne_1 {y : Int32} (h1 : 1 ≤ y) : ¬ y = 0 := fun e => absurd h1 (by rw [e]; decide)
/-- the tapes: q even: fed, odd: put -/
def tpn (q : Nat) : Nat := if q % 2 = 0 then 20 else 16
theorem m_tp {q : Nat} (hq : q < 8) {ci : aI} {cl : aL} {cr : Nat → Nat → Option Nat} {dy : aM} : mm ci cl cr dy (26 + 2 * q) = some (.inr (9, [.ref (27 + 2 * q), .int (ci (26 + 2 * q) 1)])) := by
  obtain rfl | rfl | rfl | rfl | rfl | rfl | rfl | rfl : q = 0 ∨ q = 1 ∨ q = 2 ∨ q = 3 ∨ q = 4 ∨ q = 5 ∨ q = 6 ∨ q = 7 := by omega
  all_goals rfl
theorem m_tn {q : Nat} (hq : q < 8) {ci : aI} {cl : aL} {cr : Nat → Nat → Option Nat} {dy : aM} : mm ci cl cr dy (27 + 2 * q) = some (.inl (1, tpn q, .inr (.inl (cl (27 + 2 * q))))) := by
  obtain rfl | rfl | rfl | rfl | rfl | rfl | rfl | rfl : q = 0 ∨ q = 1 ∨ q = 2 ∨ q = 3 ∨ q = 4 ∨ q = 5 ∨ q = 6 ∨ q = 7 := by omega
  all_goals rfl
theorem mm_tp {q : Nat} (hq : q < 8) {ci : aI} {cl : aL} {cr : Nat → Nat → Option Nat} {dy : aM} {v : Int32} : va_up (mm ci cl cr dy) (26 + 2 * q) (some (.inr (9, [.ref (27 + 2 * q), .int v]))) = mm (up2 ci (26 + 2 * q) 1 v) cl cr dy := by
  obtain rfl | rfl | rfl | rfl | rfl | rfl | rfl | rfl : q = 0 ∨ q = 1 ∨ q = 2 ∨ q = 3 ∨ q = 4 ∨ q = 5 ∨ q = 6 ∨ q = 7 := by omega
  · exact mm_i 25 1 rfl rfl
  · exact mm_i 27 1 rfl rfl
  · exact mm_i 29 1 rfl rfl
  · exact mm_i 31 1 rfl rfl
  · exact mm_i 33 1 rfl rfl
  · exact mm_i 35 1 rfl rfl
  · exact mm_i 37 1 rfl rfl
  · exact mm_i 39 1 rfl rfl
theorem mm_tn {q : Nat} (hq : q < 8) {ci : aI} {cl : aL} {cr : Nat → Nat → Option Nat} {dy : aM} {j : Nat} {v : Int64} : va_up (mm ci cl cr dy) (27 + 2 * q) (some (.inl (1, tpn q, .inr (.inl (vp_updL (cl (27 + 2 * q)) j v))))) = mm ci (up2 cl (27 + 2 * q) j v) cr dy := by
  obtain rfl | rfl | rfl | rfl | rfl | rfl | rfl | rfl : q = 0 ∨ q = 1 ∨ q = 2 ∨ q = 3 ∨ q = 4 ∨ q = 5 ∨ q = 6 ∨ q = 7 := by omega
  · exact mm_l 26 j rfl rfl
  · exact mm_l 28 j rfl rfl
  · exact mm_l 30 j rfl rfl
  · exact mm_l 32 j rfl rfl
  · exact mm_l 34 j rfl rfl
  · exact mm_l 36 j rfl rfl
  · exact mm_l 38 j rfl rfl
  · exact mm_l 40 j rfl rfl
theorem tpn_le {q : Nat} : tpn q ≤ 20 := by unfold tpn; split <;> omega
set_option maxRecDepth 100000 in
set_option maxHeartbeats 4000000 in
/-- size -/
theorem ct_X1_size {E : aG} (l : Launch)  {ci : Nat → Nat → Int32} {cl : Nat → Nat → Int64} {cr : Nat → Nat → Option Nat} {dy : aM} {nx : Nat}  : CT E l yX1_size cX1_size 1 (some .int) 0 [.ref 2] (mm ci cl cr dy) nx 0 0 (fun r M' nx' => r = some (.int (ci 2 1)) ∧ M' = mm ci cl cr dy ∧ nx = nx') := by
  refine CT_intro (by decide) (Nat.le_of_ble_eq_true rfl) (fun Γ hΓ hQ => ?_)
  replace hΓ : CK E RX1 cX1_size 1 (some .int) "size" 0 0 0 Γ := hΓ
  show SV E Γ 1 (mm ci cl cr dy) nx 0 0 0 [(0, .ref 2)] []
  refine sv_aload_n hΓ dX1_size_0 rfl 0 rfl rfl ?_
  refine g_X1_17_2 hΓ dX1_size_1 rfl ?_
  exact sv_iret hΓ hQ dX1_size_4 (Nat.le_of_ble_eq_true rfl) (Nat.le_of_ble_eq_true rfl) ⟨rfl, rfl, rfl⟩
set_option maxRecDepth 100000 in
set_option maxHeartbeats 4000000 in
/-- size -/
theorem ct_X1_sizeN {E : aG} (l : Launch) (n : Nat) {ci : Nat → Nat → Int32} {cl : Nat → Nat → Int64} {cr : Nat → Nat → Option Nat} {dy : aM} {nx : Nat} (hn : ci 2 1 = nI n) : CT E l yX1_size cX1_size 1 (some .int) 0 [.ref 2] (mm ci cl cr dy) nx 0 0 (fun r M' nx' => r = some (.int (nI n)) ∧ M' = mm ci cl cr dy ∧ nx = nx') := by
  refine CT_intro (by decide) (Nat.le_of_ble_eq_true rfl) (fun Γ hΓ hQ => ?_)
  replace hΓ : CK E RX1 cX1_size 1 (some .int) "size" 0 0 0 Γ := hΓ
  show SV E Γ 1 (mm ci cl cr dy) nx 0 0 0 [(0, .ref 2)] []
  refine sv_aload_n hΓ dX1_size_0 rfl 0 rfl rfl ?_
  refine g_X1_17_2 hΓ dX1_size_1 rfl ?_
  exact sv_iret hΓ hQ dX1_size_4 (Nat.le_of_ble_eq_true rfl) (Nat.le_of_ble_eq_true rfl) ⟨by rw [hn], rfl, rfl⟩
set_option maxRecDepth 100000 in
set_option maxHeartbeats 4000000 in
/-- isFull -/
theorem ct_X1_isFull {E : aG} (l : Launch) (n : Nat) {ci : Nat → Nat → Int32} {cl : Nat → Nat → Int64} {cr : Nat → Nat → Option Nat} {dy : aM} {nx : Nat} (hn : ci 2 1 = nI n) (hn6 : n ≤ 16) : CT E l yX1_isFull cX1_isFull 1 (some .boolean) 0 [.ref 2] (mm ci cl cr dy) nx 0 0 (fun r M' nx' => r = some (.int (bI (n = 16))) ∧ M' = mm ci cl cr dy ∧ nx = nx') := by
  refine CT_intro (by decide) (Nat.le_of_ble_eq_true rfl) (fun Γ hΓ hQ => ?_)
  replace hΓ : CK E RX1 cX1_isFull 1 (some .boolean) "isFull" 0 0 0 Γ := hΓ
  show SV E Γ 1 (mm ci cl cr dy) nx 0 0 0 [(0, .ref 2)] []
  refine sv_aload_n hΓ dX1_isFull_0 rfl 0 rfl rfl ?_
  refine g_X1_17_2 hΓ dX1_isFull_1 rfl ?_
  refine sv_bipush (v := 16) hΓ dX1_isFull_4 (by decide) rfl ?_
  refine sv_icmp_ne (tgt := 13) hΓ dX1_isFull_6 (by decide) rfl (fun u1 => ?_) (fun u1 => ?_)
  · refine sv_iconst (v := 0) hΓ dX1_isFull_13 (by decide) rfl ?_
    exact sv_zret hΓ hQ dX1_isFull_14 (Nat.le_of_ble_eq_true rfl) (Nat.le_of_ble_eq_true rfl) rfl ⟨by rw [bI_f (fun q => u1 (hn.trans ((nI_16 hn6).mpr q)))], rfl, rfl⟩
  · refine sv_iconst (v := 1) hΓ dX1_isFull_9 (by decide) rfl ?_
    refine sv_goto (pc' := 14) hΓ dX1_isFull_10 (by decide) ?_
    exact sv_zret hΓ hQ dX1_isFull_14 (Nat.le_of_ble_eq_true rfl) (Nat.le_of_ble_eq_true rfl) rfl ⟨by rw [bI_t ((nI_16 hn6).mp (hn.symm.trans u1))], rfl, rfl⟩
set_option maxRecDepth 100000 in
set_option maxHeartbeats 4000000 in
/-- has -/
theorem ct_X1_has {E : aG} (l : Launch) (a : Int32) (n : Nat) {ci : Nat → Nat → Int32} {cl : Nat → Nat → Int64} {cr : Nat → Nat → Option Nat} {dy : aM} {nx : Nat} (hn : ci 2 1 = nI n) (hn6 : n ≤ 16) : CT E l yX1_has cX1_has 2 (some .boolean) 0 [.ref 2, .int a] (mm ci cl cr dy) nx 0 0 (fun r M' nx' => r = some (.int (bI (AI n a))) ∧ M' = mm ci cl cr dy ∧ nx = nx') := by
  refine CT_intro (by decide) (Nat.le_of_ble_eq_true rfl) (fun Γ hΓ hQ => ?_)
  replace hΓ : CK E RX1 cX1_has 2 (some .boolean) "has" 0 0 0 Γ := hΓ
  show SV E Γ 2 (mm ci cl cr dy) nx 0 0 0 [(0, .ref 2), (1, .int a)] []
  refine sv_iload_n hΓ dX1_has_0 rfl 1 rfl rfl ?_
  refine sv_if_lt (tgt := 16) hΓ dX1_has_1 (by decide) rfl (fun u1 => ?_) (fun u1 => ?_)
  · refine sv_iconst (v := 0) hΓ dX1_has_16 (by decide) rfl ?_
    exact sv_zret hΓ hQ dX1_has_17 (Nat.le_of_ble_eq_true rfl) (Nat.le_of_ble_eq_true rfl) rfl ⟨by rw [bI_iff (act_i hn hn6).symm]; simp [bI, u1], rfl, rfl⟩
  · refine sv_iload_n hΓ dX1_has_4 rfl 1 rfl rfl ?_
    refine sv_aload_n hΓ dX1_has_5 rfl 0 rfl rfl ?_
    refine g_X1_17_2 hΓ dX1_has_6 rfl ?_
    refine sv_icmp_ge (tgt := 16) hΓ dX1_has_9 (by decide) rfl (fun u2 => ?_) (fun u2 => ?_)
    · refine sv_iconst (v := 0) hΓ dX1_has_16 (by decide) rfl ?_
      exact sv_zret hΓ hQ dX1_has_17 (Nat.le_of_ble_eq_true rfl) (Nat.le_of_ble_eq_true rfl) rfl ⟨by rw [bI_iff (act_i hn hn6).symm]; simp [bI, u1, u2], rfl, rfl⟩
    · refine sv_iconst (v := 1) hΓ dX1_has_12 (by decide) rfl ?_
      refine sv_goto (pc' := 17) hΓ dX1_has_13 (by decide) ?_
      exact sv_zret hΓ hQ dX1_has_17 (Nat.le_of_ble_eq_true rfl) (Nat.le_of_ble_eq_true rfl) rfl ⟨by rw [bI_iff (act_i hn hn6).symm]; simp [bI, u1, u2], rfl, rfl⟩
set_option maxRecDepth 100000 in
set_option maxHeartbeats 4000000 in
/-- get -/
theorem ct_X1_get {E : aG} (l : Launch) (a : Nat) (k : Nat) {ci : Nat → Nat → Int32} {cl : Nat → Nat → Int64} {cr : Nat → Nat → Option Nat} {dy : aM} {nx : Nat} (ha : a < 16) (hcr : cr 3 a = some k) : CT E l yX1_get cX1_get 2 (some (.object "GateMaker$Act")) 0 [.ref 2, .int (nI a)] (mm ci cl cr dy) nx 0 0 (fun r M' nx' => r = some (.ref k) ∧ M' = mm ci cl cr dy ∧ nx = nx') := by
  refine CT_intro (by decide) (Nat.le_of_ble_eq_true rfl) (fun Γ hΓ hQ => ?_)
  replace hΓ : CK E RX1 cX1_get 2 (some (.object "GateMaker$Act")) "get" 0 0 0 Γ := hΓ
  show SV E Γ 2 (mm ci cl cr dy) nx 0 0 0 [(0, .ref 2), (1, .int (nI a))] []
  refine sv_aload_n hΓ dX1_get_0 rfl 0 rfl rfl ?_
  refine g_X1_11_2 hΓ dX1_get_1 rfl ?_
  refine sv_iload_n hΓ dX1_get_4 rfl 1 rfl rfl ?_
  refine ar_3 hΓ (a) rfl (by omega) dX1_get_5 (v := .ref k) (rf_some hcr) rfl ?_
  exact sv_aret hΓ hQ dX1_get_6 (Nat.le_of_ble_eq_true rfl) (Nat.le_of_ble_eq_true rfl) ⟨rfl, rfl, rfl⟩
set_option maxRecDepth 100000 in
set_option maxHeartbeats 4000000 in
/-- add -/
theorem ct_X1_add {E : aG} (l : Launch) (n : Nat) (k : Nat) (fs : List Value) {ci : Nat → Nat → Int32} {cl : Nat → Nat → Int64} {cr : Nat → Nat → Option Nat} {dy : aM} {nx : Nat} (hn : ci 2 1 = nI n) (hn6 : n < 16) (h74 : 74 ≤ k) (hk : dy k = some (.inr (0, fs))) : CT E l yX1_add cX1_add 2 none 0 [.ref 2, .ref k] (mm ci cl cr dy) nx 0 0 (fun r M' nx' => r = none ∧ M' = mm (up2 ci 2 1 (nI (n + 1))) cl (up2 cr 3 n (some k)) dy ∧ nx = nx') := by
  refine CT_intro (by decide) (Nat.le_of_ble_eq_true rfl) (fun Γ hΓ hQ => ?_)
  replace hΓ : CK E RX1 cX1_add 2 none "add" 0 0 0 Γ := hΓ
  show SV E Γ 2 (mm ci cl cr dy) nx 0 0 0 [(0, .ref 2), (1, .ref k)] []
  refine sv_aload_n hΓ dX1_add_0 rfl 0 rfl rfl ?_
  refine g_X1_11_2 hΓ dX1_add_1 rfl ?_
  refine sv_aload_n hΓ dX1_add_4 rfl 0 rfl rfl ?_
  refine g_X1_17_2 hΓ dX1_add_5 rfl ?_
  refine sv_aload_n hΓ dX1_add_8 rfl 1 rfl rfl ?_
  refine ap_3 hΓ (n) hn (by omega) ⟨rfl, Or.inl rfl, (mm_hi h74).trans hk⟩ dX1_add_9 rfl ?_
  refine sv_aload_n hΓ dX1_add_10 rfl 0 rfl rfl ?_
  refine sv_dup hΓ dX1_add_11 rfl rfl ?_
  refine g_X1_17_2 hΓ dX1_add_12 rfl ?_
  refine sv_iconst (v := 1) hΓ dX1_add_15 (by decide) rfl ?_
  refine sv_iaddE (v := nI (n + 1)) hΓ dX1_add_16 (nx_add hn rfl) rfl ?_
  refine p_X1_17_2 hΓ dX1_add_17 rfl ?_
  exact sv_vret hΓ hQ dX1_add_20 (Nat.le_of_ble_eq_true rfl) (Nat.le_of_ble_eq_true rfl) ⟨rfl, rfl, rfl⟩
set_option maxRecDepth 100000 in
set_option maxHeartbeats 4000000 in
/-- removeLast -/
theorem ct_X1_removeLast {E : aG} (l : Launch) (n : Nat) {ci : Nat → Nat → Int32} {cl : Nat → Nat → Int64} {cr : Nat → Nat → Option Nat} {dy : aM} {nx : Nat} (hn : ci 2 1 = nI (n + 1)) : CT E l yX1_removeLast cX1_removeLast 1 none 0 [.ref 2] (mm ci cl cr dy) nx 0 0 (fun r M' nx' => r = none ∧ M' = mm (up2 ci 2 1 (nI n)) cl cr dy ∧ nx = nx') := by
  refine CT_intro (by decide) (Nat.le_of_ble_eq_true rfl) (fun Γ hΓ hQ => ?_)
  replace hΓ : CK E RX1 cX1_removeLast 1 none "removeLast" 0 0 0 Γ := hΓ
  show SV E Γ 1 (mm ci cl cr dy) nx 0 0 0 [(0, .ref 2)] []
  refine sv_aload_n hΓ dX1_removeLast_0 rfl 0 rfl rfl ?_
  refine sv_dup hΓ dX1_removeLast_1 rfl rfl ?_
  refine g_X1_17_2 hΓ dX1_removeLast_2 rfl ?_
  refine sv_iconst (v := 1) hΓ dX1_removeLast_5 (by decide) rfl ?_
  refine sv_isubE (v := nI ((n + 1) - 1)) hΓ dX1_removeLast_6 (nx_subE hn rfl (by omega)) rfl ?_
  refine p_X1_17_2 hΓ dX1_removeLast_7 rfl ?_
  exact sv_vret hΓ hQ dX1_removeLast_10 (Nat.le_of_ble_eq_true rfl) (Nat.le_of_ble_eq_true rfl) ⟨rfl, rfl, rfl⟩
set_option maxRecDepth 100000 in
set_option maxHeartbeats 4000000 in
/-- operands -/
theorem ct_X1_operands {E : aG} (l : Launch) (c : aI) (nu : Nat → Int64) (n : Nat) {ci : Nat → Nat → Int32} {cl : Nat → Nat → Int64} {cr : Nat → Nat → Option Nat} {dy : aM} {nx : Nat} (hAC : AC c nu cr dy n) (hn : ci 2 1 = nI n) (hn6 : n ≤ 16) : CT E l yX1_operands cX1_operands 3 (some .int) 1 [.ref 2] (mm ci cl cr dy) nx 0 0 (fun r M' nx' => r = some (.int (nI (osN c n))) ∧ M' = mm ci cl cr dy ∧ nx = nx') := by
  refine CT_intro (by decide) (Nat.le_of_ble_eq_true rfl) (fun Γ hΓ hQ => ?_)
  replace hΓ : CK E RX1 cX1_operands 3 (some .int) "operands" 1 0 0 Γ := hΓ
  show SV E Γ 3 (mm ci cl cr dy) nx 0 0 0 [(0, .ref 2)] []
  refine sv_iconst (v := 0) hΓ dX1_operands_0 (by decide) rfl ?_
  refine sv_istore_n (lv' := [(1, .int 0), (0, .ref 2)]) hΓ dX1_operands_1 rfl (by decide) rfl rfl ?_
  refine sv_iconst (v := 0) hΓ dX1_operands_2 (by decide) rfl ?_
  refine sv_istore_n (lv' := [(2, .int 0), (1, .int 0), (0, .ref 2)]) hΓ dX1_operands_3 rfl (by decide) rfl rfl ?_
  have LP4 : ∀ kq a : Nat, a + kq = n → SV E Γ 3 (mm ci cl cr dy) nx 0 0 4 [(2, .int (nI a)), (1, .int (nI (osN c a))), (0, .ref 2)] [] := by
    intro kq
    induction kq with
    | zero =>
      intro a ha
      have ea : a = n := by omega
      refine sv_iload_n hΓ dX1_operands_4 rfl 0 rfl rfl ?_
      refine sv_aload_n hΓ dX1_operands_5 rfl 2 rfl rfl ?_
      refine g_X1_17_2 hΓ dX1_operands_6 rfl ?_
      refine sv_icmp_ge (tgt := 30) hΓ dX1_operands_9 (by decide) rfl (fun u1 => ?_) (fun u1 => absurd (hn ▸ nI_le (by omega) (by omega)) u1)
      refine sv_iload_n hΓ dX1_operands_30 rfl 1 rfl rfl ?_
      exact sv_iret hΓ hQ dX1_operands_31 (Nat.le_of_ble_eq_true rfl) (Nat.le_of_ble_eq_true rfl) ⟨by rw [ea], rfl, rfl⟩
    | succ kq ih =>
      intro a ha
      refine sv_iload_n hΓ dX1_operands_4 rfl 0 rfl rfl ?_
      refine sv_aload_n hΓ dX1_operands_5 rfl 2 rfl rfl ?_
      refine g_X1_17_2 hΓ dX1_operands_6 rfl ?_
      refine sv_icmp_ge (tgt := 30) hΓ dX1_operands_9 (by decide) rfl (fun u2 => absurd u2 (hn ▸ nI_ge (by omega) (by omega))) (fun u2 => ?_)
      refine sv_iload_n hΓ dX1_operands_12 rfl 1 rfl rfl ?_
      refine sv_aload_n hΓ dX1_operands_13 rfl 2 rfl rfl ?_
      refine g_X1_11_2 hΓ dX1_operands_14 rfl ?_
      refine sv_iload_n hΓ dX1_operands_17 rfl 0 rfl rfl ?_
      obtain ⟨kg3, sg3, hrg3, hAg3⟩ := hAC a (by omega)
      refine ar_3 hΓ (a) rfl (by omega) dX1_operands_18 (v := .ref kg3) (rf_some hrg3) rfl ?_
      refine sv_callV hΓ (fun l => ct_X0_operands l c nu a kg3 sg3 hAg3) wv_X1_21 vs_X0_operands rfl hAg3.m rfl rfl (by decide) (Nat.le_of_ble_eq_true rfl) (Nat.le_of_ble_eq_true rfl) (Nat.le_of_ble_eq_true rfl) dX1_operands_19 rfl (fun r M' nx' p4 => ?_)
      obtain ⟨rfl, rfl, rfl⟩ := p4
      show SV E Γ 3 (mm ci cl cr dy) nx 0 0 22 [(2, .int (nI a)), (1, .int (nI (osN c a))), (0, .ref 2)] [.int (nI (opN c a 3)), .int (nI (osN c a))]
      refine sv_iaddE (v := nI ((osN c a) + (opN c a 3))) hΓ dX1_operands_22 (nx_add rfl rfl) rfl ?_
      refine sv_istore_n (lv' := [(1, .int (nI ((osN c a) + (opN c a 3)))), (2, .int (nI a)), (0, .ref 2)]) hΓ dX1_operands_23 rfl (by decide) rfl rfl ?_
      refine sv_iinc (v := nI (a + 1)) (lv' := [(2, .int (nI (a + 1))), (1, .int (nI ((osN c a) + (opN c a 3)))), (0, .ref 2)]) hΓ dX1_operands_24 1 rfl (nx_inc rfl) (by decide) rfl rfl ?_
      refine sv_goto (pc' := 4) hΓ dX1_operands_27 (by decide) ?_
      have q := ih (a + 1) (by omega)
      exact SV_lv [0, 1, 2] rfl q
  exact SV_lv [0, 1, 2] rfl (LP4 n 0 (by omega))
set_option maxRecDepth 100000 in
set_option maxHeartbeats 4000000 in
/-- lengthOf -/
theorem ct_X9_lengthOf {E : aG} (l : Launch) (c : aI) (nu : Nat → Int64) (a : Nat) (k : Nat) (s : Nat) {ci : Nat → Nat → Int32} {cl : Nat → Nat → Int64} {cr : Nat → Nat → Option Nat} {dy : aM} {nx : Nat} (hA : AT c nu dy a k s) (hST : ST c ci) : CT E l yX9_lengthOf cX9_lengthOf 3 (some .int) 1 [.ref 4, .ref k] (mm ci cl cr dy) nx 0 0 (fun r M' nx' => r = some (.int (ln c a)) ∧ M' = mm ci cl cr dy ∧ nx = nx') := by
  refine CT_intro (by decide) (Nat.le_of_ble_eq_true rfl) (fun Γ hΓ hQ => ?_)
  replace hΓ : CK E RX9 cX9_lengthOf 3 (some .int) "lengthOf" 1 0 0 Γ := hΓ
  show SV E Γ 3 (mm ci cl cr dy) nx 0 0 0 [(0, .ref 4), (1, .ref k)] []
  refine sv_aload_n hΓ dX9_lengthOf_0 rfl 1 rfl rfl ?_
  refine gt_X9_22 hΓ hA.m rfl dX9_lengthOf_1 rfl ?_
  refine sv_if_ne (tgt := 9) hΓ dX9_lengthOf_4 (by decide) rfl (fun u1 => ?_) (fun u1 => ?_)
  · refine sv_aload_n hΓ dX9_lengthOf_9 rfl 1 rfl rfl ?_
    refine sv_callV hΓ (fun l => ct_X0_kind l c nu a k s hA) wv_X9_28 vs_X0_kind rfl hA.m rfl rfl (by decide) (Nat.le_of_ble_eq_true rfl) (Nat.le_of_ble_eq_true rfl) (Nat.le_of_ble_eq_true rfl) dX9_lengthOf_10 rfl (fun r M' nx' p2 => ?_)
    obtain ⟨rfl, rfl, rfl⟩ := p2
    show SV E Γ 3 (mm ci cl cr dy) nx 0 0 13 [(0, .ref 4), (1, .ref k)] [.int (kd (c 44 a))]
    refine sv_istore_n (lv' := [(2, .int (kd (c 44 a))), (0, .ref 4), (1, .ref k)]) hΓ dX9_lengthOf_13 rfl (by decide) rfl rfl ?_
    refine sv_iload_n hΓ dX9_lengthOf_14 rfl 0 rfl rfl ?_
    refine sv_bipush (v := (-2)) hΓ dX9_lengthOf_15 (by decide) rfl ?_
    refine sv_icmp_ne (tgt := 24) hΓ dX9_lengthOf_17 (by decide) rfl (fun u3 => ?_) (fun u3 => ?_)
    · obtain ⟨j, hj, ej⟩ := kd_in _ (kd_n2 u3)
      refine sv_aload_n hΓ dX9_lengthOf_24 rfl 1 rfl rfl ?_
      refine g_X9_15_4 hΓ dX9_lengthOf_25 rfl ?_
      refine sv_iload_n hΓ dX9_lengthOf_28 rfl 0 rfl rfl ?_
      refine ai_6 hΓ (j) ej hj dX9_lengthOf_29 rfl ?_
      exact sv_iret hΓ hQ dX9_lengthOf_30 (Nat.le_of_ble_eq_true rfl) (Nat.le_of_ble_eq_true rfl) ⟨by rw [ln, if_neg (kd_n2 u3), ej, nI_clamp (by omega), (hST j hj).2.1], rfl, rfl⟩
    · refine sv_iconst (v := 1) hΓ dX9_lengthOf_20 (by decide) rfl ?_
      refine sv_goto (pc' := 30) hΓ dX9_lengthOf_21 (by decide) ?_
      exact sv_iret hΓ hQ dX9_lengthOf_30 (Nat.le_of_ble_eq_true rfl) (Nat.le_of_ble_eq_true rfl) ⟨by rw [ln, u3, if_pos (by decide), if_neg u1], rfl, rfl⟩
  · refine sv_iconst (v := 0) hΓ dX9_lengthOf_7 (by decide) rfl ?_
    exact sv_iret hΓ hQ dX9_lengthOf_8 (Nat.le_of_ble_eq_true rfl) (Nat.le_of_ble_eq_true rfl) ⟨by rw [ln, u1, if_pos (by decide), if_pos rfl], rfl, rfl⟩
set_option maxRecDepth 100000 in
set_option maxHeartbeats 4000000 in
/-- filledTicks -/
theorem ct_X9_filledTicks {E : aG} (l : Launch) (c : aI) (j : Nat) {ci : Nat → Nat → Int32} {cl : Nat → Nat → Int64} {cr : Nat → Nat → Option Nat} {dy : aM} {nx : Nat} (hST : ST c ci) (hj : j < 4) : CT E l yX9_filledTicks cX9_filledTicks 2 (some .int) 0 [.ref 4, .int (nI j)] (mm ci cl cr dy) nx 0 0 (fun r M' nx' => r = some (.int (fT c j)) ∧ M' = mm ci cl cr dy ∧ nx = nx') := by
  refine CT_intro (by decide) (Nat.le_of_ble_eq_true rfl) (fun Γ hΓ hQ => ?_)
  replace hΓ : CK E RX9 cX9_filledTicks 2 (some .int) "filledTicks" 0 0 0 Γ := hΓ
  show SV E Γ 2 (mm ci cl cr dy) nx 0 0 0 [(0, .ref 4), (1, .int (nI j))] []
  refine sv_aload_n hΓ dX9_filledTicks_0 rfl 0 rfl rfl ?_
  refine g_X9_18_4 hΓ dX9_filledTicks_1 rfl ?_
  refine sv_iload_n hΓ dX9_filledTicks_4 rfl 1 rfl rfl ?_
  refine az_7 hΓ (j) rfl (by omega) dX9_filledTicks_5 rfl ?_
  refine sv_if_eq (tgt := 13) hΓ dX9_filledTicks_6 (by decide) rfl (fun u1 => ?_) (fun u1 => ?_)
  · refine sv_aload_n hΓ dX9_filledTicks_13 rfl 0 rfl rfl ?_
    refine g_X9_15_4 hΓ dX9_filledTicks_14 rfl ?_
    refine sv_iload_n hΓ dX9_filledTicks_17 rfl 1 rfl rfl ?_
    refine ai_6 hΓ (j) rfl (by omega) dX9_filledTicks_18 rfl ?_
    exact sv_iret hΓ hQ dX9_filledTicks_19 (Nat.le_of_ble_eq_true rfl) (Nat.le_of_ble_eq_true rfl) ⟨by rw [fT, ← (hST j hj).2.2, if_pos u1, (hST j hj).2.1], rfl, rfl⟩
  · refine sv_iconst (v := 1) hΓ dX9_filledTicks_9 (by decide) rfl ?_
    refine sv_goto (pc' := 19) hΓ dX9_filledTicks_10 (by decide) ?_
    exact sv_iret hΓ hQ dX9_filledTicks_19 (Nat.le_of_ble_eq_true rfl) (Nat.le_of_ble_eq_true rfl) ⟨by rw [fT, ← (hST j hj).2.2, if_neg u1], rfl, rfl⟩
set_option maxRecDepth 100000 in
set_option maxHeartbeats 4000000 in
/-- leastTicks -/
theorem ct_X9_leastTicks {E : aG} (l : Launch) (c : aI) (nu : Nat → Int64) (n : Nat) (j : Nat) {ci : Nat → Nat → Int32} {cl : Nat → Nat → Int64} {cr : Nat → Nat → Option Nat} {dy : aM} {nx : Nat} (hAC : AC c nu cr dy n) (hn : ci 2 1 = nI n) (hn6 : n ≤ 16) (hST : ST c ci) (hj : j < 4) (hp1 : 1 ≤ c 49 j) : CT E l yX9_leastTicks cX9_leastTicks 5 (some .int) 1 [.ref 4, .int (nI j), .ref 2] (mm ci cl cr dy) nx 0 0 (fun r M' nx' => r = some (.int (flB c n j)) ∧ M' = mm ci cl cr dy ∧ nx = nx') := by
  refine CT_intro (by decide) (Nat.le_of_ble_eq_true rfl) (fun Γ hΓ hQ => ?_)
  replace hΓ : CK E RX9 cX9_leastTicks 5 (some .int) "leastTicks" 1 0 0 Γ := hΓ
  show SV E Γ 5 (mm ci cl cr dy) nx 0 0 0 [(0, .ref 4), (1, .int (nI j)), (2, .ref 2)] []
  refine sv_iconst (v := 0) hΓ dX9_leastTicks_0 (by decide) rfl ?_
  refine sv_istore_n (lv' := [(3, .int 0), (0, .ref 4), (1, .int (nI j)), (2, .ref 2)]) hΓ dX9_leastTicks_1 rfl (by decide) rfl rfl ?_
  refine sv_iconst (v := 0) hΓ dX9_leastTicks_2 (by decide) rfl ?_
  refine sv_istore (lv' := [(4, .int 0), (3, .int 0), (0, .ref 4), (1, .int (nI j)), (2, .ref 2)]) hΓ dX9_leastTicks_3 (by decide) rfl rfl ?_
  have LP5 : ∀ kq a : Nat, a + kq = n → SV E Γ 5 (mm ci cl cr dy) nx 0 0 5 [(4, .int (nI a)), (3, .int (fdF c (nI j) a)), (0, .ref 4), (1, .int (nI j)), (2, .ref 2)] [] := by
    intro kq
    induction kq with
    | zero =>
      intro a ha
      have ea : a = n := by omega
      refine sv_iload hΓ dX9_leastTicks_5 0 rfl rfl ?_
      refine sv_aload_n hΓ dX9_leastTicks_7 rfl 4 rfl rfl ?_
      refine sv_callV hΓ (fun l => ct_X1_sizeN l n hn) wv_X9_32 vs_X1_size rfl m_2 rfl rfl (by decide) (Nat.le_of_ble_eq_true rfl) (Nat.le_of_ble_eq_true rfl) (Nat.le_of_ble_eq_true rfl) dX9_leastTicks_8 rfl (fun r M' nx' p1 => ?_)
      obtain ⟨rfl, rfl, rfl⟩ := p1
      show SV E Γ 5 (mm ci cl cr dy) nx 0 0 11 [(4, .int (nI a)), (3, .int (fdF c (nI j) a)), (0, .ref 4), (1, .int (nI j)), (2, .ref 2)] [.int (nI n), .int (nI a)]
      refine sv_icmp_ge (tgt := 41) hΓ dX9_leastTicks_11 (by decide) rfl (fun u2 => ?_) (fun u2 => absurd (nI_le (by omega) (by omega)) u2)
      refine sv_iconst (v := 1) hΓ dX9_leastTicks_41 (by decide) rfl ?_
      refine sv_aload_n hΓ dX9_leastTicks_42 rfl 2 rfl rfl ?_
      refine g_X9_9_4 hΓ dX9_leastTicks_43 rfl ?_
      refine sv_iload_n hΓ dX9_leastTicks_46 rfl 3 rfl rfl ?_
      refine ai_5 hΓ (j) rfl (by omega) dX9_leastTicks_47 rfl ?_
      refine sv_mmax hΓ ⟨tb_610, tb_519, tb_13, tb_520⟩ (by decide) (Nat.le_of_ble_eq_true rfl) (Nat.le_of_ble_eq_true rfl) (Nat.le_of_ble_eq_true rfl) dX9_leastTicks_48 rfl ?_
      rw [show (if ci 5 j ≤ 1 then (1 : Int32) else ci 5 j) = c 49 j from lt_mx (hST j hj).1 hp1]
      refine sv_istore (lv' := [(4, .int (c 49 j)), (3, .int (fdF c (nI j) a)), (0, .ref 4), (1, .int (nI j)), (2, .ref 2)]) hΓ dX9_leastTicks_51 (by decide) rfl rfl ?_
      refine sv_iload_n hΓ dX9_leastTicks_53 rfl 1 rfl rfl ?_
      refine sv_iload hΓ dX9_leastTicks_54 0 rfl rfl ?_
      refine sv_iadd hΓ dX9_leastTicks_56 rfl ?_
      refine sv_iconst (v := 1) hΓ dX9_leastTicks_57 (by decide) rfl ?_
      refine sv_isub hΓ dX9_leastTicks_58 rfl ?_
      refine sv_iload hΓ dX9_leastTicks_59 0 rfl rfl ?_
      refine sv_idiv hΓ dX9_leastTicks_61 (ne_1 hp1) rfl ?_
      exact sv_iret hΓ hQ dX9_leastTicks_62 (Nat.le_of_ble_eq_true rfl) (Nat.le_of_ble_eq_true rfl) ⟨by rw [ea], rfl, rfl⟩
    | succ kq ih =>
      intro a ha
      refine sv_iload hΓ dX9_leastTicks_5 0 rfl rfl ?_
      refine sv_aload_n hΓ dX9_leastTicks_7 rfl 4 rfl rfl ?_
      refine sv_callV hΓ (fun l => ct_X1_sizeN l n hn) wv_X9_32 vs_X1_size rfl m_2 rfl rfl (by decide) (Nat.le_of_ble_eq_true rfl) (Nat.le_of_ble_eq_true rfl) (Nat.le_of_ble_eq_true rfl) dX9_leastTicks_8 rfl (fun r M' nx' p3 => ?_)
      obtain ⟨rfl, rfl, rfl⟩ := p3
      show SV E Γ 5 (mm ci cl cr dy) nx 0 0 11 [(4, .int (nI a)), (3, .int (fdF c (nI j) a)), (0, .ref 4), (1, .int (nI j)), (2, .ref 2)] [.int (nI n), .int (nI a)]
      refine sv_icmp_ge (tgt := 41) hΓ dX9_leastTicks_11 (by decide) rfl (fun u4 => absurd u4 (nI_ge (by omega) (by omega))) (fun u4 => ?_)
      refine sv_aload_n hΓ dX9_leastTicks_14 rfl 4 rfl rfl ?_
      refine sv_iload hΓ dX9_leastTicks_15 0 rfl rfl ?_
      obtain ⟨kg5, sg5, hrg5, hAg5⟩ := hAC a (by omega)
      refine sv_callV hΓ (fun l => ct_X1_get l a kg5 (by omega) hrg5) wv_X9_37 vs_X1_get rfl m_2 rfl rfl (by decide) (Nat.le_of_ble_eq_true rfl) (Nat.le_of_ble_eq_true rfl) (Nat.le_of_ble_eq_true rfl) dX9_leastTicks_17 rfl (fun r M' nx' p6 => ?_)
      obtain ⟨rfl, rfl, rfl⟩ := p6
      show SV E Γ 5 (mm ci cl cr dy) nx 0 0 20 [(4, .int (nI a)), (3, .int (fdF c (nI j) a)), (0, .ref 4), (1, .int (nI j)), (2, .ref 2)] [.ref kg5]
      refine sv_callV hΓ (fun l => ct_X0_kind l c nu a kg5 sg5 hAg5) wv_X9_28 vs_X0_kind rfl hAg5.m rfl rfl (by decide) (Nat.le_of_ble_eq_true rfl) (Nat.le_of_ble_eq_true rfl) (Nat.le_of_ble_eq_true rfl) dX9_leastTicks_20 rfl (fun r M' nx' p7 => ?_)
      obtain ⟨rfl, rfl, rfl⟩ := p7
      show SV E Γ 5 (mm ci cl cr dy) nx 0 0 23 [(4, .int (nI a)), (3, .int (fdF c (nI j) a)), (0, .ref 4), (1, .int (nI j)), (2, .ref 2)] [.int (kd (c 44 a))]
      refine sv_iload_n hΓ dX9_leastTicks_23 rfl 3 rfl rfl ?_
      refine sv_icmp_ne (tgt := 35) hΓ dX9_leastTicks_24 (by decide) rfl (fun u8 => ?_) (fun u8 => ?_)
      · refine sv_iinc (v := nI (a + 1)) (lv' := [(4, .int (nI (a + 1))), (3, .int (fdF c (nI j) a)), (0, .ref 4), (1, .int (nI j)), (2, .ref 2)]) hΓ dX9_leastTicks_35 0 rfl (nx_inc rfl) (by decide) rfl rfl ?_
        refine sv_goto (pc' := 5) hΓ dX9_leastTicks_38 (by decide) ?_
        have q := ih (a + 1) (by omega)
        rw [show fdF c (nI j) (a + 1) = fdF c (nI j) a from by simp only [fdF]; rw [if_neg u8]; exact Int32.add_zero _] at q
        exact SV_lv [0, 1, 2, 3, 4] rfl q
      · refine sv_iload_n hΓ dX9_leastTicks_27 rfl 1 rfl rfl ?_
        refine sv_aload_n hΓ dX9_leastTicks_28 rfl 2 rfl rfl ?_
        refine sv_iload_n hΓ dX9_leastTicks_29 rfl 3 rfl rfl ?_
        refine sv_callV hΓ (fun l => ct_X9_filledTicks l c j hST (by omega)) wv_X9_41 vs_X9_filledTicks rfl m_4 rfl rfl (by decide) (Nat.le_of_ble_eq_true rfl) (Nat.le_of_ble_eq_true rfl) (Nat.le_of_ble_eq_true rfl) dX9_leastTicks_30 rfl (fun r M' nx' p9 => ?_)
        obtain ⟨rfl, rfl, rfl⟩ := p9
        show SV E Γ 5 (mm ci cl cr dy) nx 0 0 33 [(4, .int (nI a)), (3, .int (fdF c (nI j) a)), (0, .ref 4), (1, .int (nI j)), (2, .ref 2)] [.int (fT c j), .int (fdF c (nI j) a)]
        refine sv_iadd hΓ dX9_leastTicks_33 rfl ?_
        refine sv_istore_n (lv' := [(3, .int ((fdF c (nI j) a) + (fT c j))), (4, .int (nI a)), (0, .ref 4), (1, .int (nI j)), (2, .ref 2)]) hΓ dX9_leastTicks_34 rfl (by decide) rfl rfl ?_
        refine sv_iinc (v := nI (a + 1)) (lv' := [(4, .int (nI (a + 1))), (3, .int ((fdF c (nI j) a) + (fT c j))), (0, .ref 4), (1, .int (nI j)), (2, .ref 2)]) hΓ dX9_leastTicks_35 1 rfl (nx_inc rfl) (by decide) rfl rfl ?_
        refine sv_goto (pc' := 5) hΓ dX9_leastTicks_38 (by decide) ?_
        have q := ih (a + 1) (by omega)
        rw [show fdF c (nI j) (a + 1) = (fdF c (nI j) a) + (fT c j) from by simp only [fdF]; rw [if_pos u8, fl_T u8 hj]] at q
        exact SV_lv [0, 1, 2, 3, 4] rfl q
  exact SV_lv [0, 1, 2, 3, 4] rfl (LP5 n 0 (by omega))
set_option maxRecDepth 100000 in
set_option maxHeartbeats 4000000 in
/-- size -/
theorem ct_X10_size {E : aG} (l : Launch) (q : Nat) {ci : Nat → Nat → Int32} {cl : Nat → Nat → Int64} {cr : Nat → Nat → Option Nat} {dy : aM} {nx : Nat} (hq : q < 8) : CT E l yX10_size cX10_size 1 (some .int) 0 [.ref (26 + 2 * q)] (mm ci cl cr dy) nx 0 0 (fun r M' nx' => r = some (.int (ci (26 + 2 * q) 1)) ∧ M' = mm ci cl cr dy ∧ nx = nx') := by
  refine CT_intro (by decide) (Nat.le_of_ble_eq_true rfl) (fun Γ hΓ hQ => ?_)
  replace hΓ : CK E RX10 cX10_size 1 (some .int) "size" 0 0 0 Γ := hΓ
  show SV E Γ 1 (mm ci cl cr dy) nx 0 0 0 [(0, .ref (26 + 2 * q))] []
  refine sv_aload_n hΓ dX10_size_0 rfl 0 rfl rfl ?_
  refine gt_X10_7 hΓ (m_tp hq) rfl dX10_size_1 rfl ?_
  exact sv_iret hΓ hQ dX10_size_4 (Nat.le_of_ble_eq_true rfl) (Nat.le_of_ble_eq_true rfl) ⟨rfl, rfl, rfl⟩
set_option maxRecDepth 100000 in
set_option maxHeartbeats 4000000 in
/-- isFull -/
theorem ct_X10_isFull {E : aG} (l : Launch) (q : Nat) {ci : Nat → Nat → Int32} {cl : Nat → Nat → Int64} {cr : Nat → Nat → Option Nat} {dy : aM} {nx : Nat} (hq : q < 8) : CT E l yX10_isFull cX10_isFull 1 (some .boolean) 0 [.ref (26 + 2 * q)] (mm ci cl cr dy) nx 0 0 (fun r M' nx' => r = some (.int (bI (ci (26 + 2 * q) 1 = nI (tpn q)))) ∧ M' = mm ci cl cr dy ∧ nx = nx') := by
  refine CT_intro (by decide) (Nat.le_of_ble_eq_true rfl) (fun Γ hΓ hQ => ?_)
  replace hΓ : CK E RX10 cX10_isFull 1 (some .boolean) "isFull" 0 0 0 Γ := hΓ
  show SV E Γ 1 (mm ci cl cr dy) nx 0 0 0 [(0, .ref (26 + 2 * q))] []
  refine sv_aload_n hΓ dX10_isFull_0 rfl 0 rfl rfl ?_
  refine gt_X10_7 hΓ (m_tp hq) rfl dX10_isFull_1 rfl ?_
  refine sv_aload_n hΓ dX10_isFull_4 rfl 0 rfl rfl ?_
  refine gt_X10_13 hΓ (m_tp hq) rfl dX10_isFull_5 rfl ?_
  refine sv_alen (t := 1) hΓ rfl dX10_isFull_8 (m_tn hq) (v := nI (tpn q)) rfl rfl ?_
  refine sv_icmp_ne (tgt := 16) hΓ dX10_isFull_9 (by decide) rfl (fun u1 => ?_) (fun u1 => ?_)
  · refine sv_iconst (v := 0) hΓ dX10_isFull_16 (by decide) rfl ?_
    exact sv_zret hΓ hQ dX10_isFull_17 (Nat.le_of_ble_eq_true rfl) (Nat.le_of_ble_eq_true rfl) rfl ⟨by simp [bI, u1], rfl, rfl⟩
  · refine sv_iconst (v := 1) hΓ dX10_isFull_12 (by decide) rfl ?_
    refine sv_goto (pc' := 17) hΓ dX10_isFull_13 (by decide) ?_
    exact sv_zret hΓ hQ dX10_isFull_17 (Nat.le_of_ble_eq_true rfl) (Nat.le_of_ble_eq_true rfl) rfl ⟨by simp [bI, u1], rfl, rfl⟩
set_option maxRecDepth 100000 in
set_option maxHeartbeats 4000000 in
/-- get -/
theorem ct_X10_get {E : aG} (l : Launch) (q : Nat) (j : Nat) {ci : Nat → Nat → Int32} {cl : Nat → Nat → Int64} {cr : Nat → Nat → Option Nat} {dy : aM} {nx : Nat} (hq : q < 8) (hj : j < tpn q) : CT E l yX10_get cX10_get 2 (some .long) 0 [.ref (26 + 2 * q), .int (nI j)] (mm ci cl cr dy) nx 0 0 (fun r M' nx' => r = some (.long (cl (27 + 2 * q) j)) ∧ M' = mm ci cl cr dy ∧ nx = nx') := by
  refine CT_intro (by decide) (Nat.le_of_ble_eq_true rfl) (fun Γ hΓ hQ => ?_)
  replace hΓ : CK E RX10 cX10_get 2 (some .long) "get" 0 0 0 Γ := hΓ
  have h20 := tpn_le (q := q)
  show SV E Γ 2 (mm ci cl cr dy) nx 0 0 0 [(0, .ref (26 + 2 * q)), (1, .int (nI j))] []
  refine sv_aload_n hΓ dX10_get_0 rfl 0 rfl rfl ?_
  refine gt_X10_13 hΓ (m_tp hq) rfl dX10_get_1 rfl ?_
  refine sv_iload_n hΓ dX10_get_4 rfl 1 rfl rfl ?_
  refine sv_lald hΓ dX10_get_5 (m_tn hq) (vp_in_nI hj (by omega)) rfl ?_
  rw [nI_clamp (by omega)]
  show SV E Γ 2 (mm ci cl cr dy) nx 0 0 6 [(0, .ref (26 + 2 * q)), (1, .int (nI j))] [.long ((cl (27 + 2 * q)) j)]
  exact sv_lret hΓ hQ dX10_get_6 (Nat.le_of_ble_eq_true rfl) (Nat.le_of_ble_eq_true rfl) ⟨rfl, rfl, rfl⟩
set_option maxRecDepth 100000 in
theorem ct_X10_clear {E : aG} (l : Launch) (q : Nat) {ci : Nat → Nat → Int32} {cl : Nat → Nat → Int64} {cr : Nat → Nat → Option Nat} {dy : aM} {nx : Nat} (hq : q < 8) : CT E l yX10_clear cX10_clear 1 none 0 [.ref (26 + 2 * q)] (mm ci cl cr dy) nx 0 0 (fun r M' nx' => r = none ∧ M' = mm (up2 ci (26 + 2 * q) 1 0) cl cr dy ∧ nx = nx') := by
  refine CT_intro (by decide) (Nat.le_of_ble_eq_true rfl) (fun Γ hΓ hQ => ?_)
  replace hΓ : CK E RX10 cX10_clear 1 none "clear" 0 0 0 Γ := hΓ
  show SV E Γ 1 (mm ci cl cr dy) nx 0 0 0 [(0, .ref (26 + 2 * q))] []
  refine sv_aload_n hΓ dX10_clear_0 rfl 0 rfl rfl ?_
  refine sv_iconst (v := 0) hΓ dX10_clear_1 (by decide) rfl ?_
  refine pt_X10_7 hΓ (m_tp hq) ⟨rfl, rfl⟩ (Nat.lt_of_succ_le (Nat.le_of_ble_eq_true rfl)) dX10_clear_2 rfl ?_
  refine SV_eq (mm_tp hq) ?_
  exact sv_vret hΓ hQ dX10_clear_5 (Nat.le_of_ble_eq_true rfl) (Nat.le_of_ble_eq_true rfl) ⟨rfl, rfl, rfl⟩
set_option maxRecDepth 100000 in
theorem ct_X10_append {E : aG} (l : Launch) (q f : Nat) (v : Int64) {ci : Nat → Nat → Int32} {cl : Nat → Nat → Int64} {cr : Nat → Nat → Option Nat} {dy : aM} {nx : Nat} (hq : q < 8) (hf : ci (26 + 2 * q) 1 = nI f) (hf2 : f < tpn q) : CT E l yX10_append cX10_append 3 none 0 [.ref (26 + 2 * q), .long v] (mm ci cl cr dy) nx 0 0 (fun r M' nx' => r = none ∧ M' = mm (up2 ci (26 + 2 * q) 1 (nI (f + 1))) (up2 cl (27 + 2 * q) f v) cr dy ∧ nx = nx') := by
  refine CT_intro (by decide) (Nat.le_of_ble_eq_true rfl) (fun Γ hΓ hQ => ?_)
  replace hΓ : CK E RX10 cX10_append 3 none "append" 0 0 0 Γ := hΓ
  have h20 := tpn_le (q := q)
  show SV E Γ 3 (mm ci cl cr dy) nx 0 0 0 [(0, .ref (26 + 2 * q)), (1, .long v)] []
  refine sv_aload_n hΓ dX10_append_0 rfl 0 rfl rfl ?_
  refine gt_X10_7 hΓ (m_tp hq) rfl dX10_append_1 rfl ?_
  refine sv_aload_n hΓ dX10_append_4 rfl 0 rfl rfl ?_
  refine gt_X10_13 hΓ (m_tp hq) rfl dX10_append_5 rfl ?_
  refine sv_alen (t := 1) hΓ rfl dX10_append_8 (m_tn hq) (v := nI (tpn q)) rfl rfl ?_
  rw [hf]
  refine sv_icmp_ge (tgt := 32) hΓ dX10_append_9 (by decide) rfl (fun u1 => absurd u1 (nI_ge hf2 (by omega))) (fun u1 => ?_)
  refine sv_aload_n hΓ dX10_append_12 rfl 0 rfl rfl ?_
  refine gt_X10_13 hΓ (m_tp hq) rfl dX10_append_13 rfl ?_
  refine sv_aload_n hΓ dX10_append_16 rfl 0 rfl rfl ?_
  refine gt_X10_7 hΓ (m_tp hq) rfl dX10_append_17 rfl ?_
  rw [hf]
  refine sv_lload_n hΓ dX10_append_20 rfl 1 rfl rfl ?_
  refine sv_last hΓ dX10_append_21 (m_tn hq) (vp_in_nI hf2 (by omega)) rfl ?_
  rw [nI_clamp (by omega)]
  refine SV_eq (mm_tn hq) ?_
  refine sv_aload_n hΓ dX10_append_22 rfl 0 rfl rfl ?_
  refine sv_dup hΓ dX10_append_23 rfl rfl ?_
  refine gt_X10_7 hΓ (m_tp hq) rfl dX10_append_24 rfl ?_
  rw [hf]
  refine sv_iconst (v := 1) hΓ dX10_append_27 (by decide) rfl ?_
  refine sv_iaddE (v := nI (f + 1)) hΓ dX10_append_28 (nx_add rfl rfl) rfl ?_
  refine pt_X10_7 hΓ (m_tp hq) ⟨rfl, rfl⟩ (Nat.lt_of_succ_le (Nat.le_of_ble_eq_true rfl)) dX10_append_29 rfl ?_
  refine SV_eq (mm_tp hq) ?_
  exact sv_vret hΓ hQ dX10_append_32 (Nat.le_of_ble_eq_true rfl) (Nat.le_of_ble_eq_true rfl) ⟨rfl, rfl, rfl⟩
