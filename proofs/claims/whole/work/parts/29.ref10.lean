set_option maxRecDepth 100000 in
set_option maxHeartbeats 4000000 in
/-- bound -/
theorem ct_X12_bound {E : aG} (l : Launch) (q : Int32) (n : Nat) {ci : Nat → Nat → Int32} {cl : Nat → Nat → Int64} {cr : Nat → Nat → Option Nat} {dy : aM} {nx : Nat} (hn : ci 43 1 = nI n) (hn6 : n ≤ 16) (hwf : ∀ i, i < n → WF ci i) (hpar : ∀ k, k < 4 → ∃ v, 1 ≤ v ∧ v ≤ 4 ∧ ci 49 k = nI v) : CT E l yX12_bound cX12_bound 4 (some .int) 5 [.ref 43, .int q] (mm ci cl cr dy) nx 0 0 (fun r M' nx' => (¬ II 0 5 q ∧ r = some (.int (-1)) ∧ M' = mm (up2 ci 43 0 0) cl cr dy ∧ nx = nx') ∨ (∃ k c' cs, k ≤ 5 ∧ q = nI k ∧ smB (up2 ci 43 0 0) c' ∧ (cs = cl ∨ FSI (up2 ci 43 0 0) cl cs n) ∧ r = some (.int (bdF (up2 ci 43 0 0) cs n k)) ∧ M' = mm c' cs cr dy ∧ nx = nx')) := by
  refine CT_intro (by decide) (Nat.le_of_ble_eq_true rfl) (fun Γ hΓ hQ => ?_)
  replace hΓ : CK E RX12 cX12_bound 4 (some .int) "bound" 5 0 0 Γ := hΓ
  show SV E Γ 4 (mm ci cl cr dy) nx 0 0 0 [(0, .ref 43), (1, .int q)] []
  refine sv_aload_n hΓ dX12_bound_0 rfl 0 rfl rfl ?_
  refine sv_iconst (v := 0) hΓ dX12_bound_1 (by decide) rfl ?_
  refine p_X12_99_43 hΓ dX12_bound_2 rfl ?_
  refine sv_iload_n hΓ dX12_bound_5 rfl 1 rfl rfl ?_
  refine sv_i2l hΓ dX12_bound_6 rfl rfl ?_
  refine sv_lconst (v := 0) hΓ dX12_bound_7 (by decide) rfl ?_
  refine sv_ldc2 hΓ dX12_bound_8 tb_1249 rfl ?_
  refine sv_callS hΓ (fun l => ct_X12_isInI l q 0 5 0 5 (by decide) (by decide) rfl rfl) wv_X12_118 tb_1080 rfl rfl (by decide) (Nat.le_of_ble_eq_true rfl) (Nat.le_of_ble_eq_true rfl) (Nat.le_of_ble_eq_true rfl) dX12_bound_11 rfl (fun r M' nx' p1 => ?_)
  obtain ⟨rfl, rfl, rfl⟩ := p1
  show SV E Γ 4 (mm (up2 ci 43 0 0) cl cr dy) nx 0 0 14 [(0, .ref 43), (1, .int q)] [.int (bI (II 0 5 q))]
  refine sv_if_ne (tgt := 19) hΓ dX12_bound_14 (by decide) rfl (fun u2 => ?_) (fun u2 => ?_)
  · replace u2 := bI_ne.mp u2
    obtain ⟨k, hk0, hk5, eqk⟩ := II.k u2
    subst eqk
    refine sv_iload_n hΓ dX12_bound_19 rfl 1 rfl rfl ?_
    refine sv_iconst (v := 5) hΓ dX12_bound_20 (by decide) rfl ?_
    refine sv_icmp_ge (tgt := 43) hΓ dX12_bound_21 (by decide) rfl (fun u3 => ?_) (fun u3 => ?_)
    · replace u3 : 5 ≤ ((nI k) : Int32) := u3
      have hk4 : ¬ k < 5 := i_ge5 (by omega) u3
      refine sv_aload_n hΓ dX12_bound_43 rfl 0 rfl rfl ?_
      refine sv_callV hΓ (fun l => ct_X12_freeTicks l n hn hn6 hwf) wv_X12_233 vs_X12_freeTicks rfl m_43 rfl rfl (by decide) (Nat.le_of_ble_eq_true rfl) (Nat.le_of_ble_eq_true rfl) (Nat.le_of_ble_eq_true rfl) dX12_bound_44 rfl (fun r M' nx' p4 => ?_)
      rcases p4 with ⟨cs, c2, fs1, hB, rfl, rfl, rfl⟩
      show SV E Γ 4 (mm c2 cs cr dy) nx 0 0 47 [(0, .ref 43), (1, .int (nI k))] [.int (ftA (kpC (up2 ci 43 0 0) n) cs n)]
      have hn2 : c2 43 1 = nI n := by rw [hB 43 (by decide)]; exact hn
      have hpx : ∀ j, j < 4 → ¬ c2 49 j = 0 := fun j hj => by rw [hB 49 (by decide)]; obtain ⟨v, v1, v4, ev⟩ := hpar j hj; exact fun e => absurd ((nI_eq (b := 0) (by omega) (by decide)).mp (ev.symm.trans e)) (by omega)
      refine sv_istore_n (lv' := [(2, .int (ftA (kpC (up2 ci 43 0 0) n) cs n)), (0, .ref 43), (1, .int (nI k))]) hΓ dX12_bound_47 rfl (by decide) rfl rfl ?_
      refine sv_iconst (v := 0) hΓ dX12_bound_48 (by decide) rfl ?_
      refine sv_istore_n (lv' := [(3, .int 0), (2, .int (ftA (kpC (up2 ci 43 0 0) n) cs n)), (0, .ref 43), (1, .int (nI k))]) hΓ dX12_bound_49 rfl (by decide) rfl rfl ?_
      have LP50 : ∀ kq j : Nat, j + kq = 4 → SV E Γ 4 (mm c2 cs cr dy) nx 0 0 50 [(3, .int (nI j)), (2, .int (bmF c2 n (ftA (kpC (up2 ci 43 0 0) n) cs n) j)), (0, .ref 43), (1, .int (nI k))] [] := by
        intro kq
        induction kq with
        | zero =>
          intro j ha
          have ea : j = 4 := by omega
          refine sv_iload_n hΓ dX12_bound_50 rfl 0 rfl rfl ?_
          refine sv_iconst (v := 4) hΓ dX12_bound_51 (by decide) rfl ?_
          refine sv_icmp_ge (tgt := 80) hΓ dX12_bound_52 (by decide) rfl (fun u5 => ?_) (fun u5 => absurd (nI_le (a := 4) (by omega) (by omega)) u5)
          replace u5 : 4 ≤ ((nI j) : Int32) := u5
          refine sv_iload_n hΓ dX12_bound_80 rfl 1 rfl rfl ?_
          exact sv_iret hΓ hQ dX12_bound_81 (Nat.le_of_ble_eq_true rfl) (Nat.le_of_ble_eq_true rfl) (Or.inr ⟨k, c2, cs, hk5, rfl, hB, Or.inr fs1, by rw [bdF, if_neg (by omega), if_neg (by omega), show j = 4 by omega, bmF_sm hB], rfl, rfl⟩)
        | succ kq ih =>
          intro j ha
          refine sv_iload_n hΓ dX12_bound_50 rfl 0 rfl rfl ?_
          refine sv_iconst (v := 4) hΓ dX12_bound_51 (by decide) rfl ?_
          refine sv_icmp_ge (tgt := 80) hΓ dX12_bound_52 (by decide) rfl (fun u6 => absurd u6 (nI_ge (b := 4) (by omega) (by omega))) (fun u6 => ?_)
          replace u6 : ¬ (4 ≤ ((nI j) : Int32)) := u6
          have hpz := hpx j (by omega)
          refine sv_aload_n hΓ dX12_bound_55 rfl 2 rfl rfl ?_
          refine sv_iload_n hΓ dX12_bound_56 rfl 0 rfl rfl ?_
          refine sv_callV hΓ (fun l => ct_X12_filled l j n (by omega) hpz hn2 hn6) wv_X12_237 vs_X12_filled rfl m_43 rfl rfl (by decide) (Nat.le_of_ble_eq_true rfl) (Nat.le_of_ble_eq_true rfl) (Nat.le_of_ble_eq_true rfl) dX12_bound_57 rfl (fun r M' nx' p7 => ?_)
          obtain ⟨rfl, rfl, rfl⟩ := p7
          show SV E Γ 4 (mm c2 cs cr dy) nx 0 0 60 [(3, .int (nI j)), (2, .int (bmF c2 n (ftA (kpC (up2 ci 43 0 0) n) cs n) j)), (0, .ref 43), (1, .int (nI k))] [.int ((fdF c2 (nI j) n + c2 49 j - 1) / c2 49 j)]
          refine sv_iload_n hΓ dX12_bound_60 rfl 1 rfl rfl ?_
          refine sv_icmp_le (tgt := 72) hΓ dX12_bound_61 (by decide) rfl (fun u8 => ?_) (fun u8 => ?_)
          · replace u8 : (((fdF c2 (nI j) n + c2 49 j - 1) / c2 49 j) : Int32) ≤ (bmF c2 n (ftA (kpC (up2 ci 43 0 0) n) cs n) j) := u8
            refine sv_iload_n hΓ dX12_bound_72 rfl 1 rfl rfl ?_
            refine sv_istore_n (lv' := [(2, .int (bmF c2 n (ftA (kpC (up2 ci 43 0 0) n) cs n) j)), (3, .int (nI j)), (0, .ref 43), (1, .int (nI k))]) hΓ dX12_bound_73 rfl (by decide) rfl rfl ?_
            refine sv_iinc (v := nI (j + 1)) (lv' := [(3, .int (nI (j + 1))), (2, .int (bmF c2 n (ftA (kpC (up2 ci 43 0 0) n) cs n) j)), (0, .ref 43), (1, .int (nI k))]) hΓ dX12_bound_74 1 rfl (nx_inc rfl) (by decide) rfl rfl ?_
            refine sv_goto (pc' := 50) hΓ dX12_bound_77 (by decide) ?_
            have q := ih (j + 1) (by omega)
            rw [show bmF c2 n (ftA (kpC (up2 ci 43 0 0) n) cs n) (j + 1) = bmF c2 n (ftA (kpC (up2 ci 43 0 0) n) cs n) j from if_pos u8] at q
            exact SV_lv [0, 1, 2, 3] rfl q
          · replace u8 : ¬ ((((fdF c2 (nI j) n + c2 49 j - 1) / c2 49 j) : Int32) ≤ (bmF c2 n (ftA (kpC (up2 ci 43 0 0) n) cs n) j)) := u8
            refine sv_aload_n hΓ dX12_bound_64 rfl 2 rfl rfl ?_
            refine sv_iload_n hΓ dX12_bound_65 rfl 0 rfl rfl ?_
            refine sv_callV hΓ (fun l => ct_X12_filled l j n (by omega) hpz hn2 hn6) wv_X12_237 vs_X12_filled rfl m_43 rfl rfl (by decide) (Nat.le_of_ble_eq_true rfl) (Nat.le_of_ble_eq_true rfl) (Nat.le_of_ble_eq_true rfl) dX12_bound_66 rfl (fun r M' nx' p9 => ?_)
            obtain ⟨rfl, rfl, rfl⟩ := p9
            show SV E Γ 4 (mm c2 cs cr dy) nx 0 0 69 [(3, .int (nI j)), (2, .int (bmF c2 n (ftA (kpC (up2 ci 43 0 0) n) cs n) j)), (0, .ref 43), (1, .int (nI k))] [.int ((fdF c2 (nI j) n + c2 49 j - 1) / c2 49 j)]
            refine sv_goto (pc' := 73) hΓ dX12_bound_69 (by decide) ?_
            refine sv_istore_n (lv' := [(2, .int ((fdF c2 (nI j) n + c2 49 j - 1) / c2 49 j)), (3, .int (nI j)), (0, .ref 43), (1, .int (nI k))]) hΓ dX12_bound_73 rfl (by decide) rfl rfl ?_
            refine sv_iinc (v := nI (j + 1)) (lv' := [(3, .int (nI (j + 1))), (2, .int ((fdF c2 (nI j) n + c2 49 j - 1) / c2 49 j)), (0, .ref 43), (1, .int (nI k))]) hΓ dX12_bound_74 1 rfl (nx_inc rfl) (by decide) rfl rfl ?_
            refine sv_goto (pc' := 50) hΓ dX12_bound_77 (by decide) ?_
            have q := ih (j + 1) (by omega)
            rw [show bmF c2 n (ftA (kpC (up2 ci 43 0 0) n) cs n) (j + 1) = (fdF c2 (nI j) n + c2 49 j - 1) / c2 49 j from if_neg u8] at q
            exact SV_lv [0, 1, 2, 3] rfl q
      exact SV_lv [0, 1, 2, 3] rfl (LP50 4 0 (by omega))
    · replace u3 : ¬ (5 ≤ ((nI k) : Int32)) := u3
      have hk4 : k < 5 := i_lt5 (by omega) u3
      refine sv_iload_n hΓ dX12_bound_24 rfl 1 rfl rfl ?_
      refine sv_if_ne (tgt := 35) hΓ dX12_bound_25 (by decide) rfl (fun u10 => ?_) (fun u10 => ?_)
      · replace u10 : ¬ ((nI k) : Int32) = 0 := u10
        have hk0 : ¬ k = 0 := fun e => u10 (by rw [e]; rfl)
        have hpz : ¬ ci 49 (k - 1) = 0 := by obtain ⟨v, v1, v4, ev⟩ := hpar (k - 1) (by omega); rw [ev]; exact fun e => absurd ((nI_eq (b := 0) (by omega) (by decide)).mp e) (by omega)
        refine sv_aload_n hΓ dX12_bound_35 rfl 0 rfl rfl ?_
        refine sv_iload_n hΓ dX12_bound_36 rfl 1 rfl rfl ?_
        refine sv_iconst (v := 1) hΓ dX12_bound_37 (by decide) rfl ?_
        refine sv_isubE (v := nI (k - 1)) hΓ dX12_bound_38 (nx_sub (b := 1) (by omega)) rfl ?_
        refine sv_callV hΓ (fun l => ct_X12_filled l (k - 1) n (by omega) hpz hn hn6) wv_X12_237 vs_X12_filled rfl m_43 rfl rfl (by decide) (Nat.le_of_ble_eq_true rfl) (Nat.le_of_ble_eq_true rfl) (Nat.le_of_ble_eq_true rfl) dX12_bound_39 rfl (fun r M' nx' p11 => ?_)
        obtain ⟨rfl, rfl, rfl⟩ := p11
        show SV E Γ 4 (mm (up2 ci 43 0 0) cl cr dy) nx 0 0 42 [(0, .ref 43), (1, .int (nI k))] [.int ((fdF (up2 ci 43 0 0) (nI (k - 1)) n + (up2 ci 43 0 0) 49 (k - 1) - 1) / (up2 ci 43 0 0) 49 (k - 1))]
        exact sv_iret hΓ hQ dX12_bound_42 (Nat.le_of_ble_eq_true rfl) (Nat.le_of_ble_eq_true rfl) (Or.inr ⟨k, _, cl, hk5, rfl, fun _ _ => rfl, Or.inl rfl, by rw [bdF, if_neg hk0, if_pos hk4], rfl, rfl⟩)
      · replace u10 : ((nI k) : Int32) = 0 := u10
        refine sv_aload_n hΓ dX12_bound_28 rfl 0 rfl rfl ?_
        refine sv_callV hΓ (fun l => ct_X12_freeTicks l n hn hn6 hwf) wv_X12_233 vs_X12_freeTicks rfl m_43 rfl rfl (by decide) (Nat.le_of_ble_eq_true rfl) (Nat.le_of_ble_eq_true rfl) (Nat.le_of_ble_eq_true rfl) dX12_bound_29 rfl (fun r M' nx' p12 => ?_)
        rcases p12 with ⟨cs, c2, fs1, hB, rfl, rfl, rfl⟩
        show SV E Γ 4 (mm c2 cs cr dy) nx 0 0 32 [(0, .ref 43), (1, .int (nI k))] [.int (ftA (kpC (up2 ci 43 0 0) n) cs n)]
        refine sv_goto (pc' := 42) hΓ dX12_bound_32 (by decide) ?_
        exact sv_iret hΓ hQ dX12_bound_42 (Nat.le_of_ble_eq_true rfl) (Nat.le_of_ble_eq_true rfl) (Or.inr ⟨k, c2, cs, hk5, rfl, hB, Or.inr fs1, by rw [bdF, if_pos (k0 (by omega) u10)], rfl, rfl⟩)
  · replace u2 := bI_0.mp u2
    refine sv_iconst (v := (-1)) hΓ dX12_bound_17 (by decide) rfl ?_
    exact sv_iret hΓ hQ dX12_bound_18 (Nat.le_of_ble_eq_true rfl) (Nat.le_of_ble_eq_true rfl) (Or.inl ⟨u2, rfl, rfl, rfl⟩)
set_option maxRecDepth 100000 in
set_option maxHeartbeats 4000000 in
/-- registers -/
theorem ct_X12_registers {E : aG} (l : Launch)  {ci : Nat → Nat → Int32} {cl : Nat → Nat → Int64} {cr : Nat → Nat → Option Nat} {dy : aM} {nx : Nat}  : CT E l yX12_registers cX12_registers 1 (some .int) 0 [.ref 43] (mm ci cl cr dy) nx 0 0 (fun r M' nx' => r = some (.int (if (up2 ci 43 0 0) 43 13 = 0 then -3 else (up2 ci 43 0 0) 43 18)) ∧ M' = mm (up2 ci 43 0 0) cl cr dy ∧ nx = nx') := by
  refine CT_intro (by decide) (Nat.le_of_ble_eq_true rfl) (fun Γ hΓ hQ => ?_)
  replace hΓ : CK E RX12 cX12_registers 1 (some .int) "registers" 0 0 0 Γ := hΓ
  show SV E Γ 1 (mm ci cl cr dy) nx 0 0 0 [(0, .ref 43)] []
  refine sv_aload_n hΓ dX12_registers_0 rfl 0 rfl rfl ?_
  refine sv_iconst (v := 0) hΓ dX12_registers_1 (by decide) rfl ?_
  refine p_X12_99_43 hΓ dX12_registers_2 rfl ?_
  generalize hc0 : up2 ci 43 0 0 = c0 at hQ ⊢
  refine sv_aload_n hΓ dX12_registers_5 rfl 0 rfl rfl ?_
  refine g_X12_106_43 hΓ dX12_registers_6 rfl ?_
  refine sv_if_eq (tgt := 19) hΓ dX12_registers_9 (by decide) rfl (fun u1 => ?_) (fun u1 => ?_)
  · replace u1 : ((c0 43 13) : Int32) = 0 := u1
    refine sv_bipush (v := (-3)) hΓ dX12_registers_19 (by decide) rfl ?_
    exact sv_iret hΓ hQ dX12_registers_21 (Nat.le_of_ble_eq_true rfl) (Nat.le_of_ble_eq_true rfl) ⟨by rw [if_pos u1], rfl, rfl⟩
  · replace u1 : ¬ (((c0 43 13) : Int32) = 0) := u1
    refine sv_aload_n hΓ dX12_registers_12 rfl 0 rfl rfl ?_
    refine g_X12_207_43 hΓ dX12_registers_13 rfl ?_
    refine sv_goto (pc' := 21) hΓ dX12_registers_16 (by decide) ?_
    exact sv_iret hΓ hQ dX12_registers_21 (Nat.le_of_ble_eq_true rfl) (Nat.le_of_ble_eq_true rfl) ⟨by rw [if_neg u1], rfl, rfl⟩
set_option maxRecDepth 100000 in
set_option maxHeartbeats 4000000 in
/-- chooser -/
theorem ct_X12_chooser {E : aG} (l : Launch) (q : Int32) (i : Int32) (z : Int32) (n : Nat) {ci : Nat → Nat → Int32} {cl : Nat → Nat → Int64} {cr : Nat → Nat → Option Nat} {dy : aM} {nx : Nat} (hn : ci 43 1 = nI n) (hn6 : n ≤ 16) (hwf : ∀ i, i < n → WF ci i) (hrx : ∀ a, a < n → ∀ w, w < 3 → 0 ≤ ci 46 (3 * a + w) → ∃ x, x < 16 ∧ ci 46 (3 * a + w) = nI x) : CT E l yX12_chooser cX12_chooser 10 (some .int) 1 [.ref 43, .int q, .int i, .int z] (mm ci cl cr dy) nx 0 0 (fun r M' nx' => (¬ (II 0 3 q ∧ ¬ i < 0 ∧ i < (up2 ci 43 0 0) 49 q.toNatClampNeg) ∧ r = some (.int (-1)) ∧ M' = mm (up2 ci 43 0 0) cl cr dy ∧ nx = nx') ∨ (∃ k, k < 4 ∧ q = nI k ∧ (¬ i < 0 ∧ i < (up2 ci 43 0 0) 49 k) ∧ (((up2 ci 43 0 0) 43 13 = 0 ∧ r = some (.int (-3)) ∧ M' = mm (up2 ci 43 0 0) cl cr dy ∧ nx = nx') ∨ (¬ (up2 ci 43 0 0) 43 13 = 0 ∧ r = some (.int (chN (up2 ci 43 0 0) (nI k) i (if z = 0 then 0 else 1) n)) ∧ M' = mm (up2 ci 43 0 0) cl cr dy ∧ nx = nx')))) := by
  refine CT_intro (by decide) (Nat.le_of_ble_eq_true rfl) (fun Γ hΓ hQ => ?_)
  replace hΓ : CK E RX12 cX12_chooser 10 (some .int) "chooser" 1 0 0 Γ := hΓ
  show SV E Γ 10 (mm ci cl cr dy) nx 0 0 0 [(0, .ref 43), (1, .int q), (2, .int i), (3, .int z)] []
  refine sv_aload_n hΓ dX12_chooser_0 rfl 0 rfl rfl ?_
  refine sv_iconst (v := 0) hΓ dX12_chooser_1 (by decide) rfl ?_
  refine p_X12_99_43 hΓ dX12_chooser_2 rfl ?_
  generalize hc0 : up2 ci 43 0 0 = c0 at hQ ⊢
  replace hn : c0 43 1 = nI n := by rw [← hc0]; exact hn
  replace hwf : ∀ i, i < n → WF c0 i := by rw [← hc0]; exact hwf
  replace hrx : ∀ a, a < n → ∀ w, w < 3 → 0 ≤ c0 46 (3 * a + w) → ∃ x, x < 16 ∧ c0 46 (3 * a + w) = nI x := by rw [← hc0]; exact hrx
  refine sv_iload_n hΓ dX12_chooser_5 rfl 1 rfl rfl ?_
  refine sv_i2l hΓ dX12_chooser_6 rfl rfl ?_
  refine sv_lconst (v := 0) hΓ dX12_chooser_7 (by decide) rfl ?_
  refine sv_ldc2 hΓ dX12_chooser_8 tb_1097 rfl ?_
  refine sv_callS hΓ (fun l => ct_X12_isInI l q 0 3 0 3 (by decide) (by decide) rfl rfl) wv_X12_118 tb_1080 rfl rfl (by decide) (Nat.le_of_ble_eq_true rfl) (Nat.le_of_ble_eq_true rfl) (Nat.le_of_ble_eq_true rfl) dX12_chooser_11 rfl (fun r M' nx' p1 => ?_)
  obtain ⟨rfl, rfl, rfl⟩ := p1
  show SV E Γ 10 (mm c0 cl cr dy) nx 0 0 14 [(0, .ref 43), (1, .int q), (2, .int i), (3, .int z)] [.int (bI (II 0 3 q))]
  refine sv_if_eq (tgt := 31) hΓ dX12_chooser_14 (by decide) rfl (fun u2 => ?_) (fun u2 => ?_)
  · replace u2 := bI_0.mp u2
    refine sv_iconst (v := (-1)) hΓ dX12_chooser_31 (by decide) rfl ?_
    exact sv_iret hΓ hQ dX12_chooser_32 (Nat.le_of_ble_eq_true rfl) (Nat.le_of_ble_eq_true rfl) (Or.inl ⟨by first | grind | (rw [nI_clamp (by omega)]; grind), rfl, rfl, rfl⟩)
  · replace u2 := bI_ne.mp u2
    obtain ⟨k, hk0, hk3, eqk⟩ := II.k u2
    subst eqk
    refine sv_iload_n hΓ dX12_chooser_17 rfl 2 rfl rfl ?_
    refine sv_if_lt (tgt := 31) hΓ dX12_chooser_18 (by decide) rfl (fun u3 => ?_) (fun u3 => ?_)
    · replace u3 : (i : Int32) < 0 := u3
      refine sv_iconst (v := (-1)) hΓ dX12_chooser_31 (by decide) rfl ?_
      exact sv_iret hΓ hQ dX12_chooser_32 (Nat.le_of_ble_eq_true rfl) (Nat.le_of_ble_eq_true rfl) (Or.inl ⟨by first | grind | (rw [nI_clamp (by omega)]; grind), rfl, rfl, rfl⟩)
    · replace u3 : ¬ ((i : Int32) < 0) := u3
      refine sv_iload_n hΓ dX12_chooser_21 rfl 2 rfl rfl ?_
      refine sv_aload_n hΓ dX12_chooser_22 rfl 0 rfl rfl ?_
      refine g_X12_26_43 hΓ dX12_chooser_23 rfl ?_
      refine sv_iload_n hΓ dX12_chooser_26 rfl 1 rfl rfl ?_
      refine ai_49 hΓ (k) rfl (by omega) dX12_chooser_27 rfl ?_
      refine sv_icmp_lt (tgt := 33) hΓ dX12_chooser_28 (by decide) rfl (fun u4 => ?_) (fun u4 => ?_)
      · replace u4 : (i : Int32) < (c0 49 k) := u4
        have hi1 := And.intro u3 u4
        refine sv_aload_n hΓ dX12_chooser_33 rfl 0 rfl rfl ?_
        refine g_X12_106_43 hΓ dX12_chooser_34 rfl ?_
        refine sv_if_ne (tgt := 43) hΓ dX12_chooser_37 (by decide) rfl (fun u5 => ?_) (fun u5 => ?_)
        · replace u5 : ¬ ((c0 43 13) : Int32) = 0 := u5
          have hl := u5
          refine sv_iload_n hΓ dX12_chooser_43 rfl 3 rfl rfl ?_
          refine sv_if_eq (tgt := 51) hΓ dX12_chooser_44 (by decide) rfl (fun u6 => ?_) (fun u6 => ?_)
          · replace u6 : (z : Int32) = 0 := u6
            refine sv_iconst (v := 0) hΓ dX12_chooser_51 (by decide) rfl ?_
            obtain ⟨w, hw, ew⟩ : ∃ w : Nat, w < 2 ∧ (w = if z = 0 then 0 else 1) := ⟨if z = 0 then 0 else 1, by split <;> omega, rfl⟩
            rw [show (0 : Int32) = nI w from by rw [ew, if_pos u6]; rfl]
            refine sv_istore (lv' := [(4, .int (nI w)), (0, .ref 43), (1, .int (nI k)), (2, .int i), (3, .int z)]) hΓ dX12_chooser_52 (by decide) rfl rfl ?_
            refine sv_iconst (v := 0) hΓ dX12_chooser_54 (by decide) rfl ?_
            refine sv_istore (lv' := [(5, .int 0), (4, .int (nI w)), (0, .ref 43), (1, .int (nI k)), (2, .int i), (3, .int z)]) hΓ dX12_chooser_55 (by decide) rfl rfl ?_
            refine sv_iconst (v := 0) hΓ dX12_chooser_57 (by decide) rfl ?_
            refine sv_istore (lv' := [(6, .int 0), (5, .int 0), (4, .int (nI w)), (0, .ref 43), (1, .int (nI k)), (2, .int i), (3, .int z)]) hΓ dX12_chooser_58 (by decide) rfl rfl ?_
            have LP60 : ∀ kq a : Nat, a + kq = n → SV E Γ 10 (mm c0 cl cr dy) nx 0 0 60 [(6, .int (nI a)), (5, .int (chN c0 (nI k) i w a)), (4, .int (nI w)), (0, .ref 43), (1, .int (nI k)), (2, .int i)] [] := by
              intro kq
              induction kq with
              | zero =>
                intro a ha
                have ea : a = n := by omega
                refine sv_iload hΓ dX12_chooser_60 0 rfl rfl ?_
                refine sv_aload_n hΓ dX12_chooser_62 rfl 3 rfl rfl ?_
                refine g_X12_103_43 hΓ dX12_chooser_63 rfl ?_
                refine sv_icmp_ge (tgt := 199) hΓ dX12_chooser_66 (by decide) rfl (fun u7 => ?_) (fun u7 => absurd (hn ▸ nI_le (by omega) (by omega)) u7)
                replace u7 : (c0 43 1) ≤ ((nI a) : Int32) := u7
                refine sv_iload hΓ dX12_chooser_199 1 rfl rfl ?_
                exact sv_iret hΓ hQ dX12_chooser_201 (Nat.le_of_ble_eq_true rfl) (Nat.le_of_ble_eq_true rfl) (Or.inr ⟨k, by omega, rfl, hi1, Or.inr ⟨hl, by rw [← ew, ea], rfl, rfl⟩⟩)
              | succ kq ih =>
                intro a ha
                refine sv_iload hΓ dX12_chooser_60 0 rfl rfl ?_
                refine sv_aload_n hΓ dX12_chooser_62 rfl 3 rfl rfl ?_
                refine g_X12_103_43 hΓ dX12_chooser_63 rfl ?_
                refine sv_icmp_ge (tgt := 199) hΓ dX12_chooser_66 (by decide) rfl (fun u8 => absurd u8 (hn ▸ nI_ge (by omega) (by omega))) (fun u8 => ?_)
                replace u8 : ¬ ((c0 43 1) ≤ ((nI a) : Int32)) := u8
                have J102 : SV E Γ 10 (mm c0 cl cr dy) nx 0 0 102 [(6, .int (nI a)), (5, .int (chN c0 (nI k) i w a)), (4, .int (nI w)), (0, .ref 43), (1, .int (nI k)), (2, .int i)] [.int (csS c0 (nI k) i w a)] := by
                  refine sv_istore (lv' := [(7, .int (csS c0 (nI k) i w a)), (6, .int (nI a)), (5, .int (chN c0 (nI k) i w a)), (4, .int (nI w)), (0, .ref 43), (1, .int (nI k)), (2, .int i)]) hΓ dX12_chooser_102 (by decide) rfl rfl ?_
                  have J114 : SV E Γ 10 (mm c0 cl cr dy) nx 0 0 114 [(7, .int (csS c0 (nI k) i w a)), (6, .int (nI a)), (5, .int (chN c0 (nI k) i w a)), (4, .int (nI w)), (0, .ref 43), (1, .int (nI k)), (2, .int i)] [.int (knI c0 (nI k) i w (csS c0 (nI k) i w a) 0)] := by
                    refine sv_istore (lv' := [(8, .int (knI c0 (nI k) i w (csS c0 (nI k) i w a) 0)), (7, .int (csS c0 (nI k) i w a)), (6, .int (nI a)), (5, .int (chN c0 (nI k) i w a)), (4, .int (nI w)), (0, .ref 43), (1, .int (nI k)), (2, .int i)]) hΓ dX12_chooser_114 (by decide) rfl rfl ?_
                    refine sv_iconst (v := 0) hΓ dX12_chooser_116 (by decide) rfl ?_
                    refine sv_istore (lv' := [(9, .int 0), (8, .int (knI c0 (nI k) i w (csS c0 (nI k) i w a) 0)), (7, .int (csS c0 (nI k) i w a)), (6, .int (nI a)), (5, .int (chN c0 (nI k) i w a)), (4, .int (nI w)), (0, .ref 43), (1, .int (nI k)), (2, .int i)]) hΓ dX12_chooser_117 (by decide) rfl rfl ?_
                    have LP119 : ∀ kq b : Nat, b + kq = a → SV E Γ 10 (mm c0 cl cr dy) nx 0 0 119 [(9, .int (nI b)), (8, .int (knI c0 (nI k) i w (csS c0 (nI k) i w a) b)), (7, .int (csS c0 (nI k) i w a)), (6, .int (nI a)), (5, .int (chN c0 (nI k) i w a)), (4, .int (nI w)), (0, .ref 43), (1, .int (nI k)), (2, .int i)] [] := by
                      intro kq
                      induction kq with
                      | zero =>
                        intro b ha
                        have ea : b = a := by omega
                        obtain rfl : a = b := by omega
                        refine sv_iload hΓ dX12_chooser_119 0 rfl rfl ?_
                        refine sv_iload hΓ dX12_chooser_121 3 rfl rfl ?_
                        refine sv_icmp_ge (tgt := 178) hΓ dX12_chooser_123 (by decide) rfl (fun u9 => ?_) (fun u9 => absurd (nI_le (by omega) (by omega)) u9)
                        replace u9 : (nI a) ≤ ((nI a) : Int32) := u9
                        refine sv_iload hΓ dX12_chooser_178 4 rfl rfl ?_
                        refine sv_iload hΓ dX12_chooser_180 1 rfl rfl ?_
                        refine sv_if_eq (tgt := 189) hΓ dX12_chooser_182 (by decide) rfl (fun u10 => ?_) (fun u10 => ?_)
                        · replace u10 : ((knI c0 (nI k) i w (csS c0 (nI k) i w a) a) : Int32) = 0 := u10
                          refine sv_iconst (v := 1) hΓ dX12_chooser_189 (by decide) rfl ?_
                          refine sv_iadd hΓ dX12_chooser_190 rfl ?_
                          refine sv_istore (lv' := [(5, .int ((chN c0 (nI k) i w a) + 1)), (9, .int (nI a)), (8, .int (knI c0 (nI k) i w (csS c0 (nI k) i w a) a)), (7, .int (csS c0 (nI k) i w a)), (6, .int (nI a)), (4, .int (nI w)), (0, .ref 43), (1, .int (nI k)), (2, .int i)]) hΓ dX12_chooser_191 (by decide) rfl rfl ?_
                          refine sv_iinc (v := nI (a + 1)) (lv' := [(6, .int (nI (a + 1))), (5, .int ((chN c0 (nI k) i w a) + 1)), (9, .int (nI a)), (8, .int (knI c0 (nI k) i w (csS c0 (nI k) i w a) a)), (7, .int (csS c0 (nI k) i w a)), (4, .int (nI w)), (0, .ref 43), (1, .int (nI k)), (2, .int i)]) hΓ dX12_chooser_193 4 rfl (nx_inc rfl) (by decide) rfl rfl ?_
                          refine sv_goto (pc' := 60) hΓ dX12_chooser_196 (by decide) ?_
                          have q := ih (a + 1) (by omega)
                          rw [show chN c0 (nI k) i w (a + 1) = (chN c0 (nI k) i w a) + 1 from by simp only [chN]; rw [if_pos u10]] at q
                          exact SV_lv [0, 1, 5, 6, 7, 8] rfl q
                        · replace u10 : ¬ (((knI c0 (nI k) i w (csS c0 (nI k) i w a) a) : Int32) = 0) := u10
                          refine sv_iconst (v := 0) hΓ dX12_chooser_185 (by decide) rfl ?_
                          refine sv_goto (pc' := 190) hΓ dX12_chooser_186 (by decide) ?_
                          refine sv_iadd hΓ dX12_chooser_190 rfl ?_
                          refine sv_istore (lv' := [(5, .int ((chN c0 (nI k) i w a) + 0)), (9, .int (nI a)), (8, .int (knI c0 (nI k) i w (csS c0 (nI k) i w a) a)), (7, .int (csS c0 (nI k) i w a)), (6, .int (nI a)), (4, .int (nI w)), (0, .ref 43), (1, .int (nI k)), (2, .int i)]) hΓ dX12_chooser_191 (by decide) rfl rfl ?_
                          refine sv_iinc (v := nI (a + 1)) (lv' := [(6, .int (nI (a + 1))), (5, .int ((chN c0 (nI k) i w a) + 0)), (9, .int (nI a)), (8, .int (knI c0 (nI k) i w (csS c0 (nI k) i w a) a)), (7, .int (csS c0 (nI k) i w a)), (4, .int (nI w)), (0, .ref 43), (1, .int (nI k)), (2, .int i)]) hΓ dX12_chooser_193 4 rfl (nx_inc rfl) (by decide) rfl rfl ?_
                          refine sv_goto (pc' := 60) hΓ dX12_chooser_196 (by decide) ?_
                          have q := ih (a + 1) (by omega)
                          rw [show chN c0 (nI k) i w (a + 1) = (chN c0 (nI k) i w a) + 0 from by simp only [chN]; rw [if_neg u10]] at q
                          exact SV_lv [0, 1, 5, 6, 7, 8] rfl q
                      | succ kq ih =>
                        intro b ha
                        refine sv_iload hΓ dX12_chooser_119 0 rfl rfl ?_
                        refine sv_iload hΓ dX12_chooser_121 3 rfl rfl ?_
                        refine sv_icmp_ge (tgt := 178) hΓ dX12_chooser_123 (by decide) rfl (fun u11 => absurd u11 (nI_ge (by omega) (by omega))) (fun u11 => ?_)
                        replace u11 : ¬ ((nI a) ≤ ((nI b) : Int32)) := u11
                        refine sv_iload hΓ dX12_chooser_126 1 rfl rfl ?_
                        refine sv_if_ne (tgt := 165) hΓ dX12_chooser_128 (by decide) rfl (fun u12 => ?_) (fun u12 => ?_)
                        · replace u12 : ¬ ((knI c0 (nI k) i w (csS c0 (nI k) i w a) b) : Int32) = 0 := u12
                          refine sv_iconst (v := 1) hΓ dX12_chooser_165 (by decide) rfl ?_
                          refine sv_goto (pc' := 170) hΓ dX12_chooser_166 (by decide) ?_
                          refine sv_istore (lv' := [(8, .int 1), (9, .int (nI b)), (7, .int (csS c0 (nI k) i w a)), (6, .int (nI a)), (5, .int (chN c0 (nI k) i w a)), (4, .int (nI w)), (0, .ref 43), (1, .int (nI k)), (2, .int i)]) hΓ dX12_chooser_170 (by decide) rfl rfl ?_
                          refine sv_iinc (v := nI (b + 1)) (lv' := [(9, .int (nI (b + 1))), (8, .int 1), (7, .int (csS c0 (nI k) i w a)), (6, .int (nI a)), (5, .int (chN c0 (nI k) i w a)), (4, .int (nI w)), (0, .ref 43), (1, .int (nI k)), (2, .int i)]) hΓ dX12_chooser_172 1 rfl (nx_inc rfl) (by decide) rfl rfl ?_
                          refine sv_goto (pc' := 119) hΓ dX12_chooser_175 (by decide) ?_
                          have q := ih (b + 1) (by omega)
                          rw [show knI c0 (nI k) i w (csS c0 (nI k) i w a) (b + 1) = 1 from by simp only [knI]; rw [if_neg u12]] at q
                          exact SV_lv [0, 1, 2, 3, 4, 5, 6, 7, 8] rfl q
                        · replace u12 : ((knI c0 (nI k) i w (csS c0 (nI k) i w a) b) : Int32) = 0 := u12
                          refine sv_aload_n hΓ dX12_chooser_131 rfl 6 rfl rfl ?_
                          refine sv_iload hΓ dX12_chooser_132 0 rfl rfl ?_
                          refine sv_callV hΓ (fun l => ct_X12_kindOf l b (by omega)) wv_X12_146 vs_X12_kindOf rfl m_43 rfl rfl (by decide) (Nat.le_of_ble_eq_true rfl) (Nat.le_of_ble_eq_true rfl) (Nat.le_of_ble_eq_true rfl) dX12_chooser_134 rfl (fun r M' nx' p13 => ?_)
                          obtain ⟨rfl, rfl, rfl⟩ := p13
                          show SV E Γ 10 (mm c0 cl cr dy) nx 0 0 137 [(9, .int (nI b)), (8, .int (knI c0 (nI k) i w (csS c0 (nI k) i w a) b)), (7, .int (csS c0 (nI k) i w a)), (6, .int (nI a)), (5, .int (chN c0 (nI k) i w a)), (4, .int (nI w)), (0, .ref 43), (1, .int (nI k)), (2, .int i)] [.int (kd (c0 44 b))]
                          refine sv_iload_n hΓ dX12_chooser_137 rfl 7 rfl rfl ?_
                          refine sv_icmp_ne (tgt := 169) hΓ dX12_chooser_138 (by decide) rfl (fun u14 => ?_) (fun u14 => ?_)
                          · replace u14 : ¬ ((kd (c0 44 b)) : Int32) = (nI k) := u14
                            refine sv_iconst (v := 0) hΓ dX12_chooser_169 (by decide) rfl ?_
                            refine sv_istore (lv' := [(8, .int 0), (9, .int (nI b)), (7, .int (csS c0 (nI k) i w a)), (6, .int (nI a)), (5, .int (chN c0 (nI k) i w a)), (4, .int (nI w)), (0, .ref 43), (1, .int (nI k)), (2, .int i)]) hΓ dX12_chooser_170 (by decide) rfl rfl ?_
                            refine sv_iinc (v := nI (b + 1)) (lv' := [(9, .int (nI (b + 1))), (8, .int 0), (7, .int (csS c0 (nI k) i w a)), (6, .int (nI a)), (5, .int (chN c0 (nI k) i w a)), (4, .int (nI w)), (0, .ref 43), (1, .int (nI k)), (2, .int i)]) hΓ dX12_chooser_172 1 rfl (nx_inc rfl) (by decide) rfl rfl ?_
                            refine sv_goto (pc' := 119) hΓ dX12_chooser_175 (by decide) ?_
                            have q := ih (b + 1) (by omega)
                            rw [show knI c0 (nI k) i w (csS c0 (nI k) i w a) (b + 1) = 0 from by simp only [knI]; rw [if_pos u12, if_neg u14]] at q
                            exact SV_lv [0, 1, 2, 3, 4, 5, 6, 7, 8] rfl q
                          · replace u14 : ((kd (c0 44 b)) : Int32) = (nI k) := u14
                            refine sv_aload_n hΓ dX12_chooser_141 rfl 6 rfl rfl ?_
                            refine g_X12_48_43 hΓ dX12_chooser_142 rfl ?_
                            refine sv_iload hΓ dX12_chooser_145 0 rfl rfl ?_
                            refine ai_56 hΓ (b) rfl (by omega) dX12_chooser_147 rfl ?_
                            refine sv_iload_n hΓ dX12_chooser_148 rfl 8 rfl rfl ?_
                            refine sv_icmp_ne (tgt := 169) hΓ dX12_chooser_149 (by decide) rfl (fun u15 => ?_) (fun u15 => ?_)
                            · replace u15 : ¬ ((c0 56 b) : Int32) = i := u15
                              refine sv_iconst (v := 0) hΓ dX12_chooser_169 (by decide) rfl ?_
                              refine sv_istore (lv' := [(8, .int 0), (9, .int (nI b)), (7, .int (csS c0 (nI k) i w a)), (6, .int (nI a)), (5, .int (chN c0 (nI k) i w a)), (4, .int (nI w)), (0, .ref 43), (1, .int (nI k)), (2, .int i)]) hΓ dX12_chooser_170 (by decide) rfl rfl ?_
                              refine sv_iinc (v := nI (b + 1)) (lv' := [(9, .int (nI (b + 1))), (8, .int 0), (7, .int (csS c0 (nI k) i w a)), (6, .int (nI a)), (5, .int (chN c0 (nI k) i w a)), (4, .int (nI w)), (0, .ref 43), (1, .int (nI k)), (2, .int i)]) hΓ dX12_chooser_172 1 rfl (nx_inc rfl) (by decide) rfl rfl ?_
                              refine sv_goto (pc' := 119) hΓ dX12_chooser_175 (by decide) ?_
                              have q := ih (b + 1) (by omega)
                              rw [show knI c0 (nI k) i w (csS c0 (nI k) i w a) (b + 1) = 0 from by simp only [knI]; rw [if_pos u12, if_pos u14, if_neg u15]] at q
                              exact SV_lv [0, 1, 2, 3, 4, 5, 6, 7, 8] rfl q
                            · replace u15 : ((c0 56 b) : Int32) = i := u15
                              refine sv_aload_n hΓ dX12_chooser_152 rfl 6 rfl rfl ?_
                              refine sv_iload hΓ dX12_chooser_153 0 rfl rfl ?_
                              refine sv_iload hΓ dX12_chooser_155 5 rfl rfl ?_
                              refine sv_callV hΓ (fun l => ct_X12_source l b w (by omega) (by omega) (hrx _ (by omega) w (by omega))) wv_X12_240 vs_X12_source rfl m_43 rfl rfl (by decide) (Nat.le_of_ble_eq_true rfl) (Nat.le_of_ble_eq_true rfl) (Nat.le_of_ble_eq_true rfl) dX12_chooser_157 rfl (fun r M' nx' p16 => ?_)
                              obtain ⟨rfl, rfl, rfl⟩ := p16
                              show SV E Γ 10 (mm c0 cl cr dy) nx 0 0 160 [(9, .int (nI b)), (8, .int (knI c0 (nI k) i w (csS c0 (nI k) i w a) b)), (7, .int (csS c0 (nI k) i w a)), (6, .int (nI a)), (5, .int (chN c0 (nI k) i w a)), (4, .int (nI w)), (0, .ref 43), (1, .int (nI k)), (2, .int i)] [.int (soF c0 b w)]
                              refine sv_iload hΓ dX12_chooser_160 2 rfl rfl ?_
                              refine sv_icmp_ne (tgt := 169) hΓ dX12_chooser_162 (by decide) rfl (fun u17 => ?_) (fun u17 => ?_)
                              · replace u17 : ¬ ((soF c0 b w) : Int32) = (csS c0 (nI k) i w a) := u17
                                refine sv_iconst (v := 0) hΓ dX12_chooser_169 (by decide) rfl ?_
                                refine sv_istore (lv' := [(8, .int 0), (9, .int (nI b)), (7, .int (csS c0 (nI k) i w a)), (6, .int (nI a)), (5, .int (chN c0 (nI k) i w a)), (4, .int (nI w)), (0, .ref 43), (1, .int (nI k)), (2, .int i)]) hΓ dX12_chooser_170 (by decide) rfl rfl ?_
                                refine sv_iinc (v := nI (b + 1)) (lv' := [(9, .int (nI (b + 1))), (8, .int 0), (7, .int (csS c0 (nI k) i w a)), (6, .int (nI a)), (5, .int (chN c0 (nI k) i w a)), (4, .int (nI w)), (0, .ref 43), (1, .int (nI k)), (2, .int i)]) hΓ dX12_chooser_172 1 rfl (nx_inc rfl) (by decide) rfl rfl ?_
                                refine sv_goto (pc' := 119) hΓ dX12_chooser_175 (by decide) ?_
                                have q := ih (b + 1) (by omega)
                                rw [show knI c0 (nI k) i w (csS c0 (nI k) i w a) (b + 1) = 0 from by simp only [knI]; rw [if_pos u12, if_pos u14, if_pos u15, if_neg u17]] at q
                                exact SV_lv [0, 1, 2, 3, 4, 5, 6, 7, 8] rfl q
                              · replace u17 : ((soF c0 b w) : Int32) = (csS c0 (nI k) i w a) := u17
                                refine sv_iconst (v := 1) hΓ dX12_chooser_165 (by decide) rfl ?_
                                refine sv_goto (pc' := 170) hΓ dX12_chooser_166 (by decide) ?_
                                refine sv_istore (lv' := [(8, .int 1), (9, .int (nI b)), (7, .int (csS c0 (nI k) i w a)), (6, .int (nI a)), (5, .int (chN c0 (nI k) i w a)), (4, .int (nI w)), (0, .ref 43), (1, .int (nI k)), (2, .int i)]) hΓ dX12_chooser_170 (by decide) rfl rfl ?_
                                refine sv_iinc (v := nI (b + 1)) (lv' := [(9, .int (nI (b + 1))), (8, .int 1), (7, .int (csS c0 (nI k) i w a)), (6, .int (nI a)), (5, .int (chN c0 (nI k) i w a)), (4, .int (nI w)), (0, .ref 43), (1, .int (nI k)), (2, .int i)]) hΓ dX12_chooser_172 1 rfl (nx_inc rfl) (by decide) rfl rfl ?_
                                refine sv_goto (pc' := 119) hΓ dX12_chooser_175 (by decide) ?_
                                have q := ih (b + 1) (by omega)
                                rw [show knI c0 (nI k) i w (csS c0 (nI k) i w a) (b + 1) = 1 from by simp only [knI]; rw [if_pos u12, if_pos u14, if_pos u15, if_pos u17]] at q
                                exact SV_lv [0, 1, 2, 3, 4, 5, 6, 7, 8] rfl q
                    exact SV_lv [0, 1, 2, 3, 4, 5, 6, 7, 8] rfl (LP119 a 0 (by omega))
                  refine sv_iload hΓ dX12_chooser_104 0 rfl rfl ?_
                  refine sv_if_ge (tgt := 113) hΓ dX12_chooser_106 (by decide) rfl (fun u18 => ?_) (fun u18 => ?_)
                  · replace u18 : 0 ≤ ((csS c0 (nI k) i w a) : Int32) := u18
                    refine sv_iconst (v := 0) hΓ dX12_chooser_113 (by decide) rfl ?_
                    have e19 : knI c0 (nI k) i w (csS c0 (nI k) i w a) 0 = 0 := by simp only [knI]; rw [if_pos u18]
                    rw [e19] at J114
                    exact J114
                  · replace u18 : ¬ (0 ≤ ((csS c0 (nI k) i w a) : Int32)) := u18
                    refine sv_iconst (v := 1) hΓ dX12_chooser_109 (by decide) rfl ?_
                    refine sv_goto (pc' := 114) hΓ dX12_chooser_110 (by decide) ?_
                    have e20 : knI c0 (nI k) i w (csS c0 (nI k) i w a) 0 = 1 := by simp only [knI]; rw [if_neg u18]
                    rw [e20] at J114
                    exact J114
                refine sv_aload_n hΓ dX12_chooser_69 rfl 3 rfl rfl ?_
                refine sv_iload hΓ dX12_chooser_70 0 rfl rfl ?_
                refine sv_callV hΓ (fun l => ct_X12_kindOf l a (by omega)) wv_X12_146 vs_X12_kindOf rfl m_43 rfl rfl (by decide) (Nat.le_of_ble_eq_true rfl) (Nat.le_of_ble_eq_true rfl) (Nat.le_of_ble_eq_true rfl) dX12_chooser_72 rfl (fun r M' nx' p21 => ?_)
                obtain ⟨rfl, rfl, rfl⟩ := p21
                show SV E Γ 10 (mm c0 cl cr dy) nx 0 0 75 [(6, .int (nI a)), (5, .int (chN c0 (nI k) i w a)), (4, .int (nI w)), (0, .ref 43), (1, .int (nI k)), (2, .int i)] [.int (kd (c0 44 a))]
                refine sv_iload_n hΓ dX12_chooser_75 rfl 4 rfl rfl ?_
                refine sv_icmp_ne (tgt := 101) hΓ dX12_chooser_76 (by decide) rfl (fun u22 => ?_) (fun u22 => ?_)
                · replace u22 : ¬ ((kd (c0 44 a)) : Int32) = (nI k) := u22
                  refine sv_iconst (v := (-1)) hΓ dX12_chooser_101 (by decide) rfl ?_
                  have e23 : csS c0 (nI k) i w a = (-1) := by simp only [csS]; rw [if_neg u22]
                  rw [e23] at J102
                  exact J102
                · replace u22 : ((kd (c0 44 a)) : Int32) = (nI k) := u22
                  refine sv_aload_n hΓ dX12_chooser_79 rfl 3 rfl rfl ?_
                  refine g_X12_48_43 hΓ dX12_chooser_80 rfl ?_
                  refine sv_iload hΓ dX12_chooser_83 0 rfl rfl ?_
                  refine ai_56 hΓ (a) rfl (by omega) dX12_chooser_85 rfl ?_
                  refine sv_iload_n hΓ dX12_chooser_86 rfl 5 rfl rfl ?_
                  refine sv_icmp_ne (tgt := 101) hΓ dX12_chooser_87 (by decide) rfl (fun u24 => ?_) (fun u24 => ?_)
                  · replace u24 : ¬ ((c0 56 a) : Int32) = i := u24
                    refine sv_iconst (v := (-1)) hΓ dX12_chooser_101 (by decide) rfl ?_
                    have e25 : csS c0 (nI k) i w a = (-1) := by simp only [csS]; rw [if_pos u22, if_neg u24]
                    rw [e25] at J102
                    exact J102
                  · replace u24 : ((c0 56 a) : Int32) = i := u24
                    refine sv_aload_n hΓ dX12_chooser_90 rfl 3 rfl rfl ?_
                    refine sv_iload hΓ dX12_chooser_91 0 rfl rfl ?_
                    refine sv_iload hΓ dX12_chooser_93 2 rfl rfl ?_
                    refine sv_callV hΓ (fun l => ct_X12_source l a w (by omega) (by omega) (hrx _ (by omega) w (by omega))) wv_X12_240 vs_X12_source rfl m_43 rfl rfl (by decide) (Nat.le_of_ble_eq_true rfl) (Nat.le_of_ble_eq_true rfl) (Nat.le_of_ble_eq_true rfl) dX12_chooser_95 rfl (fun r M' nx' p26 => ?_)
                    obtain ⟨rfl, rfl, rfl⟩ := p26
                    show SV E Γ 10 (mm c0 cl cr dy) nx 0 0 98 [(6, .int (nI a)), (5, .int (chN c0 (nI k) i w a)), (4, .int (nI w)), (0, .ref 43), (1, .int (nI k)), (2, .int i)] [.int (soF c0 a w)]
                    refine sv_goto (pc' := 102) hΓ dX12_chooser_98 (by decide) ?_
                    have e27 : csS c0 (nI k) i w a = soF c0 a w := by simp only [csS]; rw [if_pos u22, if_pos u24]
                    rw [e27] at J102
                    exact J102
            exact SV_lv [0, 1, 2, 3, 4, 5] rfl (LP60 n 0 (by omega))
          · replace u6 : ¬ ((z : Int32) = 0) := u6
            refine sv_iconst (v := 1) hΓ dX12_chooser_47 (by decide) rfl ?_
            refine sv_goto (pc' := 52) hΓ dX12_chooser_48 (by decide) ?_
            obtain ⟨w, hw, ew⟩ : ∃ w : Nat, w < 2 ∧ (w = if z = 0 then 0 else 1) := ⟨if z = 0 then 0 else 1, by split <;> omega, rfl⟩
            rw [show (1 : Int32) = nI w from by rw [ew, if_neg u6]; rfl]
            refine sv_istore (lv' := [(4, .int (nI w)), (0, .ref 43), (1, .int (nI k)), (2, .int i), (3, .int z)]) hΓ dX12_chooser_52 (by decide) rfl rfl ?_
            refine sv_iconst (v := 0) hΓ dX12_chooser_54 (by decide) rfl ?_
            refine sv_istore (lv' := [(5, .int 0), (4, .int (nI w)), (0, .ref 43), (1, .int (nI k)), (2, .int i), (3, .int z)]) hΓ dX12_chooser_55 (by decide) rfl rfl ?_
            refine sv_iconst (v := 0) hΓ dX12_chooser_57 (by decide) rfl ?_
            refine sv_istore (lv' := [(6, .int 0), (5, .int 0), (4, .int (nI w)), (0, .ref 43), (1, .int (nI k)), (2, .int i), (3, .int z)]) hΓ dX12_chooser_58 (by decide) rfl rfl ?_
            have LP60 : ∀ kq a : Nat, a + kq = n → SV E Γ 10 (mm c0 cl cr dy) nx 0 0 60 [(6, .int (nI a)), (5, .int (chN c0 (nI k) i w a)), (4, .int (nI w)), (0, .ref 43), (1, .int (nI k)), (2, .int i)] [] := by
              intro kq
              induction kq with
              | zero =>
                intro a ha
                have ea : a = n := by omega
                refine sv_iload hΓ dX12_chooser_60 0 rfl rfl ?_
                refine sv_aload_n hΓ dX12_chooser_62 rfl 3 rfl rfl ?_
                refine g_X12_103_43 hΓ dX12_chooser_63 rfl ?_
                refine sv_icmp_ge (tgt := 199) hΓ dX12_chooser_66 (by decide) rfl (fun u28 => ?_) (fun u28 => absurd (hn ▸ nI_le (by omega) (by omega)) u28)
                replace u28 : (c0 43 1) ≤ ((nI a) : Int32) := u28
                refine sv_iload hΓ dX12_chooser_199 1 rfl rfl ?_
                exact sv_iret hΓ hQ dX12_chooser_201 (Nat.le_of_ble_eq_true rfl) (Nat.le_of_ble_eq_true rfl) (Or.inr ⟨k, by omega, rfl, hi1, Or.inr ⟨hl, by rw [← ew, ea], rfl, rfl⟩⟩)
              | succ kq ih =>
                intro a ha
                refine sv_iload hΓ dX12_chooser_60 0 rfl rfl ?_
                refine sv_aload_n hΓ dX12_chooser_62 rfl 3 rfl rfl ?_
                refine g_X12_103_43 hΓ dX12_chooser_63 rfl ?_
                refine sv_icmp_ge (tgt := 199) hΓ dX12_chooser_66 (by decide) rfl (fun u29 => absurd u29 (hn ▸ nI_ge (by omega) (by omega))) (fun u29 => ?_)
                replace u29 : ¬ ((c0 43 1) ≤ ((nI a) : Int32)) := u29
                have J102 : SV E Γ 10 (mm c0 cl cr dy) nx 0 0 102 [(6, .int (nI a)), (5, .int (chN c0 (nI k) i w a)), (4, .int (nI w)), (0, .ref 43), (1, .int (nI k)), (2, .int i)] [.int (csS c0 (nI k) i w a)] := by
                  refine sv_istore (lv' := [(7, .int (csS c0 (nI k) i w a)), (6, .int (nI a)), (5, .int (chN c0 (nI k) i w a)), (4, .int (nI w)), (0, .ref 43), (1, .int (nI k)), (2, .int i)]) hΓ dX12_chooser_102 (by decide) rfl rfl ?_
                  have J114 : SV E Γ 10 (mm c0 cl cr dy) nx 0 0 114 [(7, .int (csS c0 (nI k) i w a)), (6, .int (nI a)), (5, .int (chN c0 (nI k) i w a)), (4, .int (nI w)), (0, .ref 43), (1, .int (nI k)), (2, .int i)] [.int (knI c0 (nI k) i w (csS c0 (nI k) i w a) 0)] := by
                    refine sv_istore (lv' := [(8, .int (knI c0 (nI k) i w (csS c0 (nI k) i w a) 0)), (7, .int (csS c0 (nI k) i w a)), (6, .int (nI a)), (5, .int (chN c0 (nI k) i w a)), (4, .int (nI w)), (0, .ref 43), (1, .int (nI k)), (2, .int i)]) hΓ dX12_chooser_114 (by decide) rfl rfl ?_
                    refine sv_iconst (v := 0) hΓ dX12_chooser_116 (by decide) rfl ?_
                    refine sv_istore (lv' := [(9, .int 0), (8, .int (knI c0 (nI k) i w (csS c0 (nI k) i w a) 0)), (7, .int (csS c0 (nI k) i w a)), (6, .int (nI a)), (5, .int (chN c0 (nI k) i w a)), (4, .int (nI w)), (0, .ref 43), (1, .int (nI k)), (2, .int i)]) hΓ dX12_chooser_117 (by decide) rfl rfl ?_
                    have LP119 : ∀ kq b : Nat, b + kq = a → SV E Γ 10 (mm c0 cl cr dy) nx 0 0 119 [(9, .int (nI b)), (8, .int (knI c0 (nI k) i w (csS c0 (nI k) i w a) b)), (7, .int (csS c0 (nI k) i w a)), (6, .int (nI a)), (5, .int (chN c0 (nI k) i w a)), (4, .int (nI w)), (0, .ref 43), (1, .int (nI k)), (2, .int i)] [] := by
                      intro kq
                      induction kq with
                      | zero =>
                        intro b ha
                        have ea : b = a := by omega
                        obtain rfl : a = b := by omega
                        refine sv_iload hΓ dX12_chooser_119 0 rfl rfl ?_
                        refine sv_iload hΓ dX12_chooser_121 3 rfl rfl ?_
                        refine sv_icmp_ge (tgt := 178) hΓ dX12_chooser_123 (by decide) rfl (fun u30 => ?_) (fun u30 => absurd (nI_le (by omega) (by omega)) u30)
                        replace u30 : (nI a) ≤ ((nI a) : Int32) := u30
                        refine sv_iload hΓ dX12_chooser_178 4 rfl rfl ?_
                        refine sv_iload hΓ dX12_chooser_180 1 rfl rfl ?_
                        refine sv_if_eq (tgt := 189) hΓ dX12_chooser_182 (by decide) rfl (fun u31 => ?_) (fun u31 => ?_)
                        · replace u31 : ((knI c0 (nI k) i w (csS c0 (nI k) i w a) a) : Int32) = 0 := u31
                          refine sv_iconst (v := 1) hΓ dX12_chooser_189 (by decide) rfl ?_
                          refine sv_iadd hΓ dX12_chooser_190 rfl ?_
                          refine sv_istore (lv' := [(5, .int ((chN c0 (nI k) i w a) + 1)), (9, .int (nI a)), (8, .int (knI c0 (nI k) i w (csS c0 (nI k) i w a) a)), (7, .int (csS c0 (nI k) i w a)), (6, .int (nI a)), (4, .int (nI w)), (0, .ref 43), (1, .int (nI k)), (2, .int i)]) hΓ dX12_chooser_191 (by decide) rfl rfl ?_
                          refine sv_iinc (v := nI (a + 1)) (lv' := [(6, .int (nI (a + 1))), (5, .int ((chN c0 (nI k) i w a) + 1)), (9, .int (nI a)), (8, .int (knI c0 (nI k) i w (csS c0 (nI k) i w a) a)), (7, .int (csS c0 (nI k) i w a)), (4, .int (nI w)), (0, .ref 43), (1, .int (nI k)), (2, .int i)]) hΓ dX12_chooser_193 4 rfl (nx_inc rfl) (by decide) rfl rfl ?_
                          refine sv_goto (pc' := 60) hΓ dX12_chooser_196 (by decide) ?_
                          have q := ih (a + 1) (by omega)
                          rw [show chN c0 (nI k) i w (a + 1) = (chN c0 (nI k) i w a) + 1 from by simp only [chN]; rw [if_pos u31]] at q
                          exact SV_lv [0, 1, 5, 6, 7, 8] rfl q
                        · replace u31 : ¬ (((knI c0 (nI k) i w (csS c0 (nI k) i w a) a) : Int32) = 0) := u31
                          refine sv_iconst (v := 0) hΓ dX12_chooser_185 (by decide) rfl ?_
                          refine sv_goto (pc' := 190) hΓ dX12_chooser_186 (by decide) ?_
                          refine sv_iadd hΓ dX12_chooser_190 rfl ?_
                          refine sv_istore (lv' := [(5, .int ((chN c0 (nI k) i w a) + 0)), (9, .int (nI a)), (8, .int (knI c0 (nI k) i w (csS c0 (nI k) i w a) a)), (7, .int (csS c0 (nI k) i w a)), (6, .int (nI a)), (4, .int (nI w)), (0, .ref 43), (1, .int (nI k)), (2, .int i)]) hΓ dX12_chooser_191 (by decide) rfl rfl ?_
                          refine sv_iinc (v := nI (a + 1)) (lv' := [(6, .int (nI (a + 1))), (5, .int ((chN c0 (nI k) i w a) + 0)), (9, .int (nI a)), (8, .int (knI c0 (nI k) i w (csS c0 (nI k) i w a) a)), (7, .int (csS c0 (nI k) i w a)), (4, .int (nI w)), (0, .ref 43), (1, .int (nI k)), (2, .int i)]) hΓ dX12_chooser_193 4 rfl (nx_inc rfl) (by decide) rfl rfl ?_
                          refine sv_goto (pc' := 60) hΓ dX12_chooser_196 (by decide) ?_
                          have q := ih (a + 1) (by omega)
                          rw [show chN c0 (nI k) i w (a + 1) = (chN c0 (nI k) i w a) + 0 from by simp only [chN]; rw [if_neg u31]] at q
                          exact SV_lv [0, 1, 5, 6, 7, 8] rfl q
                      | succ kq ih =>
                        intro b ha
                        refine sv_iload hΓ dX12_chooser_119 0 rfl rfl ?_
                        refine sv_iload hΓ dX12_chooser_121 3 rfl rfl ?_
                        refine sv_icmp_ge (tgt := 178) hΓ dX12_chooser_123 (by decide) rfl (fun u32 => absurd u32 (nI_ge (by omega) (by omega))) (fun u32 => ?_)
                        replace u32 : ¬ ((nI a) ≤ ((nI b) : Int32)) := u32
                        refine sv_iload hΓ dX12_chooser_126 1 rfl rfl ?_
                        refine sv_if_ne (tgt := 165) hΓ dX12_chooser_128 (by decide) rfl (fun u33 => ?_) (fun u33 => ?_)
                        · replace u33 : ¬ ((knI c0 (nI k) i w (csS c0 (nI k) i w a) b) : Int32) = 0 := u33
                          refine sv_iconst (v := 1) hΓ dX12_chooser_165 (by decide) rfl ?_
                          refine sv_goto (pc' := 170) hΓ dX12_chooser_166 (by decide) ?_
                          refine sv_istore (lv' := [(8, .int 1), (9, .int (nI b)), (7, .int (csS c0 (nI k) i w a)), (6, .int (nI a)), (5, .int (chN c0 (nI k) i w a)), (4, .int (nI w)), (0, .ref 43), (1, .int (nI k)), (2, .int i)]) hΓ dX12_chooser_170 (by decide) rfl rfl ?_
                          refine sv_iinc (v := nI (b + 1)) (lv' := [(9, .int (nI (b + 1))), (8, .int 1), (7, .int (csS c0 (nI k) i w a)), (6, .int (nI a)), (5, .int (chN c0 (nI k) i w a)), (4, .int (nI w)), (0, .ref 43), (1, .int (nI k)), (2, .int i)]) hΓ dX12_chooser_172 1 rfl (nx_inc rfl) (by decide) rfl rfl ?_
                          refine sv_goto (pc' := 119) hΓ dX12_chooser_175 (by decide) ?_
                          have q := ih (b + 1) (by omega)
                          rw [show knI c0 (nI k) i w (csS c0 (nI k) i w a) (b + 1) = 1 from by simp only [knI]; rw [if_neg u33]] at q
                          exact SV_lv [0, 1, 2, 3, 4, 5, 6, 7, 8] rfl q
                        · replace u33 : ((knI c0 (nI k) i w (csS c0 (nI k) i w a) b) : Int32) = 0 := u33
                          refine sv_aload_n hΓ dX12_chooser_131 rfl 6 rfl rfl ?_
                          refine sv_iload hΓ dX12_chooser_132 0 rfl rfl ?_
                          refine sv_callV hΓ (fun l => ct_X12_kindOf l b (by omega)) wv_X12_146 vs_X12_kindOf rfl m_43 rfl rfl (by decide) (Nat.le_of_ble_eq_true rfl) (Nat.le_of_ble_eq_true rfl) (Nat.le_of_ble_eq_true rfl) dX12_chooser_134 rfl (fun r M' nx' p34 => ?_)
                          obtain ⟨rfl, rfl, rfl⟩ := p34
                          show SV E Γ 10 (mm c0 cl cr dy) nx 0 0 137 [(9, .int (nI b)), (8, .int (knI c0 (nI k) i w (csS c0 (nI k) i w a) b)), (7, .int (csS c0 (nI k) i w a)), (6, .int (nI a)), (5, .int (chN c0 (nI k) i w a)), (4, .int (nI w)), (0, .ref 43), (1, .int (nI k)), (2, .int i)] [.int (kd (c0 44 b))]
                          refine sv_iload_n hΓ dX12_chooser_137 rfl 7 rfl rfl ?_
                          refine sv_icmp_ne (tgt := 169) hΓ dX12_chooser_138 (by decide) rfl (fun u35 => ?_) (fun u35 => ?_)
                          · replace u35 : ¬ ((kd (c0 44 b)) : Int32) = (nI k) := u35
                            refine sv_iconst (v := 0) hΓ dX12_chooser_169 (by decide) rfl ?_
                            refine sv_istore (lv' := [(8, .int 0), (9, .int (nI b)), (7, .int (csS c0 (nI k) i w a)), (6, .int (nI a)), (5, .int (chN c0 (nI k) i w a)), (4, .int (nI w)), (0, .ref 43), (1, .int (nI k)), (2, .int i)]) hΓ dX12_chooser_170 (by decide) rfl rfl ?_
                            refine sv_iinc (v := nI (b + 1)) (lv' := [(9, .int (nI (b + 1))), (8, .int 0), (7, .int (csS c0 (nI k) i w a)), (6, .int (nI a)), (5, .int (chN c0 (nI k) i w a)), (4, .int (nI w)), (0, .ref 43), (1, .int (nI k)), (2, .int i)]) hΓ dX12_chooser_172 1 rfl (nx_inc rfl) (by decide) rfl rfl ?_
                            refine sv_goto (pc' := 119) hΓ dX12_chooser_175 (by decide) ?_
                            have q := ih (b + 1) (by omega)
                            rw [show knI c0 (nI k) i w (csS c0 (nI k) i w a) (b + 1) = 0 from by simp only [knI]; rw [if_pos u33, if_neg u35]] at q
                            exact SV_lv [0, 1, 2, 3, 4, 5, 6, 7, 8] rfl q
                          · replace u35 : ((kd (c0 44 b)) : Int32) = (nI k) := u35
                            refine sv_aload_n hΓ dX12_chooser_141 rfl 6 rfl rfl ?_
                            refine g_X12_48_43 hΓ dX12_chooser_142 rfl ?_
                            refine sv_iload hΓ dX12_chooser_145 0 rfl rfl ?_
                            refine ai_56 hΓ (b) rfl (by omega) dX12_chooser_147 rfl ?_
                            refine sv_iload_n hΓ dX12_chooser_148 rfl 8 rfl rfl ?_
                            refine sv_icmp_ne (tgt := 169) hΓ dX12_chooser_149 (by decide) rfl (fun u36 => ?_) (fun u36 => ?_)
                            · replace u36 : ¬ ((c0 56 b) : Int32) = i := u36
                              refine sv_iconst (v := 0) hΓ dX12_chooser_169 (by decide) rfl ?_
                              refine sv_istore (lv' := [(8, .int 0), (9, .int (nI b)), (7, .int (csS c0 (nI k) i w a)), (6, .int (nI a)), (5, .int (chN c0 (nI k) i w a)), (4, .int (nI w)), (0, .ref 43), (1, .int (nI k)), (2, .int i)]) hΓ dX12_chooser_170 (by decide) rfl rfl ?_
                              refine sv_iinc (v := nI (b + 1)) (lv' := [(9, .int (nI (b + 1))), (8, .int 0), (7, .int (csS c0 (nI k) i w a)), (6, .int (nI a)), (5, .int (chN c0 (nI k) i w a)), (4, .int (nI w)), (0, .ref 43), (1, .int (nI k)), (2, .int i)]) hΓ dX12_chooser_172 1 rfl (nx_inc rfl) (by decide) rfl rfl ?_
                              refine sv_goto (pc' := 119) hΓ dX12_chooser_175 (by decide) ?_
                              have q := ih (b + 1) (by omega)
                              rw [show knI c0 (nI k) i w (csS c0 (nI k) i w a) (b + 1) = 0 from by simp only [knI]; rw [if_pos u33, if_pos u35, if_neg u36]] at q
                              exact SV_lv [0, 1, 2, 3, 4, 5, 6, 7, 8] rfl q
                            · replace u36 : ((c0 56 b) : Int32) = i := u36
                              refine sv_aload_n hΓ dX12_chooser_152 rfl 6 rfl rfl ?_
                              refine sv_iload hΓ dX12_chooser_153 0 rfl rfl ?_
                              refine sv_iload hΓ dX12_chooser_155 5 rfl rfl ?_
                              refine sv_callV hΓ (fun l => ct_X12_source l b w (by omega) (by omega) (hrx _ (by omega) w (by omega))) wv_X12_240 vs_X12_source rfl m_43 rfl rfl (by decide) (Nat.le_of_ble_eq_true rfl) (Nat.le_of_ble_eq_true rfl) (Nat.le_of_ble_eq_true rfl) dX12_chooser_157 rfl (fun r M' nx' p37 => ?_)
                              obtain ⟨rfl, rfl, rfl⟩ := p37
                              show SV E Γ 10 (mm c0 cl cr dy) nx 0 0 160 [(9, .int (nI b)), (8, .int (knI c0 (nI k) i w (csS c0 (nI k) i w a) b)), (7, .int (csS c0 (nI k) i w a)), (6, .int (nI a)), (5, .int (chN c0 (nI k) i w a)), (4, .int (nI w)), (0, .ref 43), (1, .int (nI k)), (2, .int i)] [.int (soF c0 b w)]
                              refine sv_iload hΓ dX12_chooser_160 2 rfl rfl ?_
                              refine sv_icmp_ne (tgt := 169) hΓ dX12_chooser_162 (by decide) rfl (fun u38 => ?_) (fun u38 => ?_)
                              · replace u38 : ¬ ((soF c0 b w) : Int32) = (csS c0 (nI k) i w a) := u38
                                refine sv_iconst (v := 0) hΓ dX12_chooser_169 (by decide) rfl ?_
                                refine sv_istore (lv' := [(8, .int 0), (9, .int (nI b)), (7, .int (csS c0 (nI k) i w a)), (6, .int (nI a)), (5, .int (chN c0 (nI k) i w a)), (4, .int (nI w)), (0, .ref 43), (1, .int (nI k)), (2, .int i)]) hΓ dX12_chooser_170 (by decide) rfl rfl ?_
                                refine sv_iinc (v := nI (b + 1)) (lv' := [(9, .int (nI (b + 1))), (8, .int 0), (7, .int (csS c0 (nI k) i w a)), (6, .int (nI a)), (5, .int (chN c0 (nI k) i w a)), (4, .int (nI w)), (0, .ref 43), (1, .int (nI k)), (2, .int i)]) hΓ dX12_chooser_172 1 rfl (nx_inc rfl) (by decide) rfl rfl ?_
                                refine sv_goto (pc' := 119) hΓ dX12_chooser_175 (by decide) ?_
                                have q := ih (b + 1) (by omega)
                                rw [show knI c0 (nI k) i w (csS c0 (nI k) i w a) (b + 1) = 0 from by simp only [knI]; rw [if_pos u33, if_pos u35, if_pos u36, if_neg u38]] at q
                                exact SV_lv [0, 1, 2, 3, 4, 5, 6, 7, 8] rfl q
                              · replace u38 : ((soF c0 b w) : Int32) = (csS c0 (nI k) i w a) := u38
                                refine sv_iconst (v := 1) hΓ dX12_chooser_165 (by decide) rfl ?_
                                refine sv_goto (pc' := 170) hΓ dX12_chooser_166 (by decide) ?_
                                refine sv_istore (lv' := [(8, .int 1), (9, .int (nI b)), (7, .int (csS c0 (nI k) i w a)), (6, .int (nI a)), (5, .int (chN c0 (nI k) i w a)), (4, .int (nI w)), (0, .ref 43), (1, .int (nI k)), (2, .int i)]) hΓ dX12_chooser_170 (by decide) rfl rfl ?_
                                refine sv_iinc (v := nI (b + 1)) (lv' := [(9, .int (nI (b + 1))), (8, .int 1), (7, .int (csS c0 (nI k) i w a)), (6, .int (nI a)), (5, .int (chN c0 (nI k) i w a)), (4, .int (nI w)), (0, .ref 43), (1, .int (nI k)), (2, .int i)]) hΓ dX12_chooser_172 1 rfl (nx_inc rfl) (by decide) rfl rfl ?_
                                refine sv_goto (pc' := 119) hΓ dX12_chooser_175 (by decide) ?_
                                have q := ih (b + 1) (by omega)
                                rw [show knI c0 (nI k) i w (csS c0 (nI k) i w a) (b + 1) = 1 from by simp only [knI]; rw [if_pos u33, if_pos u35, if_pos u36, if_pos u38]] at q
                                exact SV_lv [0, 1, 2, 3, 4, 5, 6, 7, 8] rfl q
                    exact SV_lv [0, 1, 2, 3, 4, 5, 6, 7, 8] rfl (LP119 a 0 (by omega))
                  refine sv_iload hΓ dX12_chooser_104 0 rfl rfl ?_
                  refine sv_if_ge (tgt := 113) hΓ dX12_chooser_106 (by decide) rfl (fun u39 => ?_) (fun u39 => ?_)
                  · replace u39 : 0 ≤ ((csS c0 (nI k) i w a) : Int32) := u39
                    refine sv_iconst (v := 0) hΓ dX12_chooser_113 (by decide) rfl ?_
                    have e40 : knI c0 (nI k) i w (csS c0 (nI k) i w a) 0 = 0 := by simp only [knI]; rw [if_pos u39]
                    rw [e40] at J114
                    exact J114
                  · replace u39 : ¬ (0 ≤ ((csS c0 (nI k) i w a) : Int32)) := u39
                    refine sv_iconst (v := 1) hΓ dX12_chooser_109 (by decide) rfl ?_
                    refine sv_goto (pc' := 114) hΓ dX12_chooser_110 (by decide) ?_
                    have e41 : knI c0 (nI k) i w (csS c0 (nI k) i w a) 0 = 1 := by simp only [knI]; rw [if_neg u39]
                    rw [e41] at J114
                    exact J114
                refine sv_aload_n hΓ dX12_chooser_69 rfl 3 rfl rfl ?_
                refine sv_iload hΓ dX12_chooser_70 0 rfl rfl ?_
                refine sv_callV hΓ (fun l => ct_X12_kindOf l a (by omega)) wv_X12_146 vs_X12_kindOf rfl m_43 rfl rfl (by decide) (Nat.le_of_ble_eq_true rfl) (Nat.le_of_ble_eq_true rfl) (Nat.le_of_ble_eq_true rfl) dX12_chooser_72 rfl (fun r M' nx' p42 => ?_)
                obtain ⟨rfl, rfl, rfl⟩ := p42
                show SV E Γ 10 (mm c0 cl cr dy) nx 0 0 75 [(6, .int (nI a)), (5, .int (chN c0 (nI k) i w a)), (4, .int (nI w)), (0, .ref 43), (1, .int (nI k)), (2, .int i)] [.int (kd (c0 44 a))]
                refine sv_iload_n hΓ dX12_chooser_75 rfl 4 rfl rfl ?_
                refine sv_icmp_ne (tgt := 101) hΓ dX12_chooser_76 (by decide) rfl (fun u43 => ?_) (fun u43 => ?_)
                · replace u43 : ¬ ((kd (c0 44 a)) : Int32) = (nI k) := u43
                  refine sv_iconst (v := (-1)) hΓ dX12_chooser_101 (by decide) rfl ?_
                  have e44 : csS c0 (nI k) i w a = (-1) := by simp only [csS]; rw [if_neg u43]
                  rw [e44] at J102
                  exact J102
                · replace u43 : ((kd (c0 44 a)) : Int32) = (nI k) := u43
                  refine sv_aload_n hΓ dX12_chooser_79 rfl 3 rfl rfl ?_
                  refine g_X12_48_43 hΓ dX12_chooser_80 rfl ?_
                  refine sv_iload hΓ dX12_chooser_83 0 rfl rfl ?_
                  refine ai_56 hΓ (a) rfl (by omega) dX12_chooser_85 rfl ?_
                  refine sv_iload_n hΓ dX12_chooser_86 rfl 5 rfl rfl ?_
                  refine sv_icmp_ne (tgt := 101) hΓ dX12_chooser_87 (by decide) rfl (fun u45 => ?_) (fun u45 => ?_)
                  · replace u45 : ¬ ((c0 56 a) : Int32) = i := u45
                    refine sv_iconst (v := (-1)) hΓ dX12_chooser_101 (by decide) rfl ?_
                    have e46 : csS c0 (nI k) i w a = (-1) := by simp only [csS]; rw [if_pos u43, if_neg u45]
                    rw [e46] at J102
                    exact J102
                  · replace u45 : ((c0 56 a) : Int32) = i := u45
                    refine sv_aload_n hΓ dX12_chooser_90 rfl 3 rfl rfl ?_
                    refine sv_iload hΓ dX12_chooser_91 0 rfl rfl ?_
                    refine sv_iload hΓ dX12_chooser_93 2 rfl rfl ?_
                    refine sv_callV hΓ (fun l => ct_X12_source l a w (by omega) (by omega) (hrx _ (by omega) w (by omega))) wv_X12_240 vs_X12_source rfl m_43 rfl rfl (by decide) (Nat.le_of_ble_eq_true rfl) (Nat.le_of_ble_eq_true rfl) (Nat.le_of_ble_eq_true rfl) dX12_chooser_95 rfl (fun r M' nx' p47 => ?_)
                    obtain ⟨rfl, rfl, rfl⟩ := p47
                    show SV E Γ 10 (mm c0 cl cr dy) nx 0 0 98 [(6, .int (nI a)), (5, .int (chN c0 (nI k) i w a)), (4, .int (nI w)), (0, .ref 43), (1, .int (nI k)), (2, .int i)] [.int (soF c0 a w)]
                    refine sv_goto (pc' := 102) hΓ dX12_chooser_98 (by decide) ?_
                    have e48 : csS c0 (nI k) i w a = soF c0 a w := by simp only [csS]; rw [if_pos u43, if_pos u45]
                    rw [e48] at J102
                    exact J102
            exact SV_lv [0, 1, 2, 3, 4, 5] rfl (LP60 n 0 (by omega))
        · replace u5 : ((c0 43 13) : Int32) = 0 := u5
          refine sv_bipush (v := (-3)) hΓ dX12_chooser_40 (by decide) rfl ?_
          exact sv_iret hΓ hQ dX12_chooser_42 (Nat.le_of_ble_eq_true rfl) (Nat.le_of_ble_eq_true rfl) (Or.inr ⟨k, by omega, rfl, hi1, Or.inl ⟨u5, rfl, rfl, rfl⟩⟩)
      · replace u4 : ¬ ((i : Int32) < (c0 49 k)) := u4
        refine sv_iconst (v := (-1)) hΓ dX12_chooser_31 (by decide) rfl ?_
        exact sv_iret hΓ hQ dX12_chooser_32 (Nat.le_of_ble_eq_true rfl) (Nat.le_of_ble_eq_true rfl) (Or.inl ⟨by first | grind | (rw [nI_clamp (by omega)]; grind), rfl, rfl, rfl⟩)
set_option maxRecDepth 100000 in
set_option maxHeartbeats 4000000 in
/-- at -/
theorem ct_X12_at {E : aG} (l : Launch) (t : Int32) (i : Int32) (n : Nat) {ci : Nat → Nat → Int32} {cl : Nat → Nat → Int64} {cr : Nat → Nat → Option Nat} {dy : aM} {nx : Nat} (hn : ci 43 1 = nI n) (hn6 : n ≤ 16) : CT E l yX12_at cX12_at 5 (some .int) 0 [.ref 43, .int t, .int i] (mm ci cl cr dy) nx 0 0 (fun r M' nx' => (¬ (¬ t < 0 ∧ 0 ≤ i) ∧ r = some (.int (-1)) ∧ M' = mm (up2 ci 43 0 0) cl cr dy ∧ nx = nx') ∨ ((¬ t < 0 ∧ 0 ≤ i) ∧ (((up2 ci 43 0 0) 43 13 = 0 ∧ r = some (.int (-3)) ∧ M' = mm (up2 ci 43 0 0) cl cr dy ∧ nx = nx') ∨ (¬ (up2 ci 43 0 0) 43 13 = 0 ∧ r = some (.int (atF (up2 ci 43 0 0) t i n 0 0)) ∧ M' = mm (up2 ci 43 0 0) cl cr dy ∧ nx = nx')))) := by
  refine CT_intro (by decide) (Nat.le_of_ble_eq_true rfl) (fun Γ hΓ hQ => ?_)
  replace hΓ : CK E RX12 cX12_at 5 (some .int) "at" 0 0 0 Γ := hΓ
  show SV E Γ 5 (mm ci cl cr dy) nx 0 0 0 [(0, .ref 43), (1, .int t), (2, .int i)] []
  refine sv_aload_n hΓ dX12_at_0 rfl 0 rfl rfl ?_
  refine sv_iconst (v := 0) hΓ dX12_at_1 (by decide) rfl ?_
  refine p_X12_99_43 hΓ dX12_at_2 rfl ?_
  generalize hc0 : up2 ci 43 0 0 = c0 at hQ ⊢
  replace hn : c0 43 1 = nI n := by rw [← hc0]; exact hn
  refine sv_iload_n hΓ dX12_at_5 rfl 1 rfl rfl ?_
  refine sv_if_lt (tgt := 13) hΓ dX12_at_6 (by decide) rfl (fun u1 => ?_) (fun u1 => ?_)
  · replace u1 : (t : Int32) < 0 := u1
    refine sv_iconst (v := (-1)) hΓ dX12_at_13 (by decide) rfl ?_
    exact sv_iret hΓ hQ dX12_at_14 (Nat.le_of_ble_eq_true rfl) (Nat.le_of_ble_eq_true rfl) (Or.inl ⟨by first | grind | (rw [nI_clamp (by omega)]; grind), rfl, rfl, rfl⟩)
  · replace u1 : ¬ ((t : Int32) < 0) := u1
    refine sv_iload_n hΓ dX12_at_9 rfl 2 rfl rfl ?_
    refine sv_if_ge (tgt := 15) hΓ dX12_at_10 (by decide) rfl (fun u2 => ?_) (fun u2 => ?_)
    · replace u2 : 0 ≤ (i : Int32) := u2
      have hi1 := And.intro u1 u2
      refine sv_aload_n hΓ dX12_at_15 rfl 0 rfl rfl ?_
      refine g_X12_106_43 hΓ dX12_at_16 rfl ?_
      refine sv_if_ne (tgt := 25) hΓ dX12_at_19 (by decide) rfl (fun u3 => ?_) (fun u3 => ?_)
      · replace u3 : ¬ ((c0 43 13) : Int32) = 0 := u3
        have hl := u3
        refine sv_iconst (v := 0) hΓ dX12_at_25 (by decide) rfl ?_
        refine sv_istore_n (lv' := [(3, .int 0), (0, .ref 43), (1, .int t), (2, .int i)]) hΓ dX12_at_26 rfl (by decide) rfl rfl ?_
        refine sv_iconst (v := 0) hΓ dX12_at_27 (by decide) rfl ?_
        refine sv_istore (lv' := [(4, .int 0), (3, .int 0), (0, .ref 43), (1, .int t), (2, .int i)]) hΓ dX12_at_28 (by decide) rfl rfl ?_
        have LP30 : ∀ kq a : Nat, a + kq = n → ∀ m, m ≤ a → atF c0 t i kq a m = atF c0 t i n 0 0 → SV E Γ 5 (mm c0 cl cr dy) nx 0 0 30 [(4, .int (nI a)), (3, .int (nI m)), (0, .ref 43), (1, .int t), (2, .int i)] [] := by
          intro kq
          induction kq with
          | zero =>
            intro a ha
            have ea : a = n := by omega
            intro m hm hf
            refine sv_iload hΓ dX12_at_30 0 rfl rfl ?_
            refine sv_aload_n hΓ dX12_at_32 rfl 2 rfl rfl ?_
            refine g_X12_103_43 hΓ dX12_at_33 rfl ?_
            refine sv_icmp_ge (tgt := 67) hΓ dX12_at_36 (by decide) rfl (fun u4 => ?_) (fun u4 => absurd (hn ▸ nI_le (by omega) (by omega)) u4)
            replace u4 : (c0 43 1) ≤ ((nI a) : Int32) := u4
            refine sv_bipush (v := (-2)) hΓ dX12_at_67 (by decide) rfl ?_
            exact sv_iret hΓ hQ dX12_at_69 (Nat.le_of_ble_eq_true rfl) (Nat.le_of_ble_eq_true rfl) (Or.inr ⟨hi1, Or.inr ⟨hl, by rw [← hf]; rfl, rfl, rfl⟩⟩)
          | succ kq ih =>
            intro a ha
            intro m hm hf
            refine sv_iload hΓ dX12_at_30 0 rfl rfl ?_
            refine sv_aload_n hΓ dX12_at_32 rfl 2 rfl rfl ?_
            refine g_X12_103_43 hΓ dX12_at_33 rfl ?_
            refine sv_icmp_ge (tgt := 67) hΓ dX12_at_36 (by decide) rfl (fun u5 => absurd u5 (hn ▸ nI_ge (by omega) (by omega))) (fun u5 => ?_)
            replace u5 : ¬ ((c0 43 1) ≤ ((nI a) : Int32)) := u5
            refine sv_aload_n hΓ dX12_at_39 rfl 2 rfl rfl ?_
            refine g_X12_45_43 hΓ dX12_at_40 rfl ?_
            refine sv_iload hΓ dX12_at_43 0 rfl rfl ?_
            refine ai_55 hΓ (a) rfl (by omega) dX12_at_45 rfl ?_
            refine sv_iload_n hΓ dX12_at_46 rfl 3 rfl rfl ?_
            refine sv_icmp_ne (tgt := 61) hΓ dX12_at_47 (by decide) rfl (fun u6 => ?_) (fun u6 => ?_)
            · replace u6 : ¬ ((c0 55 a) : Int32) = t := u6
              refine sv_iinc (v := nI (a + 1)) (lv' := [(4, .int (nI (a + 1))), (3, .int (nI m)), (0, .ref 43), (1, .int t), (2, .int i)]) hΓ dX12_at_61 0 rfl (nx_inc rfl) (by decide) rfl rfl ?_
              refine sv_goto (pc' := 30) hΓ dX12_at_64 (by decide) ?_
              exact SV_lv [0, 1, 2, 3, 4] rfl (ih (a + 1) (by omega) (m) (by omega) (by rw [← hf]; simp only [atF]; rw [if_neg u6]))
            · replace u6 : ((c0 55 a) : Int32) = t := u6
              refine sv_iload_n hΓ dX12_at_50 rfl 1 rfl rfl ?_
              refine sv_iload_n hΓ dX12_at_51 rfl 4 rfl rfl ?_
              refine sv_icmp_ne (tgt := 58) hΓ dX12_at_52 (by decide) rfl (fun u7 => ?_) (fun u7 => ?_)
              · replace u7 : ¬ ((nI m) : Int32) = i := u7
                refine sv_iinc (v := nI (m + 1)) (lv' := [(3, .int (nI (m + 1))), (4, .int (nI a)), (0, .ref 43), (1, .int t), (2, .int i)]) hΓ dX12_at_58 1 rfl (nx_inc rfl) (by decide) rfl rfl ?_
                refine sv_iinc (v := nI (a + 1)) (lv' := [(4, .int (nI (a + 1))), (3, .int (nI (m + 1))), (0, .ref 43), (1, .int t), (2, .int i)]) hΓ dX12_at_61 1 rfl (nx_inc rfl) (by decide) rfl rfl ?_
                refine sv_goto (pc' := 30) hΓ dX12_at_64 (by decide) ?_
                exact SV_lv [0, 1, 2, 3, 4] rfl (ih (a + 1) (by omega) (m + 1) (by omega) (by rw [← hf]; simp only [atF]; rw [if_pos u6, if_neg u7]))
              · replace u7 : ((nI m) : Int32) = i := u7
                refine sv_iload hΓ dX12_at_55 0 rfl rfl ?_
                exact sv_iret hΓ hQ dX12_at_57 (Nat.le_of_ble_eq_true rfl) (Nat.le_of_ble_eq_true rfl) (Or.inr ⟨hi1, Or.inr ⟨hl, by rw [← hf]; simp only [atF]; rw [if_pos u6, if_pos u7], rfl, rfl⟩⟩)
        exact SV_lv [0, 1, 2, 3, 4] rfl (LP30 n 0 (by omega) 0 (by omega) rfl)
      · replace u3 : ((c0 43 13) : Int32) = 0 := u3
        refine sv_bipush (v := (-3)) hΓ dX12_at_22 (by decide) rfl ?_
        exact sv_iret hΓ hQ dX12_at_24 (Nat.le_of_ble_eq_true rfl) (Nat.le_of_ble_eq_true rfl) (Or.inr ⟨by grind, Or.inl ⟨u3, rfl, rfl, rfl⟩⟩)
    · replace u2 : ¬ (0 ≤ (i : Int32)) := u2
      refine sv_iconst (v := (-1)) hΓ dX12_at_13 (by decide) rfl ?_
      exact sv_iret hΓ hQ dX12_at_14 (Nat.le_of_ble_eq_true rfl) (Nat.le_of_ble_eq_true rfl) (Or.inl ⟨by first | grind | (rw [nI_clamp (by omega)]; grind), rfl, rfl, rfl⟩)
set_option maxRecDepth 100000 in
set_option maxHeartbeats 4000000 in
/-- told -/
theorem ct_X12_told {E : aG} (l : Launch) (q : Int32) {ci : Nat → Nat → Int32} {cl : Nat → Nat → Int64} {cr : Nat → Nat → Option Nat} {dy : aM} {nx : Nat}  : CT E l yX12_told cX12_told 2 (some .int) 1 [.ref 43, .int q] (mm ci cl cr dy) nx 0 0 (fun r M' nx' => (¬ II 0 4 q ∧ r = some (.int (-1)) ∧ M' = mm (up2 ci 43 0 0) cl cr dy ∧ nx = nx') ∨ (II 0 4 q ∧ (((up2 ci 43 0 0) 43 19 = 0 ∧ r = some (.int (-3)) ∧ M' = mm (up2 ci 43 0 0) cl cr dy ∧ nx = nx') ∨ (¬ (up2 ci 43 0 0) 43 19 = 0 ∧ ∃ k, k ≤ 4 ∧ q = nI k ∧ r = some (.int (tdF (up2 ci 43 0 0) k)) ∧ M' = mm (up2 ci 43 0 0) cl cr dy ∧ nx = nx')))) := by
  refine CT_intro (by decide) (Nat.le_of_ble_eq_true rfl) (fun Γ hΓ hQ => ?_)
  replace hΓ : CK E RX12 cX12_told 2 (some .int) "told" 1 0 0 Γ := hΓ
  show SV E Γ 2 (mm ci cl cr dy) nx 0 0 0 [(0, .ref 43), (1, .int q)] []
  refine sv_aload_n hΓ dX12_told_0 rfl 0 rfl rfl ?_
  refine sv_iconst (v := 0) hΓ dX12_told_1 (by decide) rfl ?_
  refine p_X12_99_43 hΓ dX12_told_2 rfl ?_
  generalize hc0 : up2 ci 43 0 0 = c0 at hQ ⊢
  refine sv_iload_n hΓ dX12_told_5 rfl 1 rfl rfl ?_
  refine sv_i2l hΓ dX12_told_6 rfl rfl ?_
  refine sv_lconst (v := 0) hΓ dX12_told_7 (by decide) rfl ?_
  refine sv_ldc2 hΓ dX12_told_8 tb_1124 rfl ?_
  refine sv_callS hΓ (fun l => ct_X12_isInI l q 0 4 0 4 (by decide) (by decide) rfl rfl) wv_X12_118 tb_1080 rfl rfl (by decide) (Nat.le_of_ble_eq_true rfl) (Nat.le_of_ble_eq_true rfl) (Nat.le_of_ble_eq_true rfl) dX12_told_11 rfl (fun r M' nx' p1 => ?_)
  obtain ⟨rfl, rfl, rfl⟩ := p1
  show SV E Γ 2 (mm c0 cl cr dy) nx 0 0 14 [(0, .ref 43), (1, .int q)] [.int (bI (II 0 4 q))]
  refine sv_if_ne (tgt := 19) hΓ dX12_told_14 (by decide) rfl (fun u2 => ?_) (fun u2 => ?_)
  · replace u2 := bI_ne.mp u2
    have hk := u2
    refine sv_aload_n hΓ dX12_told_19 rfl 0 rfl rfl ?_
    refine g_X12_110_43 hΓ dX12_told_20 rfl ?_
    refine sv_if_ne (tgt := 29) hΓ dX12_told_23 (by decide) rfl (fun u3 => ?_) (fun u3 => ?_)
    · replace u3 : ¬ ((c0 43 19) : Int32) = 0 := u3
      have hl := u3
      refine sv_iload_n hΓ dX12_told_29 rfl 1 rfl rfl ?_
      refine sv_if_ne (tgt := 40) hΓ dX12_told_30 (by decide) rfl (fun u4 => ?_) (fun u4 => ?_)
      · replace u4 : ¬ (q : Int32) = 0 := u4
        refine sv_iload_n hΓ dX12_told_40 rfl 1 rfl rfl ?_
        refine sv_iconst (v := 1) hΓ dX12_told_41 (by decide) rfl ?_
        refine sv_icmp_ne (tgt := 52) hΓ dX12_told_42 (by decide) rfl (fun u5 => ?_) (fun u5 => ?_)
        · replace u5 : ¬ (q : Int32) = 1 := u5
          refine sv_iload_n hΓ dX12_told_52 rfl 1 rfl rfl ?_
          refine sv_iconst (v := 2) hΓ dX12_told_53 (by decide) rfl ?_
          refine sv_icmp_ne (tgt := 64) hΓ dX12_told_54 (by decide) rfl (fun u6 => ?_) (fun u6 => ?_)
          · replace u6 : ¬ (q : Int32) = 2 := u6
            refine sv_iload_n hΓ dX12_told_64 rfl 1 rfl rfl ?_
            refine sv_iconst (v := 3) hΓ dX12_told_65 (by decide) rfl ?_
            refine sv_icmp_ne (tgt := 76) hΓ dX12_told_66 (by decide) rfl (fun u7 => ?_) (fun u7 => ?_)
            · replace u7 : ¬ (q : Int32) = 3 := u7
              refine sv_aload_n hΓ dX12_told_76 rfl 0 rfl rfl ?_
              refine g_X12_54_43 hΓ dX12_told_77 rfl ?_
              refine sv_iconst (v := 0) hΓ dX12_told_80 (by decide) rfl ?_
              refine ai_58 hΓ (0) rfl (by omega) dX12_told_81 rfl ?_
              refine sv_aload_n hΓ dX12_told_82 rfl 0 rfl rfl ?_
              refine g_X12_54_43 hΓ dX12_told_83 rfl ?_
              refine sv_iconst (v := 1) hΓ dX12_told_86 (by decide) rfl ?_
              refine ai_58 hΓ (1) rfl (by omega) dX12_told_87 rfl ?_
              refine sv_iadd hΓ dX12_told_88 rfl ?_
              refine sv_aload_n hΓ dX12_told_89 rfl 0 rfl rfl ?_
              refine g_X12_54_43 hΓ dX12_told_90 rfl ?_
              refine sv_iconst (v := 2) hΓ dX12_told_93 (by decide) rfl ?_
              refine ai_58 hΓ (2) rfl (by omega) dX12_told_94 rfl ?_
              refine sv_iadd hΓ dX12_told_95 rfl ?_
              refine sv_aload_n hΓ dX12_told_96 rfl 0 rfl rfl ?_
              refine g_X12_54_43 hΓ dX12_told_97 rfl ?_
              refine sv_iconst (v := 3) hΓ dX12_told_100 (by decide) rfl ?_
              refine ai_58 hΓ (3) rfl (by omega) dX12_told_101 rfl ?_
              refine sv_iadd hΓ dX12_told_102 rfl ?_
              exact sv_iret hΓ hQ dX12_told_103 (Nat.le_of_ble_eq_true rfl) (Nat.le_of_ble_eq_true rfl) (Or.inr ⟨hk, Or.inr ⟨hl, 4, by omega, td4 hk u4 u5 u6 u7, rfl, rfl, rfl⟩⟩)
            · replace u7 : (q : Int32) = 3 := u7
              refine sv_aload_n hΓ dX12_told_69 rfl 0 rfl rfl ?_
              refine g_X12_266_43 hΓ dX12_told_70 rfl ?_
              refine sv_goto (pc' := 103) hΓ dX12_told_73 (by decide) ?_
              exact sv_iret hΓ hQ dX12_told_103 (Nat.le_of_ble_eq_true rfl) (Nat.le_of_ble_eq_true rfl) (Or.inr ⟨hk, Or.inr ⟨hl, 3, by omega, u7, rfl, rfl, rfl⟩⟩)
          · replace u6 : (q : Int32) = 2 := u6
            refine sv_aload_n hΓ dX12_told_57 rfl 0 rfl rfl ?_
            refine g_X12_247_43 hΓ dX12_told_58 rfl ?_
            refine sv_goto (pc' := 103) hΓ dX12_told_61 (by decide) ?_
            exact sv_iret hΓ hQ dX12_told_103 (Nat.le_of_ble_eq_true rfl) (Nat.le_of_ble_eq_true rfl) (Or.inr ⟨hk, Or.inr ⟨hl, 2, by omega, u6, rfl, rfl, rfl⟩⟩)
        · replace u5 : (q : Int32) = 1 := u5
          refine sv_aload_n hΓ dX12_told_45 rfl 0 rfl rfl ?_
          refine g_X12_260_43 hΓ dX12_told_46 rfl ?_
          refine sv_goto (pc' := 103) hΓ dX12_told_49 (by decide) ?_
          exact sv_iret hΓ hQ dX12_told_103 (Nat.le_of_ble_eq_true rfl) (Nat.le_of_ble_eq_true rfl) (Or.inr ⟨hk, Or.inr ⟨hl, 1, by omega, u5, rfl, rfl, rfl⟩⟩)
      · replace u4 : (q : Int32) = 0 := u4
        refine sv_aload_n hΓ dX12_told_33 rfl 0 rfl rfl ?_
        refine g_X12_257_43 hΓ dX12_told_34 rfl ?_
        refine sv_goto (pc' := 103) hΓ dX12_told_37 (by decide) ?_
        exact sv_iret hΓ hQ dX12_told_103 (Nat.le_of_ble_eq_true rfl) (Nat.le_of_ble_eq_true rfl) (Or.inr ⟨hk, Or.inr ⟨hl, 0, by omega, u4, rfl, rfl, rfl⟩⟩)
    · replace u3 : ((c0 43 19) : Int32) = 0 := u3
      refine sv_bipush (v := (-3)) hΓ dX12_told_26 (by decide) rfl ?_
      exact sv_iret hΓ hQ dX12_told_28 (Nat.le_of_ble_eq_true rfl) (Nat.le_of_ble_eq_true rfl) (Or.inr ⟨hk, Or.inl ⟨u3, rfl, rfl, rfl⟩⟩)
  · replace u2 := bI_0.mp u2
    refine sv_iconst (v := (-1)) hΓ dX12_told_17 (by decide) rfl ?_
    exact sv_iret hΓ hQ dX12_told_18 (Nat.le_of_ble_eq_true rfl) (Nat.le_of_ble_eq_true rfl) (Or.inl ⟨u2, rfl, rfl, rfl⟩)
set_option maxRecDepth 100000 in
set_option maxHeartbeats 4000000 in
/-- outs -/
theorem ct_X12_outs {E : aG} (l : Launch) (q : Int32) {ci : Nat → Nat → Int32} {cl : Nat → Nat → Int64} {cr : Nat → Nat → Option Nat} {dy : aM} {nx : Nat}  : CT E l yX12_outs cX12_outs 2 (some .int) 1 [.ref 43, .int q] (mm ci cl cr dy) nx 0 0 (fun r M' nx' => (¬ II 0 3 q ∧ r = some (.int (-1)) ∧ M' = mm (up2 ci 43 0 0) cl cr dy ∧ nx = nx') ∨ (II 0 3 q ∧ (((up2 ci 43 0 0) 43 19 = 0 ∧ r = some (.int (-3)) ∧ M' = mm (up2 ci 43 0 0) cl cr dy ∧ nx = nx') ∨ (¬ (up2 ci 43 0 0) 43 19 = 0 ∧ r = some (.int ((up2 ci 43 0 0) 58 q.toNatClampNeg)) ∧ M' = mm (up2 ci 43 0 0) cl cr dy ∧ nx = nx')))) := by
  refine CT_intro (by decide) (Nat.le_of_ble_eq_true rfl) (fun Γ hΓ hQ => ?_)
  replace hΓ : CK E RX12 cX12_outs 2 (some .int) "outs" 1 0 0 Γ := hΓ
  show SV E Γ 2 (mm ci cl cr dy) nx 0 0 0 [(0, .ref 43), (1, .int q)] []
  refine sv_aload_n hΓ dX12_outs_0 rfl 0 rfl rfl ?_
  refine sv_iconst (v := 0) hΓ dX12_outs_1 (by decide) rfl ?_
  refine p_X12_99_43 hΓ dX12_outs_2 rfl ?_
  generalize hc0 : up2 ci 43 0 0 = c0 at hQ ⊢
  refine sv_iload_n hΓ dX12_outs_5 rfl 1 rfl rfl ?_
  refine sv_i2l hΓ dX12_outs_6 rfl rfl ?_
  refine sv_lconst (v := 0) hΓ dX12_outs_7 (by decide) rfl ?_
  refine sv_ldc2 hΓ dX12_outs_8 tb_1097 rfl ?_
  refine sv_callS hΓ (fun l => ct_X12_isInI l q 0 3 0 3 (by decide) (by decide) rfl rfl) wv_X12_118 tb_1080 rfl rfl (by decide) (Nat.le_of_ble_eq_true rfl) (Nat.le_of_ble_eq_true rfl) (Nat.le_of_ble_eq_true rfl) dX12_outs_11 rfl (fun r M' nx' p1 => ?_)
  obtain ⟨rfl, rfl, rfl⟩ := p1
  show SV E Γ 2 (mm c0 cl cr dy) nx 0 0 14 [(0, .ref 43), (1, .int q)] [.int (bI (II 0 3 q))]
  refine sv_if_ne (tgt := 21) hΓ dX12_outs_14 (by decide) rfl (fun u2 => ?_) (fun u2 => ?_)
  · replace u2 := bI_ne.mp u2
    have hkk := u2
    obtain ⟨k, hk0, hk3, ek⟩ := II.k u2
    refine sv_aload_n hΓ dX12_outs_21 rfl 0 rfl rfl ?_
    refine g_X12_110_43 hΓ dX12_outs_22 rfl ?_
    refine sv_if_ne (tgt := 33) hΓ dX12_outs_25 (by decide) rfl (fun u3 => ?_) (fun u3 => ?_)
    · replace u3 : ¬ ((c0 43 19) : Int32) = 0 := u3
      refine sv_aload_n hΓ dX12_outs_33 rfl 0 rfl rfl ?_
      refine g_X12_54_43 hΓ dX12_outs_34 rfl ?_
      refine sv_iload_n hΓ dX12_outs_37 rfl 1 rfl rfl ?_
      refine ai_58 hΓ (k) ek (by omega) dX12_outs_38 rfl ?_
      exact sv_iret hΓ hQ dX12_outs_39 (Nat.le_of_ble_eq_true rfl) (Nat.le_of_ble_eq_true rfl) (Or.inr ⟨hkk, Or.inr ⟨u3, by rw [ek, nI_clamp (by omega)], rfl, rfl⟩⟩)
    · replace u3 : ((c0 43 19) : Int32) = 0 := u3
      refine sv_bipush (v := (-3)) hΓ dX12_outs_28 (by decide) rfl ?_
      refine sv_goto (pc' := 39) hΓ dX12_outs_30 (by decide) ?_
      exact sv_iret hΓ hQ dX12_outs_39 (Nat.le_of_ble_eq_true rfl) (Nat.le_of_ble_eq_true rfl) (Or.inr ⟨hkk, Or.inl ⟨u3, rfl, rfl, rfl⟩⟩)
  · replace u2 := bI_0.mp u2
    refine sv_iconst (v := (-1)) hΓ dX12_outs_17 (by decide) rfl ?_
    refine sv_goto (pc' := 39) hΓ dX12_outs_18 (by decide) ?_
    exact sv_iret hΓ hQ dX12_outs_39 (Nat.le_of_ble_eq_true rfl) (Nat.le_of_ble_eq_true rfl) (Or.inl ⟨u2, rfl, rfl, rfl⟩)
set_option maxRecDepth 100000 in
set_option maxHeartbeats 4000000 in
/-- out -/
theorem ct_X12_out {E : aG} (l : Launch) (q : Int32) (i : Int32) {ci : Nat → Nat → Int32} {cl : Nat → Nat → Int64} {cr : Nat → Nat → Option Nat} {dy : aM} {nx : Nat} (hpu : ∀ k, k < 4 → ∃ v, v ≤ 16 ∧ ci 58 k = nI v) : CT E l yX12_out cX12_out 4 (some .long) 1 [.ref 43, .int q, .int i] (mm ci cl cr dy) nx 0 0 (fun r M' nx' => (¬ (II 0 3 q ∧ ¬ i < 0 ∧ (ci 43 19 = 0 ∨ i < ci 58 q.toNatClampNeg)) ∧ r = some (.long (0)) ∧ M' = mm (up2 ci 43 0 1) cl cr dy ∧ nx = nx') ∨ (((II 0 3 q ∧ ¬ i < 0) ∧ ci 43 19 = 0) ∧ r = some (.long 0) ∧ M' = mm (up2 ci 43 0 2) cl cr dy ∧ nx = nx') ∨ (∃ k j v, k < 4 ∧ v ≤ 16 ∧ ci 58 k = nI v ∧ q = nI k ∧ i = nI j ∧ j < v ∧ ¬ ci 43 19 = 0 ∧ r = some (.long (cl 59 (16 * k + j))) ∧ M' = mm (up2 ci 43 0 0) cl cr dy ∧ nx = nx')) := by
  refine CT_intro (by decide) (Nat.le_of_ble_eq_true rfl) (fun Γ hΓ hQ => ?_)
  replace hΓ : CK E RX12 cX12_out 4 (some .long) "out" 1 0 0 Γ := hΓ
  show SV E Γ 4 (mm ci cl cr dy) nx 0 0 0 [(0, .ref 43), (1, .int q), (2, .int i)] []
  refine sv_iload_n hΓ dX12_out_0 rfl 1 rfl rfl ?_
  refine sv_i2l hΓ dX12_out_1 rfl rfl ?_
  refine sv_lconst (v := 0) hΓ dX12_out_2 (by decide) rfl ?_
  refine sv_ldc2 hΓ dX12_out_3 tb_1097 rfl ?_
  refine sv_callS hΓ (fun l => ct_X12_isInI l q 0 3 0 3 (by decide) (by decide) rfl rfl) wv_X12_118 tb_1080 rfl rfl (by decide) (Nat.le_of_ble_eq_true rfl) (Nat.le_of_ble_eq_true rfl) (Nat.le_of_ble_eq_true rfl) dX12_out_6 rfl (fun r M' nx' p1 => ?_)
  obtain ⟨rfl, rfl, rfl⟩ := p1
  show SV E Γ 4 (mm ci cl cr dy) nx 0 0 9 [(0, .ref 43), (1, .int q), (2, .int i)] [.int (bI (II 0 3 q))]
  refine sv_if_eq (tgt := 37) hΓ dX12_out_9 (by decide) rfl (fun u2 => ?_) (fun u2 => ?_)
  · replace u2 := bI_0.mp u2
    refine sv_iconst (v := 0) hΓ dX12_out_37 (by decide) rfl ?_
    refine sv_istore_n (lv' := [(3, .int 0), (0, .ref 43), (1, .int q), (2, .int i)]) hΓ dX12_out_38 rfl (by decide) rfl rfl ?_
    refine sv_aload_n hΓ dX12_out_39 rfl 1 rfl rfl ?_
    refine sv_iload_n hΓ dX12_out_40 rfl 0 rfl rfl ?_
    refine sv_if_ne (tgt := 48) hΓ dX12_out_41 (by decide) rfl (fun u3 => absurd u3 (by decide)) (fun u3 => ?_)
    refine sv_iconst (v := 1) hΓ dX12_out_44 (by decide) rfl ?_
    refine sv_goto (pc' := 60) hΓ dX12_out_45 (by decide) ?_
    refine p_X12_99_43 hΓ dX12_out_60 rfl ?_
    refine sv_aload_n hΓ dX12_out_63 rfl 1 rfl rfl ?_
    refine g_X12_99_43 hΓ dX12_out_64 rfl ?_
    show SV E Γ 4 (mm (up2 ci 43 0 1) cl cr dy) nx 0 0 67 [(3, .int 0), (0, .ref 43), (1, .int q), (2, .int i)] [.int 1]
    refine sv_if_le (tgt := 74) hΓ dX12_out_67 (by decide) rfl (fun u4 => absurd u4 (by decide)) (fun u4 => ?_)
    replace u4 : ¬ ((1 : Int32) ≤ 0) := u4
    refine sv_lconst (v := 0) hΓ dX12_out_70 (by decide) rfl ?_
    refine sv_goto (pc' := 85) hΓ dX12_out_71 (by decide) ?_
    exact sv_lret hΓ hQ dX12_out_85 (Nat.le_of_ble_eq_true rfl) (Nat.le_of_ble_eq_true rfl) (Or.inl ⟨by first | grind | (rw [nI_clamp (by omega)]; grind), rfl, rfl, rfl⟩)
  · replace u2 := bI_ne.mp u2
    obtain ⟨k, hk0, hk3, eqk⟩ := II.k u2
    subst eqk
    obtain ⟨v, hv6, hv⟩ := hpu k (by omega)
    refine sv_iload_n hΓ dX12_out_12 rfl 2 rfl rfl ?_
    refine sv_if_lt (tgt := 37) hΓ dX12_out_13 (by decide) rfl (fun u5 => ?_) (fun u5 => ?_)
    · refine sv_iconst (v := 0) hΓ dX12_out_37 (by decide) rfl ?_
      refine sv_istore_n (lv' := [(3, .int 0), (0, .ref 43), (1, .int (nI k)), (2, .int i)]) hΓ dX12_out_38 rfl (by decide) rfl rfl ?_
      refine sv_aload_n hΓ dX12_out_39 rfl 1 rfl rfl ?_
      refine sv_iload_n hΓ dX12_out_40 rfl 0 rfl rfl ?_
      refine sv_if_ne (tgt := 48) hΓ dX12_out_41 (by decide) rfl (fun u6 => absurd u6 (by decide)) (fun u6 => ?_)
      refine sv_iconst (v := 1) hΓ dX12_out_44 (by decide) rfl ?_
      refine sv_goto (pc' := 60) hΓ dX12_out_45 (by decide) ?_
      refine p_X12_99_43 hΓ dX12_out_60 rfl ?_
      refine sv_aload_n hΓ dX12_out_63 rfl 1 rfl rfl ?_
      refine g_X12_99_43 hΓ dX12_out_64 rfl ?_
      show SV E Γ 4 (mm (up2 ci 43 0 1) cl cr dy) nx 0 0 67 [(3, .int 0), (0, .ref 43), (1, .int (nI k)), (2, .int i)] [.int 1]
      refine sv_if_le (tgt := 74) hΓ dX12_out_67 (by decide) rfl (fun u7 => absurd u7 (by decide)) (fun u7 => ?_)
      replace u7 : ¬ ((1 : Int32) ≤ 0) := u7
      refine sv_lconst (v := 0) hΓ dX12_out_70 (by decide) rfl ?_
      refine sv_goto (pc' := 85) hΓ dX12_out_71 (by decide) ?_
      exact sv_lret hΓ hQ dX12_out_85 (Nat.le_of_ble_eq_true rfl) (Nat.le_of_ble_eq_true rfl) (Or.inl ⟨by first | grind | (rw [nI_clamp (by omega)]; grind), rfl, rfl, rfl⟩)
    · refine sv_aload_n hΓ dX12_out_16 rfl 0 rfl rfl ?_
      refine g_X12_110_43 hΓ dX12_out_17 rfl ?_
      refine sv_if_eq (tgt := 33) hΓ dX12_out_20 (by decide) rfl (fun u8 => ?_) (fun u8 => ?_)
      · refine sv_iconst (v := 1) hΓ dX12_out_33 (by decide) rfl ?_
        refine sv_goto (pc' := 38) hΓ dX12_out_34 (by decide) ?_
        refine sv_istore_n (lv' := [(3, .int 1), (0, .ref 43), (1, .int (nI k)), (2, .int i)]) hΓ dX12_out_38 rfl (by decide) rfl rfl ?_
        refine sv_aload_n hΓ dX12_out_39 rfl 1 rfl rfl ?_
        refine sv_iload_n hΓ dX12_out_40 rfl 0 rfl rfl ?_
        refine sv_if_ne (tgt := 48) hΓ dX12_out_41 (by decide) rfl (fun u9 => ?_) (fun u9 => absurd u9 (by decide))
        refine sv_aload_n hΓ dX12_out_48 rfl 1 rfl rfl ?_
        refine g_X12_110_43 hΓ dX12_out_49 rfl ?_
        refine sv_if_ne (tgt := 59) hΓ dX12_out_52 (by decide) rfl (fun u10 => absurd u10 (not_not_intro u8)) (fun u10 => ?_)
        refine sv_iconst (v := 2) hΓ dX12_out_55 (by decide) rfl ?_
        refine sv_goto (pc' := 60) hΓ dX12_out_56 (by decide) ?_
        refine p_X12_99_43 hΓ dX12_out_60 rfl ?_
        refine sv_aload_n hΓ dX12_out_63 rfl 1 rfl rfl ?_
        refine g_X12_99_43 hΓ dX12_out_64 rfl ?_
        show SV E Γ 4 (mm (up2 ci 43 0 2) cl cr dy) nx 0 0 67 [(3, .int 1), (0, .ref 43), (1, .int (nI k)), (2, .int i)] [.int 2]
        refine sv_if_le (tgt := 74) hΓ dX12_out_67 (by decide) rfl (fun u11 => absurd u11 (by decide)) (fun u11 => ?_)
        replace u11 : ¬ ((2 : Int32) ≤ 0) := u11
        refine sv_lconst (v := 0) hΓ dX12_out_70 (by decide) rfl ?_
        refine sv_goto (pc' := 85) hΓ dX12_out_71 (by decide) ?_
        exact sv_lret hΓ hQ dX12_out_85 (Nat.le_of_ble_eq_true rfl) (Nat.le_of_ble_eq_true rfl) (Or.inr (Or.inl ⟨by grind, rfl, rfl, rfl⟩))
      · refine sv_iload_n hΓ dX12_out_23 rfl 2 rfl rfl ?_
        refine sv_aload_n hΓ dX12_out_24 rfl 0 rfl rfl ?_
        refine g_X12_54_43 hΓ dX12_out_25 rfl ?_
        refine sv_iload_n hΓ dX12_out_28 rfl 1 rfl rfl ?_
        refine ai_58 hΓ (k) rfl (by omega) dX12_out_29 rfl ?_
        refine sv_icmp_ge (tgt := 37) hΓ dX12_out_30 (by decide) rfl (fun u12 => ?_) (fun u12 => ?_)
        · refine sv_iconst (v := 0) hΓ dX12_out_37 (by decide) rfl ?_
          refine sv_istore_n (lv' := [(3, .int 0), (0, .ref 43), (1, .int (nI k)), (2, .int i)]) hΓ dX12_out_38 rfl (by decide) rfl rfl ?_
          refine sv_aload_n hΓ dX12_out_39 rfl 1 rfl rfl ?_
          refine sv_iload_n hΓ dX12_out_40 rfl 0 rfl rfl ?_
          refine sv_if_ne (tgt := 48) hΓ dX12_out_41 (by decide) rfl (fun u13 => absurd u13 (by decide)) (fun u13 => ?_)
          refine sv_iconst (v := 1) hΓ dX12_out_44 (by decide) rfl ?_
          refine sv_goto (pc' := 60) hΓ dX12_out_45 (by decide) ?_
          refine p_X12_99_43 hΓ dX12_out_60 rfl ?_
          refine sv_aload_n hΓ dX12_out_63 rfl 1 rfl rfl ?_
          refine g_X12_99_43 hΓ dX12_out_64 rfl ?_
          show SV E Γ 4 (mm (up2 ci 43 0 1) cl cr dy) nx 0 0 67 [(3, .int 0), (0, .ref 43), (1, .int (nI k)), (2, .int i)] [.int 1]
          refine sv_if_le (tgt := 74) hΓ dX12_out_67 (by decide) rfl (fun u14 => absurd u14 (by decide)) (fun u14 => ?_)
          replace u14 : ¬ ((1 : Int32) ≤ 0) := u14
          refine sv_lconst (v := 0) hΓ dX12_out_70 (by decide) rfl ?_
          refine sv_goto (pc' := 85) hΓ dX12_out_71 (by decide) ?_
          exact sv_lret hΓ hQ dX12_out_85 (Nat.le_of_ble_eq_true rfl) (Nat.le_of_ble_eq_true rfl) (Or.inl ⟨by first | grind | (rw [nI_clamp (by omega)]; grind), rfl, rfl, rfl⟩)
        · refine sv_iconst (v := 1) hΓ dX12_out_33 (by decide) rfl ?_
          refine sv_goto (pc' := 38) hΓ dX12_out_34 (by decide) ?_
          refine sv_istore_n (lv' := [(3, .int 1), (0, .ref 43), (1, .int (nI k)), (2, .int i)]) hΓ dX12_out_38 rfl (by decide) rfl rfl ?_
          refine sv_aload_n hΓ dX12_out_39 rfl 1 rfl rfl ?_
          refine sv_iload_n hΓ dX12_out_40 rfl 0 rfl rfl ?_
          refine sv_if_ne (tgt := 48) hΓ dX12_out_41 (by decide) rfl (fun u15 => ?_) (fun u15 => absurd u15 (by decide))
          refine sv_aload_n hΓ dX12_out_48 rfl 1 rfl rfl ?_
          refine g_X12_110_43 hΓ dX12_out_49 rfl ?_
          refine sv_if_ne (tgt := 59) hΓ dX12_out_52 (by decide) rfl (fun u16 => ?_) (fun u16 => absurd u16 u8)
          refine sv_iconst (v := 0) hΓ dX12_out_59 (by decide) rfl ?_
          refine p_X12_99_43 hΓ dX12_out_60 rfl ?_
          refine sv_aload_n hΓ dX12_out_63 rfl 1 rfl rfl ?_
          refine g_X12_99_43 hΓ dX12_out_64 rfl ?_
          show SV E Γ 4 (mm (up2 ci 43 0 0) cl cr dy) nx 0 0 67 [(3, .int 1), (0, .ref 43), (1, .int (nI k)), (2, .int i)] [.int 0]
          refine sv_if_le (tgt := 74) hΓ dX12_out_67 (by decide) rfl (fun u17 => ?_) (fun u17 => absurd (by decide) u17)
          replace u17 : (0 : Int32) ≤ 0 := u17
          obtain ⟨j, hj, ej⟩ : ∃ j, j < v ∧ i = nI j := i_below u5 (by rw [← hv]; exact u12) (by omega)
          subst ej
          have hr := u8
          refine sv_aload_n hΓ dX12_out_74 rfl 1 rfl rfl ?_
          refine g_X12_57_43 hΓ dX12_out_75 rfl ?_
          refine sv_bipush (v := 16) hΓ dX12_out_78 (by decide) rfl ?_
          refine sv_iload_n hΓ dX12_out_80 rfl 2 rfl rfl ?_
          refine sv_imulE (v := nI (16 * k)) hΓ dX12_out_81 (nx_mul rfl rfl) rfl ?_
          refine sv_iload_n hΓ dX12_out_82 rfl 3 rfl rfl ?_
          refine sv_iaddE (v := nI (16 * k + j)) hΓ dX12_out_83 (nx_add rfl rfl) rfl ?_
          refine al_59 hΓ (16 * k + j) rfl (by omega) dX12_out_84 rfl ?_
          exact sv_lret hΓ hQ dX12_out_85 (Nat.le_of_ble_eq_true rfl) (Nat.le_of_ble_eq_true rfl) (Or.inr (Or.inr ⟨k, j, v, by omega, by omega, hv, rfl, rfl, hj, hr, rfl, rfl, rfl⟩))
set_option maxRecDepth 100000 in
set_option maxHeartbeats 4000000 in
/-- row -/
theorem ct_X12_row {E : aG} (l : Launch) (q : Int32) {ci : Nat → Nat → Int32} {cl : Nat → Nat → Int64} {cr : Nat → Nat → Option Nat} {dy : aM} {nx : Nat}  : CT E l yX12_row cX12_row 2 (some .long) 1 [.ref 43, .int q] (mm ci cl cr dy) nx 0 0 (fun r M' nx' => (¬ II 0 15 q ∧ r = some (.long (0)) ∧ M' = mm (up2 ci 43 0 1) cl cr dy ∧ nx = nx') ∨ (II 0 15 q ∧ ci 43 19 = 0 ∧ r = some (.long (0)) ∧ M' = mm (up2 ci 43 0 2) cl cr dy ∧ nx = nx') ∨ (II 0 15 q ∧ ¬ ci 43 19 = 0 ∧ r = some (.long (cl 60 q.toNatClampNeg)) ∧ M' = mm (up2 ci 43 0 0) cl cr dy ∧ nx = nx')) := by
  refine CT_intro (by decide) (Nat.le_of_ble_eq_true rfl) (fun Γ hΓ hQ => ?_)
  replace hΓ : CK E RX12 cX12_row 2 (some .long) "row" 1 0 0 Γ := hΓ
  show SV E Γ 2 (mm ci cl cr dy) nx 0 0 0 [(0, .ref 43), (1, .int q)] []
  refine sv_aload_n hΓ dX12_row_0 rfl 0 rfl rfl ?_
  refine sv_iload_n hΓ dX12_row_1 rfl 1 rfl rfl ?_
  refine sv_i2l hΓ dX12_row_2 rfl rfl ?_
  refine sv_lconst (v := 0) hΓ dX12_row_3 (by decide) rfl ?_
  refine sv_ldc2 hΓ dX12_row_4 tb_1138 rfl ?_
  refine sv_callS hΓ (fun l => ct_X12_isInI l q 0 15 0 15 (by decide) (by decide) rfl rfl) wv_X12_118 tb_1080 rfl rfl (by decide) (Nat.le_of_ble_eq_true rfl) (Nat.le_of_ble_eq_true rfl) (Nat.le_of_ble_eq_true rfl) dX12_row_7 rfl (fun r M' nx' p1 => ?_)
  obtain ⟨rfl, rfl, rfl⟩ := p1
  show SV E Γ 2 (mm ci cl cr dy) nx 0 0 10 [(0, .ref 43), (1, .int q)] [.int (bI (II 0 15 q)), .ref 43]
  refine sv_if_ne (tgt := 17) hΓ dX12_row_10 (by decide) rfl (fun u2 => ?_) (fun u2 => ?_)
  · replace u2 := bI_ne.mp u2
    obtain ⟨k, hk0, hk3, ek⟩ := II.k u2
    refine sv_aload_n hΓ dX12_row_17 rfl 0 rfl rfl ?_
    refine g_X12_110_43 hΓ dX12_row_18 rfl ?_
    refine sv_if_ne (tgt := 28) hΓ dX12_row_21 (by decide) rfl (fun u3 => ?_) (fun u3 => ?_)
    · refine sv_iconst (v := 0) hΓ dX12_row_28 (by decide) rfl ?_
      refine p_X12_99_43 hΓ dX12_row_29 rfl ?_
      refine sv_aload_n hΓ dX12_row_32 rfl 0 rfl rfl ?_
      refine g_X12_99_43 hΓ dX12_row_33 rfl ?_
      show SV E Γ 2 (mm (up2 ci 43 0 0) cl cr dy) nx 0 0 36 [(0, .ref 43), (1, .int q)] [.int 0]
      refine sv_if_le (tgt := 43) hΓ dX12_row_36 (by decide) rfl (fun u4 => ?_) (fun u4 => absurd (by decide) u4)
      replace u4 : (0 : Int32) ≤ 0 := u4
      refine sv_aload_n hΓ dX12_row_43 rfl 0 rfl rfl ?_
      refine g_X12_60_43 hΓ dX12_row_44 rfl ?_
      refine sv_iload_n hΓ dX12_row_47 rfl 1 rfl rfl ?_
      refine al_60 hΓ (k) ek (by omega) dX12_row_48 rfl ?_
      exact sv_lret hΓ hQ dX12_row_49 (Nat.le_of_ble_eq_true rfl) (Nat.le_of_ble_eq_true rfl) (Or.inr (Or.inr ⟨u2, u3, by rw [ek, nI_clamp (by omega)], rfl, rfl⟩))
    · refine sv_iconst (v := 2) hΓ dX12_row_24 (by decide) rfl ?_
      refine sv_goto (pc' := 29) hΓ dX12_row_25 (by decide) ?_
      refine p_X12_99_43 hΓ dX12_row_29 rfl ?_
      refine sv_aload_n hΓ dX12_row_32 rfl 0 rfl rfl ?_
      refine g_X12_99_43 hΓ dX12_row_33 rfl ?_
      show SV E Γ 2 (mm (up2 ci 43 0 2) cl cr dy) nx 0 0 36 [(0, .ref 43), (1, .int q)] [.int 2]
      refine sv_if_le (tgt := 43) hΓ dX12_row_36 (by decide) rfl (fun u5 => absurd u5 (by decide)) (fun u5 => ?_)
      replace u5 : ¬ ((2 : Int32) ≤ 0) := u5
      refine sv_lconst (v := 0) hΓ dX12_row_39 (by decide) rfl ?_
      refine sv_goto (pc' := 49) hΓ dX12_row_40 (by decide) ?_
      exact sv_lret hΓ hQ dX12_row_49 (Nat.le_of_ble_eq_true rfl) (Nat.le_of_ble_eq_true rfl) (Or.inr (Or.inl ⟨u2, u3, rfl, rfl, rfl⟩))
  · replace u2 := bI_0.mp u2
    refine sv_iconst (v := 1) hΓ dX12_row_13 (by decide) rfl ?_
    refine sv_goto (pc' := 29) hΓ dX12_row_14 (by decide) ?_
    refine p_X12_99_43 hΓ dX12_row_29 rfl ?_
    refine sv_aload_n hΓ dX12_row_32 rfl 0 rfl rfl ?_
    refine g_X12_99_43 hΓ dX12_row_33 rfl ?_
    show SV E Γ 2 (mm (up2 ci 43 0 1) cl cr dy) nx 0 0 36 [(0, .ref 43), (1, .int q)] [.int 1]
    refine sv_if_le (tgt := 43) hΓ dX12_row_36 (by decide) rfl (fun u6 => absurd u6 (by decide)) (fun u6 => ?_)
    replace u6 : ¬ ((1 : Int32) ≤ 0) := u6
    refine sv_lconst (v := 0) hΓ dX12_row_39 (by decide) rfl ?_
    refine sv_goto (pc' := 49) hΓ dX12_row_40 (by decide) ?_
    exact sv_lret hΓ hQ dX12_row_49 (Nat.le_of_ble_eq_true rfl) (Nat.le_of_ble_eq_true rfl) (Or.inl ⟨u2, rfl, rfl, rfl⟩)
set_option maxRecDepth 100000 in
set_option maxHeartbeats 4000000 in
/-- count -/
theorem ct_X12_count {E : aG} (l : Launch) (q : Int32) (n : Nat) {ci : Nat → Nat → Int32} {cl : Nat → Nat → Int64} {cr : Nat → Nat → Option Nat} {dy : aM} {nx : Nat} (hn : ci 43 1 = nI n) (hn6 : n ≤ 16) : CT E l yX12_count cX12_count 4 (some .int) 1 [.ref 43, .int q] (mm ci cl cr dy) nx 0 0 (fun r M' nx' => r = some (.int (cnF (up2 ci 43 0 0) n q)) ∧ M' = mm (up2 ci 43 0 0) cl cr dy ∧ nx = nx') := by
  refine CT_intro (by decide) (Nat.le_of_ble_eq_true rfl) (fun Γ hΓ hQ => ?_)
  replace hΓ : CK E RX12 cX12_count 4 (some .int) "count" 1 0 0 Γ := hΓ
  show SV E Γ 4 (mm ci cl cr dy) nx 0 0 0 [(0, .ref 43), (1, .int q)] []
  refine sv_aload_n hΓ dX12_count_0 rfl 0 rfl rfl ?_
  refine sv_iconst (v := 0) hΓ dX12_count_1 (by decide) rfl ?_
  refine p_X12_99_43 hΓ dX12_count_2 rfl ?_
  generalize hc0 : up2 ci 43 0 0 = c0 at hQ ⊢
  replace hn : c0 43 1 = nI n := by rw [← hc0]; exact hn
  refine sv_iconst (v := 0) hΓ dX12_count_5 (by decide) rfl ?_
  refine sv_istore_n (lv' := [(2, .int 0), (0, .ref 43), (1, .int q)]) hΓ dX12_count_6 rfl (by decide) rfl rfl ?_
  refine sv_iload_n hΓ dX12_count_7 rfl 2 rfl rfl ?_
  refine sv_table (x := q) (lo := 0) (hi := 6) 6 rfl (fun u1 => ?_) (fun k hk u1 => ?_)
  · refine sv_tableOut (pc' := 120) hΓ dX12_count_8 u1 (by decide) ?_
    refine sv_iconst (v := (-1)) hΓ dX12_count_120 (by decide) rfl ?_
    exact sv_iret hΓ hQ dX12_count_121 (Nat.le_of_ble_eq_true rfl) (Nat.le_of_ble_eq_true rfl) ⟨by rw [cnF, if_neg (out_ne u1 0 (by decide)), if_neg (out_ne u1 1 (by decide)), if_neg (out_ne u1 2 (by decide)), if_neg (out_ne u1 3 (by decide)), if_neg (out_ne u1 4 (by decide)), if_neg (out_ne u1 5 (by decide)), if_neg (out_ne u1 6 (by decide))], rfl, rfl⟩
  · obtain rfl | rfl | rfl | rfl | rfl | rfl | rfl : k = 0 ∨ k = 1 ∨ k = 2 ∨ k = 3 ∨ k = 4 ∨ k = 5 ∨ k = 6 := by omega
    · refine sv_tableIn (off := 44) (pc' := 52) hΓ dX12_count_8 (by omega) (by omega) (by rw [u1]; rfl) (by decide) ?_
      replace u1 : q = (0 : Int32) := Int32.toInt_inj.mp (u1.trans (by decide))
      refine sv_aload_n hΓ dX12_count_52 rfl 1 rfl rfl ?_
      refine g_X12_103_43 hΓ dX12_count_53 rfl ?_
      exact sv_iret hΓ hQ dX12_count_56 (Nat.le_of_ble_eq_true rfl) (Nat.le_of_ble_eq_true rfl) ⟨by rw [u1]; rfl, rfl, rfl⟩
    · refine sv_tableIn (off := 49) (pc' := 57) hΓ dX12_count_8 (by omega) (by omega) (by rw [u1]; rfl) (by decide) ?_
      replace u1 : q = (1 : Int32) := Int32.toInt_inj.mp (u1.trans (by decide))
      refine sv_iconst (v := 0) hΓ dX12_count_57 (by decide) rfl ?_
      refine sv_istore_n (lv' := [(3, .int 0), (2, .int 0), (0, .ref 43), (1, .int q)]) hΓ dX12_count_58 rfl (by decide) rfl rfl ?_
      have LP59 : ∀ kq a : Nat, a + kq = n → SV E Γ 4 (mm c0 cl cr dy) nx 0 0 59 [(3, .int (nI a)), (2, .int (nI (osN c0 a))), (0, .ref 43), (1, .int q)] [] := by
        intro kq
        induction kq with
        | zero =>
          intro a ha
          have ea : a = n := by omega
          refine sv_iload_n hΓ dX12_count_59 rfl 0 rfl rfl ?_
          refine sv_aload_n hΓ dX12_count_60 rfl 2 rfl rfl ?_
          refine g_X12_103_43 hΓ dX12_count_61 rfl ?_
          refine sv_icmp_ge (tgt := 81) hΓ dX12_count_64 (by decide) rfl (fun u2 => ?_) (fun u2 => absurd (hn ▸ nI_le (by omega) (by omega)) u2)
          replace u2 : (c0 43 1) ≤ ((nI a) : Int32) := u2
          refine sv_iload_n hΓ dX12_count_81 rfl 1 rfl rfl ?_
          exact sv_iret hΓ hQ dX12_count_82 (Nat.le_of_ble_eq_true rfl) (Nat.le_of_ble_eq_true rfl) ⟨by rw [ea, u1]; rfl, rfl, rfl⟩
        | succ kq ih =>
          intro a ha
          refine sv_iload_n hΓ dX12_count_59 rfl 0 rfl rfl ?_
          refine sv_aload_n hΓ dX12_count_60 rfl 2 rfl rfl ?_
          refine g_X12_103_43 hΓ dX12_count_61 rfl ?_
          refine sv_icmp_ge (tgt := 81) hΓ dX12_count_64 (by decide) rfl (fun u3 => absurd u3 (hn ▸ nI_ge (by omega) (by omega))) (fun u3 => ?_)
          replace u3 : ¬ ((c0 43 1) ≤ ((nI a) : Int32)) := u3
          refine sv_iload_n hΓ dX12_count_67 rfl 1 rfl rfl ?_
          refine sv_aload_n hΓ dX12_count_68 rfl 2 rfl rfl ?_
          refine sv_iload_n hΓ dX12_count_69 rfl 0 rfl rfl ?_
          refine sv_callV hΓ (fun l => ct_X12_operandsOf l a (by omega)) wv_X12_269 vs_X12_operandsOf rfl m_43 rfl rfl (by decide) (Nat.le_of_ble_eq_true rfl) (Nat.le_of_ble_eq_true rfl) (Nat.le_of_ble_eq_true rfl) dX12_count_70 rfl (fun r M' nx' p4 => ?_)
          obtain ⟨rfl, rfl, rfl⟩ := p4
          show SV E Γ 4 (mm c0 cl cr dy) nx 0 0 73 [(3, .int (nI a)), (2, .int (nI (osN c0 a))), (0, .ref 43), (1, .int q)] [.int (nI (opN c0 a 3)), .int (nI (osN c0 a))]
          refine sv_iaddE (v := nI ((osN c0 a) + (opN c0 a 3))) hΓ dX12_count_73 (nx_add rfl rfl) rfl ?_
          refine sv_istore_n (lv' := [(2, .int (nI ((osN c0 a) + (opN c0 a 3)))), (3, .int (nI a)), (0, .ref 43), (1, .int q)]) hΓ dX12_count_74 rfl (by decide) rfl rfl ?_
          refine sv_iinc (v := nI (a + 1)) (lv' := [(3, .int (nI (a + 1))), (2, .int (nI ((osN c0 a) + (opN c0 a 3)))), (0, .ref 43), (1, .int q)]) hΓ dX12_count_75 1 rfl (nx_inc rfl) (by decide) rfl rfl ?_
          refine sv_goto (pc' := 59) hΓ dX12_count_78 (by decide) ?_
          have q := ih (a + 1) (by omega)
          exact SV_lv [0, 1, 2, 3] rfl q
      exact SV_lv [0, 1, 2, 3] rfl (LP59 n 0 (by omega))
    · refine sv_tableIn (off := 75) (pc' := 83) hΓ dX12_count_8 (by omega) (by omega) (by rw [u1]; rfl) (by decide) ?_
      replace u1 : q = (2 : Int32) := Int32.toInt_inj.mp (u1.trans (by decide))
      refine sv_aload_n hΓ dX12_count_83 rfl 1 rfl rfl ?_
      refine g_X12_36_43 hΓ dX12_count_84 rfl ?_
      refine sv_iconst (v := 0) hΓ dX12_count_87 (by decide) rfl ?_
      refine ai_52 hΓ (0) rfl (by omega) dX12_count_88 rfl ?_
      refine sv_aload_n hΓ dX12_count_89 rfl 1 rfl rfl ?_
      refine g_X12_36_43 hΓ dX12_count_90 rfl ?_
      refine sv_iconst (v := 1) hΓ dX12_count_93 (by decide) rfl ?_
      refine ai_52 hΓ (1) rfl (by omega) dX12_count_94 rfl ?_
      refine sv_iadd hΓ dX12_count_95 rfl ?_
      refine sv_aload_n hΓ dX12_count_96 rfl 1 rfl rfl ?_
      refine g_X12_36_43 hΓ dX12_count_97 rfl ?_
      refine sv_iconst (v := 2) hΓ dX12_count_100 (by decide) rfl ?_
      refine ai_52 hΓ (2) rfl (by omega) dX12_count_101 rfl ?_
      refine sv_iadd hΓ dX12_count_102 rfl ?_
      refine sv_aload_n hΓ dX12_count_103 rfl 1 rfl rfl ?_
      refine g_X12_36_43 hΓ dX12_count_104 rfl ?_
      refine sv_iconst (v := 3) hΓ dX12_count_107 (by decide) rfl ?_
      refine ai_52 hΓ (3) rfl (by omega) dX12_count_108 rfl ?_
      refine sv_iadd hΓ dX12_count_109 rfl ?_
      exact sv_iret hΓ hQ dX12_count_110 (Nat.le_of_ble_eq_true rfl) (Nat.le_of_ble_eq_true rfl) ⟨by rw [u1]; rfl, rfl, rfl⟩
    · refine sv_tableIn (off := 103) (pc' := 111) hΓ dX12_count_8 (by omega) (by omega) (by rw [u1]; rfl) (by decide) ?_
      replace u1 : q = (3 : Int32) := Int32.toInt_inj.mp (u1.trans (by decide))
      subst u1
      refine sv_aload_n hΓ dX12_count_111 rfl 1 rfl rfl ?_
      refine g_X12_26_43 hΓ dX12_count_112 rfl ?_
      refine sv_iload_n hΓ dX12_count_115 rfl 2 rfl rfl ?_
      refine sv_iconst (v := 3) hΓ dX12_count_116 (by decide) rfl ?_
      refine sv_isubE (v := nI (3 - 3)) hΓ dX12_count_117 (rfl) rfl ?_
      refine ai_49 hΓ (3 - 3) rfl (by omega) dX12_count_118 rfl ?_
      exact sv_iret hΓ hQ dX12_count_119 (Nat.le_of_ble_eq_true rfl) (Nat.le_of_ble_eq_true rfl) ⟨rfl, rfl, rfl⟩
    · refine sv_tableIn (off := 103) (pc' := 111) hΓ dX12_count_8 (by omega) (by omega) (by rw [u1]; rfl) (by decide) ?_
      replace u1 : q = (4 : Int32) := Int32.toInt_inj.mp (u1.trans (by decide))
      subst u1
      refine sv_aload_n hΓ dX12_count_111 rfl 1 rfl rfl ?_
      refine g_X12_26_43 hΓ dX12_count_112 rfl ?_
      refine sv_iload_n hΓ dX12_count_115 rfl 2 rfl rfl ?_
      refine sv_iconst (v := 3) hΓ dX12_count_116 (by decide) rfl ?_
      refine sv_isubE (v := nI (4 - 3)) hΓ dX12_count_117 (rfl) rfl ?_
      refine ai_49 hΓ (4 - 3) rfl (by omega) dX12_count_118 rfl ?_
      exact sv_iret hΓ hQ dX12_count_119 (Nat.le_of_ble_eq_true rfl) (Nat.le_of_ble_eq_true rfl) ⟨rfl, rfl, rfl⟩
    · refine sv_tableIn (off := 103) (pc' := 111) hΓ dX12_count_8 (by omega) (by omega) (by rw [u1]; rfl) (by decide) ?_
      replace u1 : q = (5 : Int32) := Int32.toInt_inj.mp (u1.trans (by decide))
      subst u1
      refine sv_aload_n hΓ dX12_count_111 rfl 1 rfl rfl ?_
      refine g_X12_26_43 hΓ dX12_count_112 rfl ?_
      refine sv_iload_n hΓ dX12_count_115 rfl 2 rfl rfl ?_
      refine sv_iconst (v := 3) hΓ dX12_count_116 (by decide) rfl ?_
      refine sv_isubE (v := nI (5 - 3)) hΓ dX12_count_117 (rfl) rfl ?_
      refine ai_49 hΓ (5 - 3) rfl (by omega) dX12_count_118 rfl ?_
      exact sv_iret hΓ hQ dX12_count_119 (Nat.le_of_ble_eq_true rfl) (Nat.le_of_ble_eq_true rfl) ⟨rfl, rfl, rfl⟩
    · refine sv_tableIn (off := 103) (pc' := 111) hΓ dX12_count_8 (by omega) (by omega) (by rw [u1]; rfl) (by decide) ?_
      replace u1 : q = (6 : Int32) := Int32.toInt_inj.mp (u1.trans (by decide))
      subst u1
      refine sv_aload_n hΓ dX12_count_111 rfl 1 rfl rfl ?_
      refine g_X12_26_43 hΓ dX12_count_112 rfl ?_
      refine sv_iload_n hΓ dX12_count_115 rfl 2 rfl rfl ?_
      refine sv_iconst (v := 3) hΓ dX12_count_116 (by decide) rfl ?_
      refine sv_isubE (v := nI (6 - 3)) hΓ dX12_count_117 (rfl) rfl ?_
      refine ai_49 hΓ (6 - 3) rfl (by omega) dX12_count_118 rfl ?_
      exact sv_iret hΓ hQ dX12_count_119 (Nat.le_of_ble_eq_true rfl) (Nat.le_of_ble_eq_true rfl) ⟨rfl, rfl, rfl⟩
