set_option maxRecDepth 100000 in
set_option maxHeartbeats 1000000 in
/-- bitCount_0f7a4 -/
theorem ct_J6_bitCount_0f7a4 {E : aG} (l : Launch) (x : Int32) {ci : Nat → Nat → Int32} {cl : Nat → Nat → Int64} {cr : Nat → Nat → Option Nat} {dy : aM} {nx : Nat}  : CT E l yJ6_bitCount_0f7a4 cJ6_bitCount_0f7a4 1 (some .int) 0 [.int x] (mm ci cl cr dy) nx 0 0 (fun r M' nx' => r = some (.int (nI (pbt (uN x) 32))) ∧ M' = mm ci cl cr dy ∧ nx = nx') := by
  refine CT_intro (by decide) (Nat.le_of_ble_eq_true rfl) (fun Γ hΓ hQ => ?_)
  replace hΓ : CK E RJ6 cJ6_bitCount_0f7a4 1 (some .int) "bitCount" 0 0 0 Γ := hΓ
  show SV E Γ 1 (mm ci cl cr dy) nx 0 0 0 [(0, .int x)] []
  refine sv_iload_n hΓ dJ6_bitCount_0f7a4_0 rfl 0 rfl rfl ?_
  refine sv_iload_n hΓ dJ6_bitCount_0f7a4_1 rfl 0 rfl rfl ?_
  refine sv_iconst (v := 1) hΓ dJ6_bitCount_0f7a4_2 (by decide) rfl ?_
  refine sv_iushr hΓ dJ6_bitCount_0f7a4_3 rfl rfl ?_
  refine sv_ldcw hΓ dJ6_bitCount_0f7a4_4 tb_632 rfl ?_
  refine sv_iand hΓ dJ6_bitCount_0f7a4_7 rfl ?_
  refine sv_isub hΓ dJ6_bitCount_0f7a4_8 rfl ?_
  refine sv_istore_n (lv' := [(0, .int (x - (((x.toUInt32 >>> (Int32.toUInt32 1 &&& Int32.toUInt32 31)).toInt32) &&& 1431655765)))]) hΓ dJ6_bitCount_0f7a4_9 rfl (by decide) rfl rfl ?_
  refine sv_iload_n hΓ dJ6_bitCount_0f7a4_10 rfl 0 rfl rfl ?_
  refine sv_ldcw hΓ dJ6_bitCount_0f7a4_11 tb_633 rfl ?_
  refine sv_iand hΓ dJ6_bitCount_0f7a4_14 rfl ?_
  refine sv_iload_n hΓ dJ6_bitCount_0f7a4_15 rfl 0 rfl rfl ?_
  refine sv_iconst (v := 2) hΓ dJ6_bitCount_0f7a4_16 (by decide) rfl ?_
  refine sv_iushr hΓ dJ6_bitCount_0f7a4_17 rfl rfl ?_
  refine sv_ldcw hΓ dJ6_bitCount_0f7a4_18 tb_633 rfl ?_
  refine sv_iand hΓ dJ6_bitCount_0f7a4_21 rfl ?_
  refine sv_iadd hΓ dJ6_bitCount_0f7a4_22 rfl ?_
  refine sv_istore_n (lv' := [(0, .int (((x - (((x.toUInt32 >>> (Int32.toUInt32 1 &&& Int32.toUInt32 31)).toInt32) &&& 1431655765)) &&& 858993459) + ((((x - (((x.toUInt32 >>> (Int32.toUInt32 1 &&& Int32.toUInt32 31)).toInt32) &&& 1431655765)).toUInt32 >>> (Int32.toUInt32 2 &&& Int32.toUInt32 31)).toInt32) &&& 858993459)))]) hΓ dJ6_bitCount_0f7a4_23 rfl (by decide) rfl rfl ?_
  refine sv_iload_n hΓ dJ6_bitCount_0f7a4_24 rfl 0 rfl rfl ?_
  refine sv_iload_n hΓ dJ6_bitCount_0f7a4_25 rfl 0 rfl rfl ?_
  refine sv_iconst (v := 4) hΓ dJ6_bitCount_0f7a4_26 (by decide) rfl ?_
  refine sv_iushr hΓ dJ6_bitCount_0f7a4_27 rfl rfl ?_
  refine sv_iadd hΓ dJ6_bitCount_0f7a4_28 rfl ?_
  refine sv_ldcw hΓ dJ6_bitCount_0f7a4_29 tb_634 rfl ?_
  refine sv_iand hΓ dJ6_bitCount_0f7a4_32 rfl ?_
  refine sv_istore_n (lv' := [(0, .int (((((x - (((x.toUInt32 >>> (Int32.toUInt32 1 &&& Int32.toUInt32 31)).toInt32) &&& 1431655765)) &&& 858993459) + ((((x - (((x.toUInt32 >>> (Int32.toUInt32 1 &&& Int32.toUInt32 31)).toInt32) &&& 1431655765)).toUInt32 >>> (Int32.toUInt32 2 &&& Int32.toUInt32 31)).toInt32) &&& 858993459)) + (((((x - (((x.toUInt32 >>> (Int32.toUInt32 1 &&& Int32.toUInt32 31)).toInt32) &&& 1431655765)) &&& 858993459) + ((((x - (((x.toUInt32 >>> (Int32.toUInt32 1 &&& Int32.toUInt32 31)).toInt32) &&& 1431655765)).toUInt32 >>> (Int32.toUInt32 2 &&& Int32.toUInt32 31)).toInt32) &&& 858993459)).toUInt32 >>> (Int32.toUInt32 4 &&& Int32.toUInt32 31)).toInt32)) &&& 252645135))]) hΓ dJ6_bitCount_0f7a4_33 rfl (by decide) rfl rfl ?_
  refine sv_iload_n hΓ dJ6_bitCount_0f7a4_34 rfl 0 rfl rfl ?_
  refine sv_iload_n hΓ dJ6_bitCount_0f7a4_35 rfl 0 rfl rfl ?_
  refine sv_bipush (v := 8) hΓ dJ6_bitCount_0f7a4_36 (by decide) rfl ?_
  refine sv_iushr hΓ dJ6_bitCount_0f7a4_38 rfl rfl ?_
  refine sv_iadd hΓ dJ6_bitCount_0f7a4_39 rfl ?_
  refine sv_istore_n (lv' := [(0, .int ((((((x - (((x.toUInt32 >>> (Int32.toUInt32 1 &&& Int32.toUInt32 31)).toInt32) &&& 1431655765)) &&& 858993459) + ((((x - (((x.toUInt32 >>> (Int32.toUInt32 1 &&& Int32.toUInt32 31)).toInt32) &&& 1431655765)).toUInt32 >>> (Int32.toUInt32 2 &&& Int32.toUInt32 31)).toInt32) &&& 858993459)) + (((((x - (((x.toUInt32 >>> (Int32.toUInt32 1 &&& Int32.toUInt32 31)).toInt32) &&& 1431655765)) &&& 858993459) + ((((x - (((x.toUInt32 >>> (Int32.toUInt32 1 &&& Int32.toUInt32 31)).toInt32) &&& 1431655765)).toUInt32 >>> (Int32.toUInt32 2 &&& Int32.toUInt32 31)).toInt32) &&& 858993459)).toUInt32 >>> (Int32.toUInt32 4 &&& Int32.toUInt32 31)).toInt32)) &&& 252645135) + (((((((x - (((x.toUInt32 >>> (Int32.toUInt32 1 &&& Int32.toUInt32 31)).toInt32) &&& 1431655765)) &&& 858993459) + ((((x - (((x.toUInt32 >>> (Int32.toUInt32 1 &&& Int32.toUInt32 31)).toInt32) &&& 1431655765)).toUInt32 >>> (Int32.toUInt32 2 &&& Int32.toUInt32 31)).toInt32) &&& 858993459)) + (((((x - (((x.toUInt32 >>> (Int32.toUInt32 1 &&& Int32.toUInt32 31)).toInt32) &&& 1431655765)) &&& 858993459) + ((((x - (((x.toUInt32 >>> (Int32.toUInt32 1 &&& Int32.toUInt32 31)).toInt32) &&& 1431655765)).toUInt32 >>> (Int32.toUInt32 2 &&& Int32.toUInt32 31)).toInt32) &&& 858993459)).toUInt32 >>> (Int32.toUInt32 4 &&& Int32.toUInt32 31)).toInt32)) &&& 252645135).toUInt32 >>> (Int32.toUInt32 8 &&& Int32.toUInt32 31)).toInt32)))]) hΓ dJ6_bitCount_0f7a4_40 rfl (by decide) rfl rfl ?_
  refine sv_iload_n hΓ dJ6_bitCount_0f7a4_41 rfl 0 rfl rfl ?_
  refine sv_iload_n hΓ dJ6_bitCount_0f7a4_42 rfl 0 rfl rfl ?_
  refine sv_bipush (v := 16) hΓ dJ6_bitCount_0f7a4_43 (by decide) rfl ?_
  refine sv_iushr hΓ dJ6_bitCount_0f7a4_45 rfl rfl ?_
  refine sv_iadd hΓ dJ6_bitCount_0f7a4_46 rfl ?_
  refine sv_istore_n (lv' := [(0, .int (((((((x - (((x.toUInt32 >>> (Int32.toUInt32 1 &&& Int32.toUInt32 31)).toInt32) &&& 1431655765)) &&& 858993459) + ((((x - (((x.toUInt32 >>> (Int32.toUInt32 1 &&& Int32.toUInt32 31)).toInt32) &&& 1431655765)).toUInt32 >>> (Int32.toUInt32 2 &&& Int32.toUInt32 31)).toInt32) &&& 858993459)) + (((((x - (((x.toUInt32 >>> (Int32.toUInt32 1 &&& Int32.toUInt32 31)).toInt32) &&& 1431655765)) &&& 858993459) + ((((x - (((x.toUInt32 >>> (Int32.toUInt32 1 &&& Int32.toUInt32 31)).toInt32) &&& 1431655765)).toUInt32 >>> (Int32.toUInt32 2 &&& Int32.toUInt32 31)).toInt32) &&& 858993459)).toUInt32 >>> (Int32.toUInt32 4 &&& Int32.toUInt32 31)).toInt32)) &&& 252645135) + (((((((x - (((x.toUInt32 >>> (Int32.toUInt32 1 &&& Int32.toUInt32 31)).toInt32) &&& 1431655765)) &&& 858993459) + ((((x - (((x.toUInt32 >>> (Int32.toUInt32 1 &&& Int32.toUInt32 31)).toInt32) &&& 1431655765)).toUInt32 >>> (Int32.toUInt32 2 &&& Int32.toUInt32 31)).toInt32) &&& 858993459)) + (((((x - (((x.toUInt32 >>> (Int32.toUInt32 1 &&& Int32.toUInt32 31)).toInt32) &&& 1431655765)) &&& 858993459) + ((((x - (((x.toUInt32 >>> (Int32.toUInt32 1 &&& Int32.toUInt32 31)).toInt32) &&& 1431655765)).toUInt32 >>> (Int32.toUInt32 2 &&& Int32.toUInt32 31)).toInt32) &&& 858993459)).toUInt32 >>> (Int32.toUInt32 4 &&& Int32.toUInt32 31)).toInt32)) &&& 252645135).toUInt32 >>> (Int32.toUInt32 8 &&& Int32.toUInt32 31)).toInt32)) + ((((((((x - (((x.toUInt32 >>> (Int32.toUInt32 1 &&& Int32.toUInt32 31)).toInt32) &&& 1431655765)) &&& 858993459) + ((((x - (((x.toUInt32 >>> (Int32.toUInt32 1 &&& Int32.toUInt32 31)).toInt32) &&& 1431655765)).toUInt32 >>> (Int32.toUInt32 2 &&& Int32.toUInt32 31)).toInt32) &&& 858993459)) + (((((x - (((x.toUInt32 >>> (Int32.toUInt32 1 &&& Int32.toUInt32 31)).toInt32) &&& 1431655765)) &&& 858993459) + ((((x - (((x.toUInt32 >>> (Int32.toUInt32 1 &&& Int32.toUInt32 31)).toInt32) &&& 1431655765)).toUInt32 >>> (Int32.toUInt32 2 &&& Int32.toUInt32 31)).toInt32) &&& 858993459)).toUInt32 >>> (Int32.toUInt32 4 &&& Int32.toUInt32 31)).toInt32)) &&& 252645135) + (((((((x - (((x.toUInt32 >>> (Int32.toUInt32 1 &&& Int32.toUInt32 31)).toInt32) &&& 1431655765)) &&& 858993459) + ((((x - (((x.toUInt32 >>> (Int32.toUInt32 1 &&& Int32.toUInt32 31)).toInt32) &&& 1431655765)).toUInt32 >>> (Int32.toUInt32 2 &&& Int32.toUInt32 31)).toInt32) &&& 858993459)) + (((((x - (((x.toUInt32 >>> (Int32.toUInt32 1 &&& Int32.toUInt32 31)).toInt32) &&& 1431655765)) &&& 858993459) + ((((x - (((x.toUInt32 >>> (Int32.toUInt32 1 &&& Int32.toUInt32 31)).toInt32) &&& 1431655765)).toUInt32 >>> (Int32.toUInt32 2 &&& Int32.toUInt32 31)).toInt32) &&& 858993459)).toUInt32 >>> (Int32.toUInt32 4 &&& Int32.toUInt32 31)).toInt32)) &&& 252645135).toUInt32 >>> (Int32.toUInt32 8 &&& Int32.toUInt32 31)).toInt32)).toUInt32 >>> (Int32.toUInt32 16 &&& Int32.toUInt32 31)).toInt32)))]) hΓ dJ6_bitCount_0f7a4_47 rfl (by decide) rfl rfl ?_
  refine sv_iload_n hΓ dJ6_bitCount_0f7a4_48 rfl 0 rfl rfl ?_
  refine sv_bipush (v := 63) hΓ dJ6_bitCount_0f7a4_49 (by decide) rfl ?_
  refine sv_iand hΓ dJ6_bitCount_0f7a4_51 rfl ?_
  exact sv_iret hΓ hQ dJ6_bitCount_0f7a4_52 (Nat.le_of_ble_eq_true rfl) (Nat.le_of_ble_eq_true rfl) ⟨by rw [← bc_e]; rfl, rfl, rfl⟩
set_option maxRecDepth 100000 in
set_option maxHeartbeats 1000000 in
/-- sourceOf -/
theorem ct_X6_sourceOf {E : aG} (l : Launch) (c : aI) (nu : Nat → Int64) (n : Nat) (x : Nat) {ci : Nat → Nat → Int32} {cl : Nat → Nat → Int64} {cr : Nat → Nat → Option Nat} {dy : aM} {nx : Nat} (hB : BK c nu ci cr dy n) (hx : x < n) (h57 : ∀ x, x < n → c 57 x = ci 17 x) : CT E l yX6_sourceOf cX6_sourceOf 3 (some .int) 1 [.ref 14, .int (nI x)] (mm ci cl cr dy) nx 0 0 (fun r M' nx' => r = some (.int (if c 44 x = 0 then 16 + nI x else c 57 x)) ∧ M' = mm ci cl cr dy ∧ nx = nx') := by
  refine CT_intro (by decide) (Nat.le_of_ble_eq_true rfl) (fun Γ hΓ hQ => ?_)
  replace hΓ : CK E RX6 cX6_sourceOf 3 (some .int) "sourceOf" 1 0 0 Γ := hΓ
  have hB0 := hB
  obtain ⟨hAC, hST, hn6, hn, hwf, hwp, hln⟩ := hB
  show SV E Γ 3 (mm ci cl cr dy) nx 0 0 0 [(0, .ref 14), (1, .int (nI x))] []
  refine sv_aload_n hΓ dX6_sourceOf_0 rfl 0 rfl rfl ?_
  refine g_X6_25_14 hΓ dX6_sourceOf_1 rfl ?_
  refine sv_iload_n hΓ dX6_sourceOf_4 rfl 1 rfl rfl ?_
  obtain ⟨kg1, sg1, hrg1, hAg1⟩ := hAC x (by omega)
  refine sv_callV hΓ (fun l => ct_X1_get l x kg1 (by omega) hrg1) wv_X6_60 vs_X1_get rfl m_2 rfl rfl (by decide) (Nat.le_of_ble_eq_true rfl) (Nat.le_of_ble_eq_true rfl) (Nat.le_of_ble_eq_true rfl) dX6_sourceOf_5 rfl (fun r M' nx' p2 => ?_)
  obtain ⟨rfl, rfl, rfl⟩ := p2
  show SV E Γ 3 (mm ci cl cr dy) nx 0 0 8 [(0, .ref 14), (1, .int (nI x))] [.ref kg1]
  refine gt_X6_64 hΓ hAg1.m rfl dX6_sourceOf_8 rfl ?_
  refine sv_if_ne (tgt := 18) hΓ dX6_sourceOf_11 (by decide) rfl (fun u3 => ?_) (fun u3 => ?_)
  · refine sv_iconst (v := 0) hΓ dX6_sourceOf_18 (by decide) rfl ?_
    refine sv_istore_n (lv' := [(2, .int 0), (0, .ref 14), (1, .int (nI x))]) hΓ dX6_sourceOf_19 rfl (by decide) rfl rfl ?_
    refine sv_iload_n hΓ dX6_sourceOf_20 rfl 0 rfl rfl ?_
    refine sv_if_eq (tgt := 31) hΓ dX6_sourceOf_21 (by decide) rfl (fun u4 => ?_) (fun u4 => absurd (by decide) u4)
    refine sv_aload_n hΓ dX6_sourceOf_31 rfl 1 rfl rfl ?_
    refine g_X6_18_14 hΓ dX6_sourceOf_32 rfl ?_
    refine sv_iload_n hΓ dX6_sourceOf_35 rfl 2 rfl rfl ?_
    refine ai_17 hΓ (x) rfl (by omega) dX6_sourceOf_36 rfl ?_
    exact sv_iret hΓ hQ dX6_sourceOf_37 (Nat.le_of_ble_eq_true rfl) (Nat.le_of_ble_eq_true rfl) ⟨by rw [if_neg u3]; rw [h57 x hx], rfl, rfl⟩
  · refine sv_iconst (v := 1) hΓ dX6_sourceOf_14 (by decide) rfl ?_
    refine sv_goto (pc' := 19) hΓ dX6_sourceOf_15 (by decide) ?_
    refine sv_istore_n (lv' := [(2, .int 1), (0, .ref 14), (1, .int (nI x))]) hΓ dX6_sourceOf_19 rfl (by decide) rfl rfl ?_
    refine sv_iload_n hΓ dX6_sourceOf_20 rfl 0 rfl rfl ?_
    refine sv_if_eq (tgt := 31) hΓ dX6_sourceOf_21 (by decide) rfl (fun u5 => absurd u5 (by decide)) (fun u5 => ?_)
    refine sv_bipush (v := 16) hΓ dX6_sourceOf_24 (by decide) rfl ?_
    refine sv_iload_n hΓ dX6_sourceOf_26 rfl 2 rfl rfl ?_
    refine sv_iaddE (v := nI (16 + x)) hΓ dX6_sourceOf_27 (nx_add rfl rfl) rfl ?_
    refine sv_goto (pc' := 37) hΓ dX6_sourceOf_28 (by decide) ?_
    exact sv_iret hΓ hQ dX6_sourceOf_37 (Nat.le_of_ble_eq_true rfl) (Nat.le_of_ble_eq_true rfl) ⟨by rw [if_pos u3]; exact congrArg (fun z => some (Value.int z)) (nI_add 16 x).symm, rfl, rfl⟩
set_option maxRecDepth 100000 in
set_option maxHeartbeats 1000000 in
/-- sourcesOf -/
theorem ct_X6_sourcesOf {E : aG} (l : Launch) (c : aI) (nu : Nat → Int64) (n : Nat) (j : Nat) (i : Int32) (z : Int32) (w : Nat) {ci : Nat → Nat → Int32} {cl : Nat → Nat → Int64} {cr : Nat → Nat → Option Nat} {dy : aM} {nx : Nat} (hB : BK c nu ci cr dy n) (h57 : ∀ x, x < n → c 57 x = ci 17 x) (hp12 : ∀ a, a < n → c 56 a = ci 12 a) (hw : w = if z = 0 then 0 else 1) (hrx : ∀ a, a < n → 0 ≤ c 46 (3 * a + w) → ∃ x, x < n ∧ c 46 (3 * a + w) = nI x) : CT E l yX6_sourcesOf cX6_sourcesOf 8 (some .int) 2 [.ref 14, .int (nI j), .int i, .int z] (mm ci cl cr dy) nx 0 0 (fun r M' nx' => r = some (.int (nI (pbt (uN (snF c (nI j) i w n)) 32))) ∧ M' = mm ci cl cr dy ∧ nx = nx') := by
  refine CT_intro (by decide) (Nat.le_of_ble_eq_true rfl) (fun Γ hΓ hQ => ?_)
  replace hΓ : CK E RX6 cX6_sourcesOf 8 (some .int) "sourcesOf" 2 0 0 Γ := hΓ
  have hB0 := hB
  obtain ⟨hAC, hST, hn6, hn, hwf, hwp, hln⟩ := hB
  show SV E Γ 8 (mm ci cl cr dy) nx 0 0 0 [(0, .ref 14), (1, .int (nI j)), (2, .int i), (3, .int z)] []
  refine sv_iconst (v := 0) hΓ dX6_sourcesOf_0 (by decide) rfl ?_
  refine sv_istore (lv' := [(4, .int 0), (0, .ref 14), (1, .int (nI j)), (2, .int i), (3, .int z)]) hΓ dX6_sourcesOf_1 (by decide) rfl rfl ?_
  refine sv_iconst (v := 0) hΓ dX6_sourcesOf_3 (by decide) rfl ?_
  refine sv_istore (lv' := [(5, .int 0), (4, .int 0), (0, .ref 14), (1, .int (nI j)), (2, .int i), (3, .int z)]) hΓ dX6_sourcesOf_4 (by decide) rfl rfl ?_
  have LP6 : ∀ kq a : Nat, a + kq = n → SV E Γ 8 (mm ci cl cr dy) nx 0 0 6 [(5, .int (nI a)), (4, .int (snF c (nI j) i w a)), (0, .ref 14), (1, .int (nI j)), (2, .int i), (3, .int z)] [] := by
    intro kq
    induction kq with
    | zero =>
      intro a ha
      have ea : a = n := by omega
      refine sv_iload hΓ dX6_sourcesOf_6 0 rfl rfl ?_
      refine sv_aload_n hΓ dX6_sourcesOf_8 rfl 2 rfl rfl ?_
      refine g_X6_25_14 hΓ dX6_sourcesOf_9 rfl ?_
      refine sv_callV hΓ (fun l => ct_X1_sizeN l n hn) wv_X6_37 vs_X1_size rfl m_2 rfl rfl (by decide) (Nat.le_of_ble_eq_true rfl) (Nat.le_of_ble_eq_true rfl) (Nat.le_of_ble_eq_true rfl) dX6_sourcesOf_12 rfl (fun r M' nx' p1 => ?_)
      obtain ⟨rfl, rfl, rfl⟩ := p1
      show SV E Γ 8 (mm ci cl cr dy) nx 0 0 15 [(5, .int (nI a)), (4, .int (snF c (nI j) i w a)), (0, .ref 14), (1, .int (nI j)), (2, .int i), (3, .int z)] [.int (nI n), .int (nI a)]
      refine sv_icmp_ge (tgt := 97) hΓ dX6_sourcesOf_15 (by decide) rfl (fun u2 => ?_) (fun u2 => absurd (nI_le (by omega) (by omega)) u2)
      refine sv_iload hΓ dX6_sourcesOf_97 1 rfl rfl ?_
      refine sv_callS hΓ (fun l => ct_J6_bitCount_0f7a4 l (snF c (nI j) i w a) ) wv_X6_103 tb_630 rfl rfl (by decide) (Nat.le_of_ble_eq_true rfl) (Nat.le_of_ble_eq_true rfl) (Nat.le_of_ble_eq_true rfl) dX6_sourcesOf_99 rfl (fun r M' nx' p3 => ?_)
      obtain ⟨rfl, rfl, rfl⟩ := p3
      show SV E Γ 8 (mm ci cl cr dy) nx 0 0 102 [(5, .int (nI a)), (4, .int (snF c (nI j) i w a)), (0, .ref 14), (1, .int (nI j)), (2, .int i), (3, .int z)] [.int (nI (pbt (uN (snF c (nI j) i w a)) 32))]
      exact sv_iret hΓ hQ dX6_sourcesOf_102 (Nat.le_of_ble_eq_true rfl) (Nat.le_of_ble_eq_true rfl) ⟨by rw [ea], rfl, rfl⟩
    | succ kq ih =>
      intro a ha
      refine sv_iload hΓ dX6_sourcesOf_6 0 rfl rfl ?_
      refine sv_aload_n hΓ dX6_sourcesOf_8 rfl 2 rfl rfl ?_
      refine g_X6_25_14 hΓ dX6_sourcesOf_9 rfl ?_
      refine sv_callV hΓ (fun l => ct_X1_sizeN l n hn) wv_X6_37 vs_X1_size rfl m_2 rfl rfl (by decide) (Nat.le_of_ble_eq_true rfl) (Nat.le_of_ble_eq_true rfl) (Nat.le_of_ble_eq_true rfl) dX6_sourcesOf_12 rfl (fun r M' nx' p4 => ?_)
      obtain ⟨rfl, rfl, rfl⟩ := p4
      show SV E Γ 8 (mm ci cl cr dy) nx 0 0 15 [(5, .int (nI a)), (4, .int (snF c (nI j) i w a)), (0, .ref 14), (1, .int (nI j)), (2, .int i), (3, .int z)] [.int (nI n), .int (nI a)]
      refine sv_icmp_ge (tgt := 97) hΓ dX6_sourcesOf_15 (by decide) rfl (fun u5 => absurd u5 (nI_ge (by omega) (by omega))) (fun u5 => ?_)
      refine sv_aload_n hΓ dX6_sourcesOf_18 rfl 2 rfl rfl ?_
      refine g_X6_25_14 hΓ dX6_sourcesOf_19 rfl ?_
      refine sv_iload hΓ dX6_sourcesOf_22 0 rfl rfl ?_
      obtain ⟨kg6, sg6, hrg6, hAg6⟩ := hAC a (by omega)
      refine sv_callV hΓ (fun l => ct_X1_get l a kg6 (by omega) hrg6) wv_X6_60 vs_X1_get rfl m_2 rfl rfl (by decide) (Nat.le_of_ble_eq_true rfl) (Nat.le_of_ble_eq_true rfl) (Nat.le_of_ble_eq_true rfl) dX6_sourcesOf_24 rfl (fun r M' nx' p7 => ?_)
      obtain ⟨rfl, rfl, rfl⟩ := p7
      show SV E Γ 8 (mm ci cl cr dy) nx 0 0 27 [(5, .int (nI a)), (4, .int (snF c (nI j) i w a)), (0, .ref 14), (1, .int (nI j)), (2, .int i), (3, .int z)] [.ref kg6]
      refine sv_astore (lv' := [(6, .ref kg6), (5, .int (nI a)), (4, .int (snF c (nI j) i w a)), (0, .ref 14), (1, .int (nI j)), (2, .int i), (3, .int z)]) hΓ dX6_sourcesOf_27 (by decide) rfl rfl ?_
      refine sv_iload_n hΓ dX6_sourcesOf_29 rfl 6 rfl rfl ?_
      refine sv_if_eq (tgt := 41) hΓ dX6_sourcesOf_30 (by decide) rfl (fun u8 => ?_) (fun u8 => ?_)
      · refine sv_aload hΓ dX6_sourcesOf_41 0 rfl rfl ?_
        refine gt_X6_91 hΓ hAg6.m rfl dX6_sourcesOf_43 rfl ?_
        rw [show oC c a 0 = oC c a w from by rw [hw, if_pos u8]]
        refine sv_istore (lv' := [(7, .int (oC c a w)), (6, .ref kg6), (5, .int (nI a)), (4, .int (snF c (nI j) i w a)), (0, .ref 14), (1, .int (nI j)), (2, .int i), (3, .int z)]) hΓ dX6_sourcesOf_46 (by decide) rfl rfl ?_
        refine sv_aload hΓ dX6_sourcesOf_48 1 rfl rfl ?_
        refine sv_callV hΓ (fun l => ct_X0_kind l c nu a kg6 sg6 hAg6) wv_X6_94 vs_X0_kind rfl hAg6.m rfl rfl (by decide) (Nat.le_of_ble_eq_true rfl) (Nat.le_of_ble_eq_true rfl) (Nat.le_of_ble_eq_true rfl) dX6_sourcesOf_50 rfl (fun r M' nx' p9 => ?_)
        obtain ⟨rfl, rfl, rfl⟩ := p9
        show SV E Γ 8 (mm ci cl cr dy) nx 0 0 53 [(7, .int (oC c a w)), (6, .ref kg6), (5, .int (nI a)), (4, .int (snF c (nI j) i w a)), (0, .ref 14), (1, .int (nI j)), (2, .int i), (3, .int z)] [.int (kd (c 44 a))]
        refine sv_iload_n hΓ dX6_sourcesOf_53 rfl 5 rfl rfl ?_
        refine sv_icmp_ne (tgt := 91) hΓ dX6_sourcesOf_54 (by decide) rfl (fun u10 => ?_) (fun u10 => ?_)
        · refine sv_iinc (v := nI (a + 1)) (lv' := [(5, .int (nI (a + 1))), (7, .int (oC c a w)), (6, .ref kg6), (4, .int (snF c (nI j) i w a)), (0, .ref 14), (1, .int (nI j)), (2, .int i), (3, .int z)]) hΓ dX6_sourcesOf_91 2 rfl (nx_inc rfl) (by decide) rfl rfl ?_
          refine sv_goto (pc' := 6) hΓ dX6_sourcesOf_94 (by decide) ?_
          have q := ih (a + 1) (by omega)
          rw [show snF c (nI j) i w (a + 1) = snF c (nI j) i w a from if_neg (fun q => u10 q.1)] at q
          exact SV_lv [0, 3, 4, 5, 6, 7] rfl q
        · refine sv_aload_n hΓ dX6_sourcesOf_57 rfl 4 rfl rfl ?_
          refine g_X6_33_14 hΓ dX6_sourcesOf_58 rfl ?_
          refine g_X6_97_10 hΓ dX6_sourcesOf_61 rfl ?_
          refine sv_iload hΓ dX6_sourcesOf_64 2 rfl rfl ?_
          refine ai_12 hΓ (a) rfl (by omega) dX6_sourcesOf_66 rfl ?_
          refine sv_iload_n hΓ dX6_sourcesOf_67 rfl 6 rfl rfl ?_
          refine sv_icmp_ne (tgt := 91) hΓ dX6_sourcesOf_68 (by decide) rfl (fun u11 => ?_) (fun u11 => ?_)
          · refine sv_iinc (v := nI (a + 1)) (lv' := [(5, .int (nI (a + 1))), (7, .int (oC c a w)), (6, .ref kg6), (4, .int (snF c (nI j) i w a)), (0, .ref 14), (1, .int (nI j)), (2, .int i), (3, .int z)]) hΓ dX6_sourcesOf_91 2 rfl (nx_inc rfl) (by decide) rfl rfl ?_
            refine sv_goto (pc' := 6) hΓ dX6_sourcesOf_94 (by decide) ?_
            have q := ih (a + 1) (by omega)
            rw [show snF c (nI j) i w (a + 1) = snF c (nI j) i w a from if_neg (fun q => u11 (by rw [← hp12 a (by omega)]; exact q.2.1))] at q
            exact SV_lv [0, 3, 4, 5, 6, 7] rfl q
          · refine sv_iload hΓ dX6_sourcesOf_71 0 rfl rfl ?_
            refine sv_bipush (v := (-2)) hΓ dX6_sourcesOf_73 (by decide) rfl ?_
            refine sv_icmp_eq (tgt := 91) hΓ dX6_sourcesOf_75 (by decide) rfl (fun u12 => ?_) (fun u12 => ?_)
            · refine sv_iinc (v := nI (a + 1)) (lv' := [(5, .int (nI (a + 1))), (7, .int (oC c a w)), (6, .ref kg6), (4, .int (snF c (nI j) i w a)), (0, .ref 14), (1, .int (nI j)), (2, .int i), (3, .int z)]) hΓ dX6_sourcesOf_91 2 rfl (nx_inc rfl) (by decide) rfl rfl ?_
              refine sv_goto (pc' := 6) hΓ dX6_sourcesOf_94 (by decide) ?_
              have q := ih (a + 1) (by omega)
              rw [show snF c (nI j) i w (a + 1) = snF c (nI j) i w a from if_neg (fun q => absurd (oC_m2.mp u12) (Int32.not_lt.mpr q.2.2))] at q
              exact SV_lv [0, 3, 4, 5, 6, 7] rfl q
            · have hge : 0 ≤ c 46 (3 * a + w) := Int32.not_lt.mp (fun q => u12 (oC_m2.mpr q))
              obtain ⟨x, hx6, ex⟩ := hrx a (by omega) hge
              rw [show oC c a w = nI x from oC_x ex (by omega)]
              refine sv_iload hΓ dX6_sourcesOf_78 3 rfl rfl ?_
              refine sv_iconst (v := 1) hΓ dX6_sourcesOf_80 (by decide) rfl ?_
              refine sv_aload_n hΓ dX6_sourcesOf_81 rfl 4 rfl rfl ?_
              refine sv_iload hΓ dX6_sourcesOf_82 0 rfl rfl ?_
              refine sv_callV hΓ (fun l => ct_X6_sourceOf l c nu n x hB0 hx6 h57) wv_X6_100 vs_X6_sourceOf rfl m_14 rfl rfl (by decide) (Nat.le_of_ble_eq_true rfl) (Nat.le_of_ble_eq_true rfl) (Nat.le_of_ble_eq_true rfl) dX6_sourcesOf_84 rfl (fun r M' nx' p13 => ?_)
              obtain ⟨rfl, rfl, rfl⟩ := p13
              show SV E Γ 8 (mm ci cl cr dy) nx 0 0 87 [(7, .int (nI x)), (6, .ref kg6), (5, .int (nI a)), (4, .int (snF c (nI j) i w a)), (0, .ref 14), (1, .int (nI j)), (2, .int i), (3, .int z)] [.int (if c 44 x = 0 then 16 + nI x else c 57 x), .int 1, .int (snF c (nI j) i w a)]
              refine sv_ishl hΓ dX6_sourcesOf_87 rfl ?_
              refine sv_ior hΓ dX6_sourcesOf_88 rfl ?_
              refine sv_istore (lv' := [(4, .int ((snF c (nI j) i w a) ||| (1 <<< ((if c 44 x = 0 then 16 + nI x else c 57 x) &&& 31)))), (7, .int (nI x)), (6, .ref kg6), (5, .int (nI a)), (0, .ref 14), (1, .int (nI j)), (2, .int i), (3, .int z)]) hΓ dX6_sourcesOf_89 (by decide) rfl rfl ?_
              refine sv_iinc (v := nI (a + 1)) (lv' := [(5, .int (nI (a + 1))), (4, .int ((snF c (nI j) i w a) ||| (1 <<< ((if c 44 x = 0 then 16 + nI x else c 57 x) &&& 31)))), (7, .int (nI x)), (6, .ref kg6), (0, .ref 14), (1, .int (nI j)), (2, .int i), (3, .int z)]) hΓ dX6_sourcesOf_91 3 rfl (nx_inc rfl) (by decide) rfl rfl ?_
              refine sv_goto (pc' := 6) hΓ dX6_sourcesOf_94 (by decide) ?_
              have q := ih (a + 1) (by omega)
              rw [show snF c (nI j) i w (a + 1) = (snF c (nI j) i w a) ||| (1 <<< ((if c 44 x = 0 then 16 + nI x else c 57 x) &&& 31)) from by show (if acv c (nI j) i w a then _ else _) = _; rw [if_pos ⟨u10, by rw [hp12 a (by omega)]; exact u11, hge⟩]; unfold svF; rw [ex, nI_clamp (by omega)]] at q
              exact SV_lv [0, 1, 4, 5, 6, 7] rfl q
      · refine sv_aload hΓ dX6_sourcesOf_33 0 rfl rfl ?_
        refine gt_X6_88 hΓ hAg6.m rfl dX6_sourcesOf_35 rfl ?_
        refine sv_goto (pc' := 46) hΓ dX6_sourcesOf_38 (by decide) ?_
        rw [show oC c a 1 = oC c a w from by rw [hw, if_neg u8]]
        refine sv_istore (lv' := [(7, .int (oC c a w)), (6, .ref kg6), (5, .int (nI a)), (4, .int (snF c (nI j) i w a)), (0, .ref 14), (1, .int (nI j)), (2, .int i), (3, .int z)]) hΓ dX6_sourcesOf_46 (by decide) rfl rfl ?_
        refine sv_aload hΓ dX6_sourcesOf_48 1 rfl rfl ?_
        refine sv_callV hΓ (fun l => ct_X0_kind l c nu a kg6 sg6 hAg6) wv_X6_94 vs_X0_kind rfl hAg6.m rfl rfl (by decide) (Nat.le_of_ble_eq_true rfl) (Nat.le_of_ble_eq_true rfl) (Nat.le_of_ble_eq_true rfl) dX6_sourcesOf_50 rfl (fun r M' nx' p14 => ?_)
        obtain ⟨rfl, rfl, rfl⟩ := p14
        show SV E Γ 8 (mm ci cl cr dy) nx 0 0 53 [(7, .int (oC c a w)), (6, .ref kg6), (5, .int (nI a)), (4, .int (snF c (nI j) i w a)), (0, .ref 14), (1, .int (nI j)), (2, .int i), (3, .int z)] [.int (kd (c 44 a))]
        refine sv_iload_n hΓ dX6_sourcesOf_53 rfl 5 rfl rfl ?_
        refine sv_icmp_ne (tgt := 91) hΓ dX6_sourcesOf_54 (by decide) rfl (fun u15 => ?_) (fun u15 => ?_)
        · refine sv_iinc (v := nI (a + 1)) (lv' := [(5, .int (nI (a + 1))), (7, .int (oC c a w)), (6, .ref kg6), (4, .int (snF c (nI j) i w a)), (0, .ref 14), (1, .int (nI j)), (2, .int i), (3, .int z)]) hΓ dX6_sourcesOf_91 2 rfl (nx_inc rfl) (by decide) rfl rfl ?_
          refine sv_goto (pc' := 6) hΓ dX6_sourcesOf_94 (by decide) ?_
          have q := ih (a + 1) (by omega)
          rw [show snF c (nI j) i w (a + 1) = snF c (nI j) i w a from if_neg (fun q => u15 q.1)] at q
          exact SV_lv [0, 3, 4, 5, 6, 7] rfl q
        · refine sv_aload_n hΓ dX6_sourcesOf_57 rfl 4 rfl rfl ?_
          refine g_X6_33_14 hΓ dX6_sourcesOf_58 rfl ?_
          refine g_X6_97_10 hΓ dX6_sourcesOf_61 rfl ?_
          refine sv_iload hΓ dX6_sourcesOf_64 2 rfl rfl ?_
          refine ai_12 hΓ (a) rfl (by omega) dX6_sourcesOf_66 rfl ?_
          refine sv_iload_n hΓ dX6_sourcesOf_67 rfl 6 rfl rfl ?_
          refine sv_icmp_ne (tgt := 91) hΓ dX6_sourcesOf_68 (by decide) rfl (fun u16 => ?_) (fun u16 => ?_)
          · refine sv_iinc (v := nI (a + 1)) (lv' := [(5, .int (nI (a + 1))), (7, .int (oC c a w)), (6, .ref kg6), (4, .int (snF c (nI j) i w a)), (0, .ref 14), (1, .int (nI j)), (2, .int i), (3, .int z)]) hΓ dX6_sourcesOf_91 2 rfl (nx_inc rfl) (by decide) rfl rfl ?_
            refine sv_goto (pc' := 6) hΓ dX6_sourcesOf_94 (by decide) ?_
            have q := ih (a + 1) (by omega)
            rw [show snF c (nI j) i w (a + 1) = snF c (nI j) i w a from if_neg (fun q => u16 (by rw [← hp12 a (by omega)]; exact q.2.1))] at q
            exact SV_lv [0, 3, 4, 5, 6, 7] rfl q
          · refine sv_iload hΓ dX6_sourcesOf_71 0 rfl rfl ?_
            refine sv_bipush (v := (-2)) hΓ dX6_sourcesOf_73 (by decide) rfl ?_
            refine sv_icmp_eq (tgt := 91) hΓ dX6_sourcesOf_75 (by decide) rfl (fun u17 => ?_) (fun u17 => ?_)
            · refine sv_iinc (v := nI (a + 1)) (lv' := [(5, .int (nI (a + 1))), (7, .int (oC c a w)), (6, .ref kg6), (4, .int (snF c (nI j) i w a)), (0, .ref 14), (1, .int (nI j)), (2, .int i), (3, .int z)]) hΓ dX6_sourcesOf_91 2 rfl (nx_inc rfl) (by decide) rfl rfl ?_
              refine sv_goto (pc' := 6) hΓ dX6_sourcesOf_94 (by decide) ?_
              have q := ih (a + 1) (by omega)
              rw [show snF c (nI j) i w (a + 1) = snF c (nI j) i w a from if_neg (fun q => absurd (oC_m2.mp u17) (Int32.not_lt.mpr q.2.2))] at q
              exact SV_lv [0, 3, 4, 5, 6, 7] rfl q
            · have hge : 0 ≤ c 46 (3 * a + w) := Int32.not_lt.mp (fun q => u17 (oC_m2.mpr q))
              obtain ⟨x, hx6, ex⟩ := hrx a (by omega) hge
              rw [show oC c a w = nI x from oC_x ex (by omega)]
              refine sv_iload hΓ dX6_sourcesOf_78 3 rfl rfl ?_
              refine sv_iconst (v := 1) hΓ dX6_sourcesOf_80 (by decide) rfl ?_
              refine sv_aload_n hΓ dX6_sourcesOf_81 rfl 4 rfl rfl ?_
              refine sv_iload hΓ dX6_sourcesOf_82 0 rfl rfl ?_
              refine sv_callV hΓ (fun l => ct_X6_sourceOf l c nu n x hB0 hx6 h57) wv_X6_100 vs_X6_sourceOf rfl m_14 rfl rfl (by decide) (Nat.le_of_ble_eq_true rfl) (Nat.le_of_ble_eq_true rfl) (Nat.le_of_ble_eq_true rfl) dX6_sourcesOf_84 rfl (fun r M' nx' p18 => ?_)
              obtain ⟨rfl, rfl, rfl⟩ := p18
              show SV E Γ 8 (mm ci cl cr dy) nx 0 0 87 [(7, .int (nI x)), (6, .ref kg6), (5, .int (nI a)), (4, .int (snF c (nI j) i w a)), (0, .ref 14), (1, .int (nI j)), (2, .int i), (3, .int z)] [.int (if c 44 x = 0 then 16 + nI x else c 57 x), .int 1, .int (snF c (nI j) i w a)]
              refine sv_ishl hΓ dX6_sourcesOf_87 rfl ?_
              refine sv_ior hΓ dX6_sourcesOf_88 rfl ?_
              refine sv_istore (lv' := [(4, .int ((snF c (nI j) i w a) ||| (1 <<< ((if c 44 x = 0 then 16 + nI x else c 57 x) &&& 31)))), (7, .int (nI x)), (6, .ref kg6), (5, .int (nI a)), (0, .ref 14), (1, .int (nI j)), (2, .int i), (3, .int z)]) hΓ dX6_sourcesOf_89 (by decide) rfl rfl ?_
              refine sv_iinc (v := nI (a + 1)) (lv' := [(5, .int (nI (a + 1))), (4, .int ((snF c (nI j) i w a) ||| (1 <<< ((if c 44 x = 0 then 16 + nI x else c 57 x) &&& 31)))), (7, .int (nI x)), (6, .ref kg6), (0, .ref 14), (1, .int (nI j)), (2, .int i), (3, .int z)]) hΓ dX6_sourcesOf_91 3 rfl (nx_inc rfl) (by decide) rfl rfl ?_
              refine sv_goto (pc' := 6) hΓ dX6_sourcesOf_94 (by decide) ?_
              have q := ih (a + 1) (by omega)
              rw [show snF c (nI j) i w (a + 1) = (snF c (nI j) i w a) ||| (1 <<< ((if c 44 x = 0 then 16 + nI x else c 57 x) &&& 31)) from by show (if acv c (nI j) i w a then _ else _) = _; rw [if_pos ⟨u15, by rw [hp12 a (by omega)]; exact u16, hge⟩]; unfold svF; rw [ex, nI_clamp (by omega)]] at q
              exact SV_lv [0, 1, 4, 5, 6, 7] rfl q
  exact SV_lv [0, 1, 2, 3, 4, 5] rfl (LP6 n 0 (by omega))
set_option maxRecDepth 100000 in
set_option maxHeartbeats 1000000 in
/-- chooser -/
theorem ct_X11_chooser {E : aG} (l : Launch) (c : aI) (nu : Nat → Int64) (n : Nat) (q : Int32) (i : Int32) (z : Int32) (w : Nat) {ci : Nat → Nat → Int32} {cl : Nat → Nat → Int64} {cr : Nat → Nat → Option Nat} {dy : aM} {nx : Nat} (hB : BK c nu ci cr dy n) (hld : ¬ ci 1 7 = 0 → (∀ x, x < n → c 57 x = ci 17 x) ∧ ∀ a, a < n → c 56 a = ci 12 a) (hw : w = if z = 0 then 0 else 1) (hrx : ∀ a, a < n → 0 ≤ c 46 (3 * a + w) → ∃ x, x < n ∧ c 46 (3 * a + w) = nI x) : CT E l yX11_chooser cX11_chooser 4 (some .int) 3 [.ref 1, .int q, .int i, .int z] (mm ci cl cr dy) nx 0 0 (fun r M' nx' => (¬ (II 0 3 q ∧ ¬ i < 0 ∧ i < ci 5 q.toNatClampNeg) ∧ r = some (.int (-1)) ∧ M' = mm (ci) (cl) cr dy ∧ nx = nx') ∨ (∃ k, k < 4 ∧ q = nI k ∧ (¬ i < 0 ∧ i < ci 5 k) ∧ ((ci 1 7 = 0 ∧ r = some (.int (-3)) ∧ M' = mm (ci) (cl) cr dy ∧ nx = nx') ∨ (¬ ci 1 7 = 0 ∧ r = some (.int (nI (pbt (uN (snF c (nI k) i w n)) 32))) ∧ M' = mm (ci) (cl) cr dy ∧ nx = nx')))) := by
  refine CT_intro (by decide) (Nat.le_of_ble_eq_true rfl) (fun Γ hΓ hQ => ?_)
  replace hΓ : CK E RX11 cX11_chooser 4 (some .int) "chooser" 3 0 0 Γ := hΓ
  have hB0 := hB
  obtain ⟨hAC, hST, hn6, hn, hwf, hwp, hln⟩ := hB
  show SV E Γ 4 (mm ci cl cr dy) nx 0 0 0 [(0, .ref 1), (1, .int q), (2, .int i), (3, .int z)] []
  refine sv_iload_n hΓ dX11_chooser_0 rfl 1 rfl rfl ?_
  refine sv_callS hΓ (fun l => ct_X11_isKind l q ) wv_X11_137 tb_433 rfl rfl (by decide) (Nat.le_of_ble_eq_true rfl) (Nat.le_of_ble_eq_true rfl) (Nat.le_of_ble_eq_true rfl) dX11_chooser_1 rfl (fun r M' nx' p1 => ?_)
  obtain ⟨rfl, rfl, rfl⟩ := p1
  show SV E Γ 4 (mm ci cl cr dy) nx 0 0 4 [(0, .ref 1), (1, .int q), (2, .int i), (3, .int z)] [.int (bI (II 0 3 q))]
  refine sv_if_eq (tgt := 24) hΓ dX11_chooser_4 (by decide) rfl (fun u2 => ?_) (fun u2 => ?_)
  · replace u2 := bI_0.mp u2
    refine sv_iconst (v := (-1)) hΓ dX11_chooser_24 (by decide) rfl ?_
    exact sv_iret hΓ hQ dX11_chooser_25 (Nat.le_of_ble_eq_true rfl) (Nat.le_of_ble_eq_true rfl) (Or.inl ⟨fun q => u2 q.1, rfl, rfl, rfl⟩)
  · replace u2 := bI_ne.mp u2
    refine sv_iload_n hΓ dX11_chooser_7 rfl 2 rfl rfl ?_
    refine sv_if_lt (tgt := 24) hΓ dX11_chooser_8 (by decide) rfl (fun u3 => ?_) (fun u3 => ?_)
    · refine sv_iconst (v := (-1)) hΓ dX11_chooser_24 (by decide) rfl ?_
      exact sv_iret hΓ hQ dX11_chooser_25 (Nat.le_of_ble_eq_true rfl) (Nat.le_of_ble_eq_true rfl) (Or.inl ⟨fun q => q.2.1 u3, rfl, rfl, rfl⟩)
    · obtain ⟨k, hk0, hk3, ek⟩ := II.k u2
      refine sv_iload_n hΓ dX11_chooser_11 rfl 2 rfl rfl ?_
      refine sv_aload_n hΓ dX11_chooser_12 rfl 0 rfl rfl ?_
      refine g_X11_19_1 hΓ dX11_chooser_13 rfl ?_
      refine g_X11_140_4 hΓ dX11_chooser_16 rfl ?_
      refine sv_iload_n hΓ dX11_chooser_19 rfl 1 rfl rfl ?_
      refine ai_5 hΓ (k) ek (by omega) dX11_chooser_20 rfl ?_
      refine sv_icmp_lt (tgt := 26) hΓ dX11_chooser_21 (by decide) rfl (fun u4 => ?_) (fun u4 => ?_)
      · have hi0 := u3
        have hi1 := u4
        subst ek
        refine sv_aload_n hΓ dX11_chooser_26 rfl 0 rfl rfl ?_
        refine g_X11_65_1 hΓ dX11_chooser_27 rfl ?_
        refine sv_if_ne (tgt := 36) hΓ dX11_chooser_30 (by decide) rfl (fun u5 => ?_) (fun u5 => ?_)
        · have hl := u5
          refine sv_aload_n hΓ dX11_chooser_36 rfl 0 rfl rfl ?_
          refine g_X11_46_1 hΓ dX11_chooser_37 rfl ?_
          refine sv_iload_n hΓ dX11_chooser_40 rfl 1 rfl rfl ?_
          refine sv_iload_n hΓ dX11_chooser_41 rfl 2 rfl rfl ?_
          refine sv_iload_n hΓ dX11_chooser_42 rfl 3 rfl rfl ?_
          refine sv_callV hΓ (fun l => ct_X6_sourcesOf l c nu n k i z w hB0 (hld hl).1 (hld hl).2 hw hrx) wv_X11_265 vs_X6_sourcesOf rfl m_14 rfl rfl (by decide) (Nat.le_of_ble_eq_true rfl) (Nat.le_of_ble_eq_true rfl) (Nat.le_of_ble_eq_true rfl) dX11_chooser_43 rfl (fun r M' nx' p6 => ?_)
          obtain ⟨rfl, rfl, rfl⟩ := p6
          show SV E Γ 4 (mm ci cl cr dy) nx 0 0 46 [(0, .ref 1), (1, .int (nI k)), (2, .int i), (3, .int z)] [.int (nI (pbt (uN (snF c (nI k) i w n)) 32))]
          exact sv_iret hΓ hQ dX11_chooser_46 (Nat.le_of_ble_eq_true rfl) (Nat.le_of_ble_eq_true rfl) (Or.inr ⟨k, by omega, rfl, ⟨hi0, hi1⟩, Or.inr ⟨hl, rfl, rfl, rfl⟩⟩)
        · refine sv_bipush (v := (-3)) hΓ dX11_chooser_33 (by decide) rfl ?_
          exact sv_iret hΓ hQ dX11_chooser_35 (Nat.le_of_ble_eq_true rfl) (Nat.le_of_ble_eq_true rfl) (Or.inr ⟨k, by omega, rfl, ⟨hi0, hi1⟩, Or.inl ⟨u5, rfl, rfl, rfl⟩⟩)
      · refine sv_iconst (v := (-1)) hΓ dX11_chooser_24 (by decide) rfl ?_
        exact sv_iret hΓ hQ dX11_chooser_25 (Nat.le_of_ble_eq_true rfl) (Nat.le_of_ble_eq_true rfl) (Or.inl ⟨fun q => u4 (by have z := q.2.2; rw [ek, nI_clamp (by omega)] at z; exact z), rfl, rfl, rfl⟩)
