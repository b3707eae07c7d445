/-- numbers of all tapes of one kind (e = 0 fed, 1 put), the first p PORTS -/
def tlF (ci : aI) (e : Nat) : Nat → Int32
  | 0 => 0
  | p + 1 => tlF ci e p + ci (26 + 2 * (2 * p + e)) 1
def tkC (c : aI) (nu : Nat → Int64) (ci : aI) (a : Nat) : Nat → Int32
  | 0 => ci 11 a
  | 1 => ci 12 a
  | 2 => jbF c (sC c nu) a a 0
  | 3 => if ci 11 a ≤ askF c (sC c nu) a a then 0 else 1
  | 4 => ci 17 a
  | 5 => ci 15 a
  | _ => ci 16 a
def tdC (ci : aI) : Nat → Int32
  | 0 => ci 18 8
  | 1 => ci 18 9
  | 2 => ci 18 10
  | 3 => ci 18 11
  | _ => tlF ci 1 4
theorem pl_ii {q : Int32} : (¬ q.toInt64 < 0 ∧ ¬ 15 < q.toInt64) ↔ II 0 15 q := in_i (a := 0) (b := 15) (by decide) (by decide) rfl rfl
set_option maxRecDepth 100000 in
set_option maxHeartbeats 1000000 in
/-- drop -/
theorem ct_X11_drop {E : aG} (l : Launch) (n : Nat) {ci : Nat → Nat → Int32} {cl : Nat → Nat → Int64} {cr : Nat → Nat → Option Nat} {dy : aM} {nx : Nat} (hn : ci 2 1 = nI n) (hn6 : n ≤ 16) : CT E l yX11_drop cX11_drop 1 (some .int) 1 [.ref 1] (mm ci cl cr dy) nx 0 0 (fun r M' nx' => (n = 0 ∧ r = some (.int (-2)) ∧ M' = mm ci cl cr dy ∧ nx = nx') ∨ (∃ m, n = m + 1 ∧ r = some (.int (nI m)) ∧ M' = mm (up2 (up2 (up2 ci 1 7 0) 1 8 0) 2 1 (nI m)) cl cr dy ∧ nx = nx')) := by
  refine CT_intro (by decide) (Nat.le_of_ble_eq_true rfl) (fun Γ hΓ hQ => ?_)
  replace hΓ : CK E RX11 cX11_drop 1 (some .int) "drop" 1 0 0 Γ := hΓ
  show SV E Γ 1 (mm ci cl cr dy) nx 0 0 0 [(0, .ref 1)] []
  refine sv_aload_n hΓ dX11_drop_0 rfl 0 rfl rfl ?_
  refine g_X11_10_1 hΓ dX11_drop_1 rfl ?_
  refine sv_callV hΓ (fun l => ct_X1_sizeN l n hn) wv_X11_127 vs_X1_size rfl m_2 rfl rfl (by decide) (Nat.le_of_ble_eq_true rfl) (Nat.le_of_ble_eq_true rfl) (Nat.le_of_ble_eq_true rfl) dX11_drop_4 rfl (fun r M' nx' p1 => ?_)
  obtain ⟨rfl, rfl, rfl⟩ := p1
  show SV E Γ 1 (mm ci cl cr dy) nx 0 0 7 [(0, .ref 1)] [.int (nI n)]
  refine sv_if_ne (tgt := 13) hΓ dX11_drop_7 (by decide) rfl (fun u2 => ?_) (fun u2 => ?_)
  · obtain ⟨m, rfl⟩ : ∃ m, n = m + 1 := ⟨n - 1, by have : ¬ n = 0 := fun e => u2 (by rw [e]; rfl); omega⟩
    refine sv_aload_n hΓ dX11_drop_13 rfl 0 rfl rfl ?_
    refine sv_callV hΓ (fun l => ct_X11_forget l  ) wv_X11_131 vs_X11_forget rfl m_1 rfl rfl (by decide) (Nat.le_of_ble_eq_true rfl) (Nat.le_of_ble_eq_true rfl) (Nat.le_of_ble_eq_true rfl) dX11_drop_14 rfl (fun r M' nx' p3 => ?_)
    obtain ⟨rfl, rfl, rfl⟩ := p3
    show SV E Γ 1 (mm (up2 (up2 ci 1 7 0) 1 8 0) cl cr dy) nx 0 0 17 [(0, .ref 1)] []
    refine sv_aload_n hΓ dX11_drop_17 rfl 0 rfl rfl ?_
    refine g_X11_10_1 hΓ dX11_drop_18 rfl ?_
    refine sv_callV hΓ (fun l => ct_X1_removeLast l m ((congrFun (up2_k _ _ _ (by decide)) 1).trans ((congrFun (up2_k _ _ _ (by decide)) 1).trans hn))) wv_X11_134 vs_X1_removeLast rfl m_2 rfl rfl (by decide) (Nat.le_of_ble_eq_true rfl) (Nat.le_of_ble_eq_true rfl) (Nat.le_of_ble_eq_true rfl) dX11_drop_21 rfl (fun r M' nx' p4 => ?_)
    obtain ⟨rfl, rfl, rfl⟩ := p4
    show SV E Γ 1 (mm (up2 (up2 (up2 ci 1 7 0) 1 8 0) 2 1 (nI m)) cl cr dy) nx 0 0 24 [(0, .ref 1)] []
    refine sv_aload_n hΓ dX11_drop_24 rfl 0 rfl rfl ?_
    refine g_X11_10_1 hΓ dX11_drop_25 rfl ?_
    refine sv_callV hΓ (fun l => ct_X1_sizeN l m (up2_s _ _ _ _)) wv_X11_127 vs_X1_size rfl m_2 rfl rfl (by decide) (Nat.le_of_ble_eq_true rfl) (Nat.le_of_ble_eq_true rfl) (Nat.le_of_ble_eq_true rfl) dX11_drop_28 rfl (fun r M' nx' p5 => ?_)
    obtain ⟨rfl, rfl, rfl⟩ := p5
    show SV E Γ 1 (mm (up2 (up2 (up2 ci 1 7 0) 1 8 0) 2 1 (nI m)) cl cr dy) nx 0 0 31 [(0, .ref 1)] [.int (nI m)]
    exact sv_iret hΓ hQ dX11_drop_31 (Nat.le_of_ble_eq_true rfl) (Nat.le_of_ble_eq_true rfl) (Or.inr ⟨m, rfl, rfl, rfl, rfl⟩)
  · refine sv_bipush (v := (-2)) hΓ dX11_drop_10 (by decide) rfl ?_
    exact sv_iret hΓ hQ dX11_drop_12 (Nat.le_of_ble_eq_true rfl) (Nat.le_of_ble_eq_true rfl) (Or.inl ⟨k0 (by omega) u2, rfl, rfl, rfl⟩)
set_option maxRecDepth 100000 in
set_option maxHeartbeats 1000000 in
/-- parts -/
theorem ct_X11_parts {E : aG} (l : Launch) (q : Int32) (m : Int32) {ci : Nat → Nat → Int32} {cl : Nat → Nat → Int64} {cr : Nat → Nat → Option Nat} {dy : aM} {nx : Nat}  : CT E l yX11_parts cX11_parts 4 (some .int) 2 [.ref 1, .int q, .int m] (mm ci cl cr dy) nx 0 0 (fun r M' nx' => (¬ (II 0 3 q ∧ II 1 4 m) ∧ r = some (.int (-1)) ∧ M' = mm (ci) (cl) cr dy ∧ nx = nx') ∨ ((II 0 3 q ∧ II 1 4 m) ∧ r = some (.int (ci 5 q.toNatClampNeg)) ∧ M' = mm (up2 (up2 (up2 ci 1 7 0) 1 8 0) 5 q.toNatClampNeg m) (cl) cr dy ∧ nx = nx')) := by
  refine CT_intro (by decide) (Nat.le_of_ble_eq_true rfl) (fun Γ hΓ hQ => ?_)
  replace hΓ : CK E RX11 cX11_parts 4 (some .int) "parts" 2 0 0 Γ := hΓ
  show SV E Γ 4 (mm ci cl cr dy) nx 0 0 0 [(0, .ref 1), (1, .int q), (2, .int m)] []
  refine sv_iload_n hΓ dX11_parts_0 rfl 1 rfl rfl ?_
  refine sv_callS hΓ (fun l => ct_X11_isKind l q ) wv_X11_137 tb_433 rfl rfl (by decide) (Nat.le_of_ble_eq_true rfl) (Nat.le_of_ble_eq_true rfl) (Nat.le_of_ble_eq_true rfl) dX11_parts_1 rfl (fun r M' nx' p1 => ?_)
  obtain ⟨rfl, rfl, rfl⟩ := p1
  show SV E Γ 4 (mm ci cl cr dy) nx 0 0 4 [(0, .ref 1), (1, .int q), (2, .int m)] [.int (bI (II 0 3 q))]
  refine sv_if_eq (tgt := 16) hΓ dX11_parts_4 (by decide) rfl (fun u2 => ?_) (fun u2 => ?_)
  · replace u2 := bI_0.mp u2
    refine sv_iconst (v := (-1)) hΓ dX11_parts_16 (by decide) rfl ?_
    exact sv_iret hΓ hQ dX11_parts_17 (Nat.le_of_ble_eq_true rfl) (Nat.le_of_ble_eq_true rfl) (Or.inl ⟨(fun q => u2 q.1), rfl, rfl, rfl⟩)
  · replace u2 := bI_ne.mp u2
    refine sv_iload_n hΓ dX11_parts_7 rfl 2 rfl rfl ?_
    refine sv_iconst (v := 1) hΓ dX11_parts_8 (by decide) rfl ?_
    refine sv_iconst (v := 4) hΓ dX11_parts_9 (by decide) rfl ?_
    refine sv_callS hΓ (fun l => ct_X11_withinI l m 1 4 1 4 (by decide) (by decide) rfl rfl) wv_X11_115 tb_256 rfl rfl (by decide) (Nat.le_of_ble_eq_true rfl) (Nat.le_of_ble_eq_true rfl) (Nat.le_of_ble_eq_true rfl) dX11_parts_10 rfl (fun r M' nx' p3 => ?_)
    obtain ⟨rfl, rfl, rfl⟩ := p3
    show SV E Γ 4 (mm ci cl cr dy) nx 0 0 13 [(0, .ref 1), (1, .int q), (2, .int m)] [.int (bI (II 1 4 m))]
    refine sv_if_ne (tgt := 18) hΓ dX11_parts_13 (by decide) rfl (fun u4 => ?_) (fun u4 => ?_)
    · replace u4 := bI_ne.mp u4
      have hq := u2
      have hm := u4
      obtain ⟨k, hk0, hk3, ek⟩ := II.k u2
      refine sv_aload_n hΓ dX11_parts_18 rfl 0 rfl rfl ?_
      refine sv_callV hΓ (fun l => ct_X11_forget l  ) wv_X11_131 vs_X11_forget rfl m_1 rfl rfl (by decide) (Nat.le_of_ble_eq_true rfl) (Nat.le_of_ble_eq_true rfl) (Nat.le_of_ble_eq_true rfl) dX11_parts_19 rfl (fun r M' nx' p5 => ?_)
      obtain ⟨rfl, rfl, rfl⟩ := p5
      show SV E Γ 4 (mm (up2 (up2 ci 1 7 0) 1 8 0) cl cr dy) nx 0 0 22 [(0, .ref 1), (1, .int q), (2, .int m)] []
      refine sv_aload_n hΓ dX11_parts_22 rfl 0 rfl rfl ?_
      refine g_X11_19_1 hΓ dX11_parts_23 rfl ?_
      refine g_X11_140_4 hΓ dX11_parts_26 rfl ?_
      refine sv_iload_n hΓ dX11_parts_29 rfl 1 rfl rfl ?_
      refine ai_5 hΓ (k) ek (by omega) dX11_parts_30 rfl ?_
      refine sv_istore_n (lv' := [(3, .int (ci 5 k)), (0, .ref 1), (1, .int q), (2, .int m)]) hΓ dX11_parts_31 rfl (by decide) rfl rfl ?_
      refine sv_aload_n hΓ dX11_parts_32 rfl 1 rfl rfl ?_
      refine g_X11_19_1 hΓ dX11_parts_33 rfl ?_
      refine g_X11_140_4 hΓ dX11_parts_36 rfl ?_
      refine sv_iload_n hΓ dX11_parts_39 rfl 2 rfl rfl ?_
      refine sv_iload_n hΓ dX11_parts_40 rfl 3 rfl rfl ?_
      refine as_5 hΓ (k) ek (by omega) dX11_parts_41 rfl ?_
      refine sv_iload_n hΓ dX11_parts_42 rfl 0 rfl rfl ?_
      exact sv_iret hΓ hQ dX11_parts_43 (Nat.le_of_ble_eq_true rfl) (Nat.le_of_ble_eq_true rfl) (Or.inr ⟨⟨hq, hm⟩, by rw [ek, nI_clamp (by omega)], by rw [ek, nI_clamp (by omega)], rfl⟩)
    · replace u4 := bI_0.mp u4
      refine sv_iconst (v := (-1)) hΓ dX11_parts_16 (by decide) rfl ?_
      exact sv_iret hΓ hQ dX11_parts_17 (Nat.le_of_ble_eq_true rfl) (Nat.le_of_ble_eq_true rfl) (Or.inl ⟨(fun q => u4 q.2), rfl, rfl, rfl⟩)
set_option maxRecDepth 100000 in
set_option maxHeartbeats 1000000 in
/-- length -/
theorem ct_X11_length {E : aG} (l : Launch) (q : Int32) (m : Int32) (z : Int32) {ci : Nat → Nat → Int32} {cl : Nat → Nat → Int64} {cr : Nat → Nat → Option Nat} {dy : aM} {nx : Nat} (hz : z = 0 ∨ z = 1) : CT E l yX11_length cX11_length 5 (some .int) 2 [.ref 1, .int q, .int m, .int z] (mm ci cl cr dy) nx 0 0 (fun r M' nx' => (¬ (II 0 3 q ∧ II 1 8 m) ∧ r = some (.int (-1)) ∧ M' = mm (ci) (cl) cr dy ∧ nx = nx') ∨ ((II 0 3 q ∧ II 1 8 m) ∧ r = some (.int (ci 6 q.toNatClampNeg)) ∧ M' = mm (up2 (up2 (up2 (up2 ci 1 7 0) 1 8 0) 6 q.toNatClampNeg m) 7 q.toNatClampNeg z) (cl) cr dy ∧ nx = nx')) := by
  refine CT_intro (by decide) (Nat.le_of_ble_eq_true rfl) (fun Γ hΓ hQ => ?_)
  replace hΓ : CK E RX11 cX11_length 5 (some .int) "length" 2 0 0 Γ := hΓ
  show SV E Γ 5 (mm ci cl cr dy) nx 0 0 0 [(0, .ref 1), (1, .int q), (2, .int m), (3, .int z)] []
  refine sv_iload_n hΓ dX11_length_0 rfl 1 rfl rfl ?_
  refine sv_callS hΓ (fun l => ct_X11_isKind l q ) wv_X11_137 tb_433 rfl rfl (by decide) (Nat.le_of_ble_eq_true rfl) (Nat.le_of_ble_eq_true rfl) (Nat.le_of_ble_eq_true rfl) dX11_length_1 rfl (fun r M' nx' p1 => ?_)
  obtain ⟨rfl, rfl, rfl⟩ := p1
  show SV E Γ 5 (mm ci cl cr dy) nx 0 0 4 [(0, .ref 1), (1, .int q), (2, .int m), (3, .int z)] [.int (bI (II 0 3 q))]
  refine sv_if_eq (tgt := 17) hΓ dX11_length_4 (by decide) rfl (fun u2 => ?_) (fun u2 => ?_)
  · replace u2 := bI_0.mp u2
    refine sv_iconst (v := (-1)) hΓ dX11_length_17 (by decide) rfl ?_
    exact sv_iret hΓ hQ dX11_length_18 (Nat.le_of_ble_eq_true rfl) (Nat.le_of_ble_eq_true rfl) (Or.inl ⟨(fun q => u2 q.1), rfl, rfl, rfl⟩)
  · replace u2 := bI_ne.mp u2
    refine sv_iload_n hΓ dX11_length_7 rfl 2 rfl rfl ?_
    refine sv_iconst (v := 1) hΓ dX11_length_8 (by decide) rfl ?_
    refine sv_bipush (v := 8) hΓ dX11_length_9 (by decide) rfl ?_
    refine sv_callS hΓ (fun l => ct_X11_withinI l m 1 8 1 8 (by decide) (by decide) rfl rfl) wv_X11_115 tb_256 rfl rfl (by decide) (Nat.le_of_ble_eq_true rfl) (Nat.le_of_ble_eq_true rfl) (Nat.le_of_ble_eq_true rfl) dX11_length_11 rfl (fun r M' nx' p3 => ?_)
    obtain ⟨rfl, rfl, rfl⟩ := p3
    show SV E Γ 5 (mm ci cl cr dy) nx 0 0 14 [(0, .ref 1), (1, .int q), (2, .int m), (3, .int z)] [.int (bI (II 1 8 m))]
    refine sv_if_ne (tgt := 19) hΓ dX11_length_14 (by decide) rfl (fun u4 => ?_) (fun u4 => ?_)
    · replace u4 := bI_ne.mp u4
      have hq := u2
      have hm := u4
      obtain ⟨k, hk0, hk3, ek⟩ := II.k u2
      refine sv_aload_n hΓ dX11_length_19 rfl 0 rfl rfl ?_
      refine sv_callV hΓ (fun l => ct_X11_forget l  ) wv_X11_131 vs_X11_forget rfl m_1 rfl rfl (by decide) (Nat.le_of_ble_eq_true rfl) (Nat.le_of_ble_eq_true rfl) (Nat.le_of_ble_eq_true rfl) dX11_length_20 rfl (fun r M' nx' p5 => ?_)
      obtain ⟨rfl, rfl, rfl⟩ := p5
      show SV E Γ 5 (mm (up2 (up2 ci 1 7 0) 1 8 0) cl cr dy) nx 0 0 23 [(0, .ref 1), (1, .int q), (2, .int m), (3, .int z)] []
      refine sv_aload_n hΓ dX11_length_23 rfl 0 rfl rfl ?_
      refine g_X11_19_1 hΓ dX11_length_24 rfl ?_
      refine g_X11_144_4 hΓ dX11_length_27 rfl ?_
      refine sv_iload_n hΓ dX11_length_30 rfl 1 rfl rfl ?_
      refine ai_6 hΓ (k) ek (by omega) dX11_length_31 rfl ?_
      refine sv_istore (lv' := [(4, .int (ci 6 k)), (0, .ref 1), (1, .int q), (2, .int m), (3, .int z)]) hΓ dX11_length_32 (by decide) rfl rfl ?_
      refine sv_aload_n hΓ dX11_length_34 rfl 1 rfl rfl ?_
      refine g_X11_19_1 hΓ dX11_length_35 rfl ?_
      refine g_X11_144_4 hΓ dX11_length_38 rfl ?_
      refine sv_iload_n hΓ dX11_length_41 rfl 2 rfl rfl ?_
      refine sv_iload_n hΓ dX11_length_42 rfl 3 rfl rfl ?_
      refine as_6 hΓ (k) ek (by omega) dX11_length_43 rfl ?_
      refine sv_aload_n hΓ dX11_length_44 rfl 1 rfl rfl ?_
      refine g_X11_19_1 hΓ dX11_length_45 rfl ?_
      refine g_X11_147_4 hΓ dX11_length_48 rfl ?_
      refine sv_iload_n hΓ dX11_length_51 rfl 2 rfl rfl ?_
      refine sv_iload_n hΓ dX11_length_52 rfl 4 rfl rfl ?_
      refine ab_7 hΓ (k) ek (by omega) dX11_length_53 (nb_01 hz) rfl ?_
      refine sv_iload hΓ dX11_length_54 0 rfl rfl ?_
      exact sv_iret hΓ hQ dX11_length_56 (Nat.le_of_ble_eq_true rfl) (Nat.le_of_ble_eq_true rfl) (Or.inr ⟨⟨hq, hm⟩, by rw [ek, nI_clamp (by omega)], by rw [ek, nI_clamp (by omega)], rfl⟩)
    · replace u4 := bI_0.mp u4
      refine sv_iconst (v := (-1)) hΓ dX11_length_17 (by decide) rfl ?_
      exact sv_iret hΓ hQ dX11_length_18 (Nat.le_of_ble_eq_true rfl) (Nat.le_of_ble_eq_true rfl) (Or.inl ⟨(fun q => u4 q.2), rfl, rfl, rfl⟩)
set_option maxRecDepth 100000 in
set_option maxHeartbeats 1000000 in
/-- feed -/
theorem ct_X11_feed {E : aG} (l : Launch) (q : Int32) (v : Int64) {ci : Nat → Nat → Int32} {cl : Nat → Nat → Int64} {cr : Nat → Nat → Option Nat} {dy : aM} {nx : Nat} (hT : TR cr) (hfd : ∀ k, k < 4 → ∃ f, f ≤ 20 ∧ ci (26 + 2 * (2 * k)) 1 = nI f) : CT E l yX11_feed cX11_feed 5 (some .int) 2 [.ref 1, .int q, .long v] (mm ci cl cr dy) nx 0 0 (fun r M' nx' => (¬ II 0 3 q ∧ r = some (.int (-1)) ∧ M' = mm (ci) (cl) cr dy ∧ nx = nx') ∨ (∃ k f, k < 4 ∧ q = nI k ∧ f ≤ 20 ∧ ci (26 + 2 * (2 * k)) 1 = nI f ∧ ((f = 20 ∧ r = some (.int (-2)) ∧ M' = mm (ci) (cl) cr dy ∧ nx = nx') ∨ (f < 20 ∧ r = some (.int (nI (f + 1))) ∧ M' = mm (up2 ci (26 + 2 * (2 * k)) 1 (nI (f + 1))) (up2 cl (27 + 2 * (2 * k)) f v) cr dy ∧ nx = nx')))) := by
  refine CT_intro (by decide) (Nat.le_of_ble_eq_true rfl) (fun Γ hΓ hQ => ?_)
  replace hΓ : CK E RX11 cX11_feed 5 (some .int) "feed" 2 0 0 Γ := hΓ
  show SV E Γ 5 (mm ci cl cr dy) nx 0 0 0 [(0, .ref 1), (1, .int q), (2, .long v)] []
  refine sv_iload_n hΓ dX11_feed_0 rfl 1 rfl rfl ?_
  refine sv_callS hΓ (fun l => ct_X11_isPort l q ) wv_X11_94 tb_355 rfl rfl (by decide) (Nat.le_of_ble_eq_true rfl) (Nat.le_of_ble_eq_true rfl) (Nat.le_of_ble_eq_true rfl) dX11_feed_1 rfl (fun r M' nx' p1 => ?_)
  obtain ⟨rfl, rfl, rfl⟩ := p1
  show SV E Γ 5 (mm ci cl cr dy) nx 0 0 4 [(0, .ref 1), (1, .int q), (2, .long v)] [.int (bI (II 0 3 q))]
  refine sv_if_ne (tgt := 9) hΓ dX11_feed_4 (by decide) rfl (fun u2 => ?_) (fun u2 => ?_)
  · replace u2 := bI_ne.mp u2
    obtain ⟨k, hk0, hk3, ek⟩ := II.k u2
    subst ek
    obtain ⟨f, hf20, hf⟩ := hfd k (by omega)
    refine sv_aload_n hΓ dX11_feed_9 rfl 0 rfl rfl ?_
    refine g_X11_55_1 hΓ dX11_feed_10 rfl ?_
    refine g_X11_151_18 hΓ dX11_feed_13 rfl ?_
    refine sv_iload_n hΓ dX11_feed_16 rfl 1 rfl rfl ?_
    refine ar_19 hΓ (k) rfl (by omega) dX11_feed_17 (v := .ref (26 + 2 * (2 * k))) (rf_some (hT k (by omega)).1) rfl ?_
    refine sv_astore (lv' := [(4, .ref (26 + 2 * (2 * k))), (0, .ref 1), (1, .int (nI k)), (2, .long v)]) hΓ dX11_feed_18 (by decide) rfl rfl ?_
    refine sv_aload hΓ dX11_feed_20 0 rfl rfl ?_
    refine sv_callV hΓ (fun l => ct_X10_isFull l (2 * k) (by omega)) wv_X11_155 vs_X10_isFull rfl (m_tp (q := 2 * k) (by omega)) rfl rfl (by decide) (Nat.le_of_ble_eq_true rfl) (Nat.le_of_ble_eq_true rfl) (Nat.le_of_ble_eq_true rfl) dX11_feed_22 rfl (fun r M' nx' p3 => ?_)
    obtain ⟨rfl, rfl, rfl⟩ := p3
    show SV E Γ 5 (mm ci cl cr dy) nx 0 0 25 [(4, .ref (26 + 2 * (2 * k))), (0, .ref 1), (1, .int (nI k)), (2, .long v)] [.int (bI (ci (26 + 2 * (2 * k)) 1 = nI (tpn (2 * k))))]
    refine sv_if_eq (tgt := 31) hΓ dX11_feed_25 (by decide) rfl (fun u4 => ?_) (fun u4 => ?_)
    · replace u4 := bI_0.mp u4
      have hne : ¬ f = 20 := fun e => u4 (by rw [hf, tpn_e, e])
      refine sv_aload hΓ dX11_feed_31 0 rfl rfl ?_
      refine sv_lload_n hΓ dX11_feed_33 rfl 3 rfl rfl ?_
      refine sv_callV hΓ (fun l => ct_X10_append l (2 * k) f v (by omega) hf (by rw [tpn_e]; omega)) wv_X11_161 vs_X10_append rfl (m_tp (q := 2 * k) (by omega)) rfl rfl (by decide) (Nat.le_of_ble_eq_true rfl) (Nat.le_of_ble_eq_true rfl) (Nat.le_of_ble_eq_true rfl) dX11_feed_34 rfl (fun r M' nx' p5 => ?_)
      obtain ⟨rfl, rfl, rfl⟩ := p5
      show SV E Γ 5 (mm (up2 ci (26 + 2 * (2 * k)) 1 (nI (f + 1))) (up2 cl (27 + 2 * (2 * k)) f v) cr dy) nx 0 0 37 [(4, .ref (26 + 2 * (2 * k))), (0, .ref 1), (1, .int (nI k)), (2, .long v)] []
      refine sv_aload hΓ dX11_feed_37 0 rfl rfl ?_
      refine sv_callV hΓ (fun l => ct_X10_size l (2 * k) (by omega)) wv_X11_164 vs_X10_size rfl (m_tp (q := 2 * k) (by omega)) rfl rfl (by decide) (Nat.le_of_ble_eq_true rfl) (Nat.le_of_ble_eq_true rfl) (Nat.le_of_ble_eq_true rfl) dX11_feed_39 rfl (fun r M' nx' p6 => ?_)
      obtain ⟨rfl, rfl, rfl⟩ := p6
      show SV E Γ 5 (mm (up2 ci (26 + 2 * (2 * k)) 1 (nI (f + 1))) (up2 cl (27 + 2 * (2 * k)) f v) cr dy) nx 0 0 42 [(4, .ref (26 + 2 * (2 * k))), (0, .ref 1), (1, .int (nI k)), (2, .long v)] [.int ((up2 ci (26 + 2 * (2 * k)) 1 (nI (f + 1))) (26 + 2 * (2 * k)) 1)]
      exact sv_iret hΓ hQ dX11_feed_42 (Nat.le_of_ble_eq_true rfl) (Nat.le_of_ble_eq_true rfl) (Or.inr ⟨k, f, by omega, rfl, hf20, hf, Or.inr ⟨by omega, by rw [up2_s], rfl, rfl⟩⟩)
    · replace u4 := bI_ne.mp u4
      refine sv_bipush (v := (-2)) hΓ dX11_feed_28 (by decide) rfl ?_
      exact sv_iret hΓ hQ dX11_feed_30 (Nat.le_of_ble_eq_true rfl) (Nat.le_of_ble_eq_true rfl) (Or.inr ⟨k, f, by omega, rfl, hf20, hf, Or.inl ⟨(nI_eq (b := 20) (by omega) (by decide)).mp (by rw [← hf, u4, tpn_e]), rfl, rfl, rfl⟩⟩)
  · replace u2 := bI_0.mp u2
    refine sv_iconst (v := (-1)) hΓ dX11_feed_7 (by decide) rfl ?_
    exact sv_iret hΓ hQ dX11_feed_8 (Nat.le_of_ble_eq_true rfl) (Nat.le_of_ble_eq_true rfl) (Or.inl ⟨u2, rfl, rfl, rfl⟩)
set_option maxRecDepth 100000 in
set_option maxHeartbeats 1000000 in
/-- place -/
theorem ct_X11_place {E : aG} (l : Launch) (q : Int32) (v : Int64) {ci : Nat → Nat → Int32} {cl : Nat → Nat → Int64} {cr : Nat → Nat → Option Nat} {dy : aM} {nx : Nat}  : CT E l yX11_place cX11_place 4 (some .int) 1 [.ref 1, .int q, .long v] (mm ci cl cr dy) nx 0 0 (fun r M' nx' => (¬ II 0 15 q ∧ r = some (.int (-1)) ∧ M' = mm (ci) (cl) cr dy ∧ nx = nx') ∨ (II 0 15 q ∧ r = some (.int (0)) ∧ M' = mm (ci) (up2 cl 21 q.toNatClampNeg v) cr dy ∧ nx = nx')) := by
  refine CT_intro (by decide) (Nat.le_of_ble_eq_true rfl) (fun Γ hΓ hQ => ?_)
  replace hΓ : CK E RX11 cX11_place 4 (some .int) "place" 1 0 0 Γ := hΓ
  show SV E Γ 4 (mm ci cl cr dy) nx 0 0 0 [(0, .ref 1), (1, .int q), (2, .long v)] []
  refine sv_iload_n hΓ dX11_place_0 rfl 1 rfl rfl ?_
  refine sv_i2l hΓ dX11_place_1 rfl rfl ?_
  refine sv_callS hΓ (fun l => ct_X11_isPlace l (Int32.toInt64 q) ) wv_X11_165 tb_460 rfl rfl (by decide) (Nat.le_of_ble_eq_true rfl) (Nat.le_of_ble_eq_true rfl) (Nat.le_of_ble_eq_true rfl) dX11_place_2 rfl (fun r M' nx' p1 => ?_)
  obtain ⟨rfl, rfl, rfl⟩ := p1
  show SV E Γ 4 (mm ci cl cr dy) nx 0 0 5 [(0, .ref 1), (1, .int q), (2, .long v)] [.int (bI (¬ (Int32.toInt64 q) < 0 ∧ ¬ 15 < (Int32.toInt64 q)))]
  refine sv_if_ne (tgt := 10) hΓ dX11_place_5 (by decide) rfl (fun u2 => ?_) (fun u2 => ?_)
  · replace u2 := bI_ne.mp u2
    have hq := pl_ii.mp u2
    obtain ⟨k, hk0, hk3, ek⟩ := II.k hq
    refine sv_aload_n hΓ dX11_place_10 rfl 0 rfl rfl ?_
    refine g_X11_55_1 hΓ dX11_place_11 rfl ?_
    refine g_X11_169_18 hΓ dX11_place_14 rfl ?_
    refine sv_iload_n hΓ dX11_place_17 rfl 1 rfl rfl ?_
    refine sv_lload_n hΓ dX11_place_18 rfl 2 rfl rfl ?_
    refine at_21 hΓ (k) ek (by omega) dX11_place_19 rfl ?_
    refine sv_iconst (v := 0) hΓ dX11_place_20 (by decide) rfl ?_
    exact sv_iret hΓ hQ dX11_place_21 (Nat.le_of_ble_eq_true rfl) (Nat.le_of_ble_eq_true rfl) (Or.inr ⟨hq, rfl, by rw [ek, nI_clamp (by omega)], rfl⟩)
  · replace u2 := bI_0.mp u2
    refine sv_iconst (v := (-1)) hΓ dX11_place_8 (by decide) rfl ?_
    exact sv_iret hΓ hQ dX11_place_9 (Nat.le_of_ble_eq_true rfl) (Nat.le_of_ble_eq_true rfl) (Or.inl ⟨fun z => u2 (pl_ii.mpr z), rfl, rfl, rfl⟩)
set_option maxRecDepth 100000 in
set_option maxHeartbeats 1000000 in
/-- act -/
theorem ct_X11_act {E : aG} (l : Launch) (c : aI) (nu : Nat → Int64) (q : Int32) (m : Int32) (n : Nat) {ci : Nat → Nat → Int32} {cl : Nat → Nat → Int64} {cr : Nat → Nat → Option Nat} {dy : aM} {nx : Nat} (hB : BK c nu ci cr dy n) : CT E l yX11_act cX11_act 4 (some .int) 2 [.ref 1, .int q, .int m] (mm ci cl cr dy) nx 0 0 (fun r M' nx' => (¬ AI n q ∧ r = some (.int (-1)) ∧ M' = mm (ci) (cl) cr dy ∧ nx = nx') ∨ (∃ a, a < n ∧ q = nI a ∧ ((¬ II 0 8 m ∧ r = some (.int (-1)) ∧ M' = mm (ci) (cl) cr dy ∧ nx = nx') ∨ (∃ k, k ≤ 8 ∧ m = nI k ∧ r = some (.int (acF c (sC c nu) a k)) ∧ M' = mm ci cl cr dy ∧ nx = nx')))) := by
  refine CT_intro (by decide) (Nat.le_of_ble_eq_true rfl) (fun Γ hΓ hQ => ?_)
  replace hΓ : CK E RX11 cX11_act 4 (some .int) "act" 2 0 0 Γ := hΓ
  have hB0 := hB
  obtain ⟨hAC, hST, hn6, hn, hwf, hwp, hln⟩ := hB
  show SV E Γ 4 (mm ci cl cr dy) nx 0 0 0 [(0, .ref 1), (1, .int q), (2, .int m)] []
  refine sv_aload_n hΓ dX11_act_0 rfl 0 rfl rfl ?_
  refine g_X11_10_1 hΓ dX11_act_1 rfl ?_
  refine sv_iload_n hΓ dX11_act_4 rfl 1 rfl rfl ?_
  refine sv_callV hΓ (fun l => ct_X1_has l q n hn hn6) wv_X11_97 vs_X1_has rfl m_2 rfl rfl (by decide) (Nat.le_of_ble_eq_true rfl) (Nat.le_of_ble_eq_true rfl) (Nat.le_of_ble_eq_true rfl) dX11_act_5 rfl (fun r M' nx' p1 => ?_)
  obtain ⟨rfl, rfl, rfl⟩ := p1
  show SV E Γ 4 (mm ci cl cr dy) nx 0 0 8 [(0, .ref 1), (1, .int q), (2, .int m)] [.int (bI (AI n q))]
  refine sv_if_ne (tgt := 13) hΓ dX11_act_8 (by decide) rfl (fun u2 => ?_) (fun u2 => ?_)
  · replace u2 := bI_ne.mp u2
    obtain ⟨a, ha6, ea⟩ := AI.k u2
    subst ea
    refine sv_aload_n hΓ dX11_act_13 rfl 0 rfl rfl ?_
    refine g_X11_10_1 hΓ dX11_act_14 rfl ?_
    refine sv_iload_n hΓ dX11_act_17 rfl 1 rfl rfl ?_
    obtain ⟨kg3, sg3, hrg3, hAg3⟩ := hAC a (by omega)
    refine sv_callV hΓ (fun l => ct_X1_get l a kg3 (by omega) hrg3) wv_X11_104 vs_X1_get rfl m_2 rfl rfl (by decide) (Nat.le_of_ble_eq_true rfl) (Nat.le_of_ble_eq_true rfl) (Nat.le_of_ble_eq_true rfl) dX11_act_18 rfl (fun r M' nx' p4 => ?_)
    obtain ⟨rfl, rfl, rfl⟩ := p4
    show SV E Γ 4 (mm ci cl cr dy) nx 0 0 21 [(0, .ref 1), (1, .int (nI a)), (2, .int m)] [.ref kg3]
    refine sv_astore_n (lv' := [(3, .ref kg3), (0, .ref 1), (1, .int (nI a)), (2, .int m)]) hΓ dX11_act_21 rfl (by decide) rfl rfl ?_
    refine sv_iload_n hΓ dX11_act_22 rfl 3 rfl rfl ?_
    refine sv_table (x := m) (lo := 0) (hi := 8) 8 rfl (fun u5 => ?_) (fun k hk u5 => ?_)
    · refine sv_tableOut (pc' := 124) hΓ dX11_act_23 u5 (by decide) ?_
      refine sv_iconst (v := (-1)) hΓ dX11_act_124 (by decide) rfl ?_
      exact sv_iret hΓ hQ dX11_act_125 (Nat.le_of_ble_eq_true rfl) (Nat.le_of_ble_eq_true rfl) (Or.inr ⟨a, ha6, rfl, Or.inl ⟨by unfold II; omega, rfl, rfl, rfl⟩⟩)
    · obtain rfl | rfl | rfl | rfl | rfl | rfl | rfl | rfl | rfl : k = 0 ∨ k = 1 ∨ k = 2 ∨ k = 3 ∨ k = 4 ∨ k = 5 ∨ k = 6 ∨ k = 7 ∨ k = 8 := by omega
      · refine sv_tableIn (off := 49) (pc' := 72) hΓ dX11_act_23 (by omega) (by omega) (by rw [u5]; rfl) (by decide) ?_
        replace u5 : m = (0 : Int32) := Int32.toInt_inj.mp (u5.trans (by decide))
        refine sv_aload_n hΓ dX11_act_72 rfl 0 rfl rfl ?_
        refine gt_X11_173 hΓ hAg3.m rfl dX11_act_73 rfl ?_
        exact sv_iret hΓ hQ dX11_act_76 (Nat.le_of_ble_eq_true rfl) (Nat.le_of_ble_eq_true rfl) (Or.inr ⟨a, ha6, rfl, Or.inr ⟨0, by omega, u5, rfl, rfl, rfl⟩⟩)
      · refine sv_tableIn (off := 54) (pc' := 77) hΓ dX11_act_23 (by omega) (by omega) (by rw [u5]; rfl) (by decide) ?_
        replace u5 : m = (1 : Int32) := Int32.toInt_inj.mp (u5.trans (by decide))
        refine sv_aload_n hΓ dX11_act_77 rfl 0 rfl rfl ?_
        refine gt_X11_177 hΓ hAg3.m rfl dX11_act_78 rfl ?_
        exact sv_iret hΓ hQ dX11_act_81 (Nat.le_of_ble_eq_true rfl) (Nat.le_of_ble_eq_true rfl) (Or.inr ⟨a, ha6, rfl, Or.inr ⟨1, by omega, u5, rfl, rfl, rfl⟩⟩)
      · refine sv_tableIn (off := 59) (pc' := 82) hΓ dX11_act_23 (by omega) (by omega) (by rw [u5]; rfl) (by decide) ?_
        replace u5 : m = (2 : Int32) := Int32.toInt_inj.mp (u5.trans (by decide))
        refine sv_aload_n hΓ dX11_act_82 rfl 0 rfl rfl ?_
        refine gt_X11_180 hΓ hAg3.m rfl dX11_act_83 rfl ?_
        exact sv_iret hΓ hQ dX11_act_86 (Nat.le_of_ble_eq_true rfl) (Nat.le_of_ble_eq_true rfl) (Or.inr ⟨a, ha6, rfl, Or.inr ⟨2, by omega, u5, rfl, rfl, rfl⟩⟩)
      · refine sv_tableIn (off := 64) (pc' := 87) hΓ dX11_act_23 (by omega) (by omega) (by rw [u5]; rfl) (by decide) ?_
        replace u5 : m = (3 : Int32) := Int32.toInt_inj.mp (u5.trans (by decide))
        refine sv_aload_n hΓ dX11_act_87 rfl 0 rfl rfl ?_
        refine gt_X11_183 hΓ hAg3.m rfl dX11_act_88 rfl ?_
        exact sv_iret hΓ hQ dX11_act_91 (Nat.le_of_ble_eq_true rfl) (Nat.le_of_ble_eq_true rfl) (Or.inr ⟨a, ha6, rfl, Or.inr ⟨3, by omega, u5, rfl, rfl, rfl⟩⟩)
      · refine sv_tableIn (off := 69) (pc' := 92) hΓ dX11_act_23 (by omega) (by omega) (by rw [u5]; rfl) (by decide) ?_
        replace u5 : m = (4 : Int32) := Int32.toInt_inj.mp (u5.trans (by decide))
        refine sv_aload_n hΓ dX11_act_92 rfl 0 rfl rfl ?_
        refine gt_X11_186 hΓ hAg3.m rfl dX11_act_93 rfl ?_
        exact sv_iret hΓ hQ dX11_act_96 (Nat.le_of_ble_eq_true rfl) (Nat.le_of_ble_eq_true rfl) (Or.inr ⟨a, ha6, rfl, Or.inr ⟨4, by omega, u5, rfl, rfl, rfl⟩⟩)
      · refine sv_tableIn (off := 74) (pc' := 97) hΓ dX11_act_23 (by omega) (by omega) (by rw [u5]; rfl) (by decide) ?_
        replace u5 : m = (5 : Int32) := Int32.toInt_inj.mp (u5.trans (by decide))
        refine sv_aload_n hΓ dX11_act_97 rfl 0 rfl rfl ?_
        refine gt_X11_189 hΓ hAg3.m rfl dX11_act_98 rfl ?_
        exact sv_iret hΓ hQ dX11_act_101 (Nat.le_of_ble_eq_true rfl) (Nat.le_of_ble_eq_true rfl) (Or.inr ⟨a, ha6, rfl, Or.inr ⟨5, by omega, u5, rfl, rfl, rfl⟩⟩)
      · refine sv_tableIn (off := 79) (pc' := 102) hΓ dX11_act_23 (by omega) (by omega) (by rw [u5]; rfl) (by decide) ?_
        replace u5 : m = (6 : Int32) := Int32.toInt_inj.mp (u5.trans (by decide))
        refine sv_aload_n hΓ dX11_act_102 rfl 1 rfl rfl ?_
        refine g_X11_19_1 hΓ dX11_act_103 rfl ?_
        refine sv_aload_n hΓ dX11_act_106 rfl 0 rfl rfl ?_
        refine sv_callV hΓ (fun l => ct_X9_lengthOf l c nu a kg3 sg3 hAg3 hST) wv_X11_192 vs_X9_lengthOf rfl m_4 rfl rfl (by decide) (Nat.le_of_ble_eq_true rfl) (Nat.le_of_ble_eq_true rfl) (Nat.le_of_ble_eq_true rfl) dX11_act_107 rfl (fun r M' nx' p6 => ?_)
        obtain ⟨rfl, rfl, rfl⟩ := p6
        show SV E Γ 4 (mm ci cl cr dy) nx 0 0 110 [(3, .ref kg3), (0, .ref 1), (1, .int (nI a)), (2, .int m)] [.int (ln c a)]
        exact sv_iret hΓ hQ dX11_act_110 (Nat.le_of_ble_eq_true rfl) (Nat.le_of_ble_eq_true rfl) (Or.inr ⟨a, ha6, rfl, Or.inr ⟨6, by omega, u5, rfl, rfl, rfl⟩⟩)
      · refine sv_tableIn (off := 88) (pc' := 111) hΓ dX11_act_23 (by omega) (by omega) (by rw [u5]; rfl) (by decide) ?_
        replace u5 : m = (7 : Int32) := Int32.toInt_inj.mp (u5.trans (by decide))
        refine sv_aload_n hΓ dX11_act_111 rfl 0 rfl rfl ?_
        refine gt_X11_108 hΓ hAg3.m rfl dX11_act_112 rfl ?_
        refine sv_callV hΓ (fun l => ct_X8_bits l sg3 (SL c nu a) (SH c nu a) hAg3.sp (fit32 (hwf a (by omega)))) wv_X11_195 vs_X8_bits rfl hAg3.sp.m rfl rfl (by decide) (Nat.le_of_ble_eq_true rfl) (Nat.le_of_ble_eq_true rfl) (Nat.le_of_ble_eq_true rfl) dX11_act_115 rfl (fun r M' nx' p7 => ?_)
        obtain ⟨rfl, rfl, rfl⟩ := p7
        show SV E Γ 4 (mm ci cl cr dy) nx 0 0 118 [(3, .ref kg3), (0, .ref 1), (1, .int (nI a)), (2, .int m)] [.int (nI (btF (SL c nu a) (SH c nu a) 32 1))]
        exact sv_iret hΓ hQ dX11_act_118 (Nat.le_of_ble_eq_true rfl) (Nat.le_of_ble_eq_true rfl) (Or.inr ⟨a, ha6, rfl, Or.inr ⟨7, by omega, u5, rfl, rfl, rfl⟩⟩)
      · refine sv_tableIn (off := 96) (pc' := 119) hΓ dX11_act_23 (by omega) (by omega) (by rw [u5]; rfl) (by decide) ?_
        replace u5 : m = (8 : Int32) := Int32.toInt_inj.mp (u5.trans (by decide))
        refine sv_aload_n hΓ dX11_act_119 rfl 0 rfl rfl ?_
        refine sv_callV hΓ (fun l => ct_X0_kind l c nu a kg3 sg3 hAg3) wv_X11_198 vs_X0_kind rfl hAg3.m rfl rfl (by decide) (Nat.le_of_ble_eq_true rfl) (Nat.le_of_ble_eq_true rfl) (Nat.le_of_ble_eq_true rfl) dX11_act_120 rfl (fun r M' nx' p8 => ?_)
        obtain ⟨rfl, rfl, rfl⟩ := p8
        show SV E Γ 4 (mm ci cl cr dy) nx 0 0 123 [(3, .ref kg3), (0, .ref 1), (1, .int (nI a)), (2, .int m)] [.int (kd (c 44 a))]
        exact sv_iret hΓ hQ dX11_act_123 (Nat.le_of_ble_eq_true rfl) (Nat.le_of_ble_eq_true rfl) (Or.inr ⟨a, ha6, rfl, Or.inr ⟨8, by omega, u5, rfl, rfl, rfl⟩⟩)
  · replace u2 := bI_0.mp u2
    refine sv_iconst (v := (-1)) hΓ dX11_act_11 (by decide) rfl ?_
    exact sv_iret hΓ hQ dX11_act_12 (Nat.le_of_ble_eq_true rfl) (Nat.le_of_ble_eq_true rfl) (Or.inl ⟨u2, rfl, rfl, rfl⟩)
set_option maxRecDepth 100000 in
set_option maxHeartbeats 1000000 in
/-- needs -/
theorem ct_X11_needs {E : aG} (l : Launch) (c : aI) (nu : Nat → Int64) (x : Int32) (y : Int32) (n : Nat) {ci : Nat → Nat → Int32} {cl : Nat → Nat → Int64} {cr : Nat → Nat → Option Nat} {dy : aM} {nx : Nat} (hB : BK c nu ci cr dy n) : CT E l yX11_needs cX11_needs 3 (some .int) 3 [.ref 1, .int x, .int y] (mm ci cl cr dy) nx 0 0 (fun r M' nx' => (¬ (AI n x ∧ AI n y ∧ x < y) ∧ r = some (.int (-1)) ∧ M' = mm (ci) (cl) cr dy ∧ nx = nx') ∨ (∃ a b, a < b ∧ b < n ∧ x = nI a ∧ y = nI b ∧ r = some (.int (nd c (sC c nu) a b)) ∧ M' = mm ci cl cr dy ∧ nx = nx')) := by
  refine CT_intro (by decide) (Nat.le_of_ble_eq_true rfl) (fun Γ hΓ hQ => ?_)
  replace hΓ : CK E RX11 cX11_needs 3 (some .int) "needs" 3 0 0 Γ := hΓ
  have hB0 := hB
  obtain ⟨hAC, hST, hn6, hn, hwf, hwp, hln⟩ := hB
  show SV E Γ 3 (mm ci cl cr dy) nx 0 0 0 [(0, .ref 1), (1, .int x), (2, .int y)] []
  refine sv_aload_n hΓ dX11_needs_0 rfl 0 rfl rfl ?_
  refine g_X11_10_1 hΓ dX11_needs_1 rfl ?_
  refine sv_iload_n hΓ dX11_needs_4 rfl 1 rfl rfl ?_
  refine sv_callV hΓ (fun l => ct_X1_has l x n hn hn6) wv_X11_97 vs_X1_has rfl m_2 rfl rfl (by decide) (Nat.le_of_ble_eq_true rfl) (Nat.le_of_ble_eq_true rfl) (Nat.le_of_ble_eq_true rfl) dX11_needs_5 rfl (fun r M' nx' p1 => ?_)
  obtain ⟨rfl, rfl, rfl⟩ := p1
  show SV E Γ 3 (mm ci cl cr dy) nx 0 0 8 [(0, .ref 1), (1, .int x), (2, .int y)] [.int (bI (AI n x))]
  refine sv_if_eq (tgt := 27) hΓ dX11_needs_8 (by decide) rfl (fun u2 => ?_) (fun u2 => ?_)
  · replace u2 := bI_0.mp u2
    refine sv_iconst (v := (-1)) hΓ dX11_needs_27 (by decide) rfl ?_
    exact sv_iret hΓ hQ dX11_needs_28 (Nat.le_of_ble_eq_true rfl) (Nat.le_of_ble_eq_true rfl) (Or.inl ⟨(fun q => u2 q.1), rfl, rfl, rfl⟩)
  · replace u2 := bI_ne.mp u2
    refine sv_aload_n hΓ dX11_needs_11 rfl 0 rfl rfl ?_
    refine g_X11_10_1 hΓ dX11_needs_12 rfl ?_
    refine sv_iload_n hΓ dX11_needs_15 rfl 2 rfl rfl ?_
    refine sv_callV hΓ (fun l => ct_X1_has l y n hn hn6) wv_X11_97 vs_X1_has rfl m_2 rfl rfl (by decide) (Nat.le_of_ble_eq_true rfl) (Nat.le_of_ble_eq_true rfl) (Nat.le_of_ble_eq_true rfl) dX11_needs_16 rfl (fun r M' nx' p3 => ?_)
    obtain ⟨rfl, rfl, rfl⟩ := p3
    show SV E Γ 3 (mm ci cl cr dy) nx 0 0 19 [(0, .ref 1), (1, .int x), (2, .int y)] [.int (bI (AI n y))]
    refine sv_if_eq (tgt := 27) hΓ dX11_needs_19 (by decide) rfl (fun u4 => ?_) (fun u4 => ?_)
    · replace u4 := bI_0.mp u4
      refine sv_iconst (v := (-1)) hΓ dX11_needs_27 (by decide) rfl ?_
      exact sv_iret hΓ hQ dX11_needs_28 (Nat.le_of_ble_eq_true rfl) (Nat.le_of_ble_eq_true rfl) (Or.inl ⟨(fun q => u4 q.2.1), rfl, rfl, rfl⟩)
    · replace u4 := bI_ne.mp u4
      refine sv_iload_n hΓ dX11_needs_22 rfl 1 rfl rfl ?_
      refine sv_iload_n hΓ dX11_needs_23 rfl 2 rfl rfl ?_
      refine sv_icmp_lt (tgt := 29) hΓ dX11_needs_24 (by decide) rfl (fun u5 => ?_) (fun u5 => ?_)
      · have hxy := u5
        obtain ⟨a, ha6, ea⟩ := AI.k u2
        subst ea
        obtain ⟨b, hb6, eb⟩ := AI.k u4
        subst eb
        have hab : a < b := by rw [nI_ltI (by omega) (by omega)] at hxy; exact hxy
        refine sv_aload_n hΓ dX11_needs_29 rfl 0 rfl rfl ?_
        refine g_X11_28_1 hΓ dX11_needs_30 rfl ?_
        refine sv_iload_n hΓ dX11_needs_33 rfl 1 rfl rfl ?_
        refine sv_iload_n hΓ dX11_needs_34 rfl 2 rfl rfl ?_
        refine sv_callV hΓ (fun l => ct_X4_between l c nu n a b hB0 (by omega) (by omega)) wv_X11_215 vs_X4_between rfl m_8 rfl rfl (by decide) (Nat.le_of_ble_eq_true rfl) (Nat.le_of_ble_eq_true rfl) (Nat.le_of_ble_eq_true rfl) dX11_needs_35 rfl (fun r M' nx' p6 => ?_)
        obtain ⟨rfl, rfl, rfl⟩ := p6
        show SV E Γ 3 (mm ci cl cr dy) nx 0 0 38 [(0, .ref 1), (1, .int (nI a)), (2, .int (nI b))] [.int (nd c (sC c nu) a b)]
        exact sv_iret hΓ hQ dX11_needs_38 (Nat.le_of_ble_eq_true rfl) (Nat.le_of_ble_eq_true rfl) (Or.inr ⟨a, b, hab, hb6, rfl, rfl, rfl, rfl, rfl⟩)
      · refine sv_iconst (v := (-1)) hΓ dX11_needs_27 (by decide) rfl ?_
        exact sv_iret hΓ hQ dX11_needs_28 (Nat.le_of_ble_eq_true rfl) (Nat.le_of_ble_eq_true rfl) (Or.inl ⟨(fun q => u5 q.2.2), rfl, rfl, rfl⟩)
set_option maxRecDepth 100000 in
set_option maxHeartbeats 1000000 in
/-- lay -/
theorem ct_X11_lay {E : aG} (l : Launch) (c : aI) (nu : Nat → Int64) (n : Nat) (T : Nat) {ci : Nat → Nat → Int32} {cl : Nat → Nat → Int64} {cr : Nat → Nat → Option Nat} {dy : aM} {nx : Nat} (hB : BK c nu ci cr dy n) (h0 : c 43 16 = 0) (hPL : PLF c nu n) (hT2 : T ≤ 2000) (hLT : LT (layC c (sC c nu) n) n T) : CT E l yX11_lay cX11_lay 1 (some .int) 5 [.ref 1] (mm ci cl cr dy) nx 0 0 (fun r M' nx' => (n = 0 ∧ r = some (.int (-2)) ∧ M' = mm (ci) (cl) cr dy ∧ nx = nx') ∨ (¬ n = 0 ∧ ¬ ci 1 7 = 0 ∧ r = some (.int (ci 10 6)) ∧ M' = mm (ci) (cl) cr dy ∧ nx = nx') ∨ (¬ n = 0 ∧ ci 1 7 = 0 ∧ ∃ c1 c2, LA c (sC c nu) ci c1 n ∧ RR (rou (clrC (up2 (layC c (sC c nu) n) 43 18 0) n) n T) c2 n ∧ c2 14 6 = rou (clrC (up2 (layC c (sC c nu) n) 43 18 0) n) n T 43 18 ∧ (∀ q, ¬ q = 14 → ¬ q = 15 → ¬ q = 16 → ¬ q = 17 → c2 q = c1 q) ∧ r = some (.int (c2 10 6)) ∧ M' = mm (up2 c2 1 7 1) cl cr dy ∧ nx = nx')) := by
  refine CT_intro (by decide) (Nat.le_of_ble_eq_true rfl) (fun Γ hΓ hQ => ?_)
  replace hΓ : CK E RX11 cX11_lay 1 (some .int) "lay" 5 0 0 Γ := hΓ
  have hB0 := hB
  obtain ⟨hAC, hST, hn6, hn, hwf, hwp, hln⟩ := hB
  show SV E Γ 1 (mm ci cl cr dy) nx 0 0 0 [(0, .ref 1)] []
  refine sv_aload_n hΓ dX11_lay_0 rfl 0 rfl rfl ?_
  refine g_X11_10_1 hΓ dX11_lay_1 rfl ?_
  refine sv_callV hΓ (fun l => ct_X1_sizeN l n hn) wv_X11_127 vs_X1_size rfl m_2 rfl rfl (by decide) (Nat.le_of_ble_eq_true rfl) (Nat.le_of_ble_eq_true rfl) (Nat.le_of_ble_eq_true rfl) dX11_lay_4 rfl (fun r M' nx' p1 => ?_)
  obtain ⟨rfl, rfl, rfl⟩ := p1
  show SV E Γ 1 (mm ci cl cr dy) nx 0 0 7 [(0, .ref 1)] [.int (nI n)]
  refine sv_if_ne (tgt := 13) hΓ dX11_lay_7 (by decide) rfl (fun u2 => ?_) (fun u2 => ?_)
  · refine sv_aload_n hΓ dX11_lay_13 rfl 0 rfl rfl ?_
    refine g_X11_65_1 hΓ dX11_lay_14 rfl ?_
    refine sv_if_ne (tgt := 39) hΓ dX11_lay_17 (by decide) rfl (fun u3 => ?_) (fun u3 => ?_)
    · refine sv_aload_n hΓ dX11_lay_39 rfl 0 rfl rfl ?_
      refine g_X11_37_1 hΓ dX11_lay_40 rfl ?_
      refine g_X11_225_10 hΓ dX11_lay_43 rfl ?_
      exact sv_iret hΓ hQ dX11_lay_46 (Nat.le_of_ble_eq_true rfl) (Nat.le_of_ble_eq_true rfl) (Or.inr (Or.inl ⟨fun e => u2 (by rw [e]; rfl), u3, rfl, rfl, rfl⟩))
    · refine sv_aload_n hΓ dX11_lay_20 rfl 0 rfl rfl ?_
      refine g_X11_37_1 hΓ dX11_lay_21 rfl ?_
      refine sv_callV hΓ (fun l => ct_X5_layActs l c nu n hB0 h0 hPL) wv_X11_219 vs_X5_layActs rfl m_10 rfl rfl (by decide) (Nat.le_of_ble_eq_true rfl) (Nat.le_of_ble_eq_true rfl) (Nat.le_of_ble_eq_true rfl) dX11_lay_24 rfl (fun r M' nx' p4 => ?_)
      obtain ⟨rfl, c1, hL, rfl, rfl⟩ := p4
      show SV E Γ 1 (mm c1 cl cr dy) nx 0 0 27 [(0, .ref 1)] []
      refine sv_aload_n hΓ dX11_lay_27 rfl 0 rfl rfl ?_
      refine g_X11_46_1 hΓ dX11_lay_28 rfl ?_
      refine sv_callV hΓ (fun l => ct_X6_assign l ((layC c (sC c nu) n)) nu n T ((sm_lay c (sC c nu) n).BK hB0 (hL.2.2.2 2 (by decide) (by decide) (by decide) (by decide)) (hL.2.2.2 5 (by decide) (by decide) (by decide) (by decide)) (hL.2.2.2 6 (by decide) (by decide) (by decide) (by decide)) (hL.2.2.2 7 (by decide) (by decide) (by decide) (by decide))) (fun b hb => (hL.1 b hb).1.symm) hT2 hLT) wv_X11_222 vs_X6_assign rfl m_14 rfl rfl (by decide) (Nat.le_of_ble_eq_true rfl) (Nat.le_of_ble_eq_true rfl) (Nat.le_of_ble_eq_true rfl) dX11_lay_31 rfl (fun r M' nx' p5 => ?_)
      obtain ⟨rfl, c2, hRR, h18, hfr, rfl, rfl⟩ := p5
      show SV E Γ 1 (mm c2 cl cr dy) nx 0 0 34 [(0, .ref 1)] []
      refine sv_aload_n hΓ dX11_lay_34 rfl 0 rfl rfl ?_
      refine sv_iconst (v := 1) hΓ dX11_lay_35 (by decide) rfl ?_
      refine p_X11_65_1 hΓ ⟨rfl, rfl⟩ dX11_lay_36 rfl ?_
      refine sv_aload_n hΓ dX11_lay_39 rfl 0 rfl rfl ?_
      refine g_X11_37_1 hΓ dX11_lay_40 rfl ?_
      refine g_X11_225_10 hΓ dX11_lay_43 rfl ?_
      exact sv_iret hΓ hQ dX11_lay_46 (Nat.le_of_ble_eq_true rfl) (Nat.le_of_ble_eq_true rfl) (Or.inr (Or.inr ⟨fun e => u2 (by rw [e]; rfl), u3, c1, c2, hL, hRR, h18, hfr, by rw [up2_k _ _ _ (by decide)], rfl, rfl⟩))
  · refine sv_bipush (v := (-2)) hΓ dX11_lay_10 (by decide) rfl ?_
    exact sv_iret hΓ hQ dX11_lay_12 (Nat.le_of_ble_eq_true rfl) (Nat.le_of_ble_eq_true rfl) (Or.inl ⟨k0 (by omega) u2, rfl, rfl, rfl⟩)
set_option maxRecDepth 100000 in
set_option maxHeartbeats 1000000 in
/-- tick -/
theorem ct_X11_tick {E : aG} (l : Launch) (c : aI) (nu : Nat → Int64) (q : Int32) (m : Int32) (n : Nat) {ci : Nat → Nat → Int32} {cl : Nat → Nat → Int64} {cr : Nat → Nat → Option Nat} {dy : aM} {nx : Nat} (hB : BK c nu ci cr dy n) (ht : ¬ ci 1 7 = 0 → ∀ a, a < n → c 55 a = ci 11 a) : CT E l yX11_tick cX11_tick 3 (some .int) 4 [.ref 1, .int q, .int m] (mm ci cl cr dy) nx 0 0 (fun r M' nx' => (¬ (AI n q ∧ II 0 6 m) ∧ r = some (.int (-1)) ∧ M' = mm (ci) (cl) cr dy ∧ nx = nx') ∨ ((AI n q ∧ II 0 6 m) ∧ ci 1 7 = 0 ∧ r = some (.int (-3)) ∧ M' = mm (ci) (cl) cr dy ∧ nx = nx') ∨ (∃ a k, a < n ∧ q = nI a ∧ k ≤ 6 ∧ m = nI k ∧ ¬ ci 1 7 = 0 ∧ r = some (.int (tkC c nu ci a k)) ∧ M' = mm ci cl cr dy ∧ nx = nx')) := by
  refine CT_intro (by decide) (Nat.le_of_ble_eq_true rfl) (fun Γ hΓ hQ => ?_)
  replace hΓ : CK E RX11 cX11_tick 3 (some .int) "tick" 4 0 0 Γ := hΓ
  have hB0 := hB
  obtain ⟨hAC, hST, hn6, hn, hwf, hwp, hln⟩ := hB
  show SV E Γ 3 (mm ci cl cr dy) nx 0 0 0 [(0, .ref 1), (1, .int q), (2, .int m)] []
  refine sv_aload_n hΓ dX11_tick_0 rfl 0 rfl rfl ?_
  refine g_X11_10_1 hΓ dX11_tick_1 rfl ?_
  refine sv_iload_n hΓ dX11_tick_4 rfl 1 rfl rfl ?_
  refine sv_callV hΓ (fun l => ct_X1_has l q n hn hn6) wv_X11_97 vs_X1_has rfl m_2 rfl rfl (by decide) (Nat.le_of_ble_eq_true rfl) (Nat.le_of_ble_eq_true rfl) (Nat.le_of_ble_eq_true rfl) dX11_tick_5 rfl (fun r M' nx' p1 => ?_)
  obtain ⟨rfl, rfl, rfl⟩ := p1
  show SV E Γ 3 (mm ci cl cr dy) nx 0 0 8 [(0, .ref 1), (1, .int q), (2, .int m)] [.int (bI (AI n q))]
  refine sv_if_eq (tgt := 21) hΓ dX11_tick_8 (by decide) rfl (fun u2 => ?_) (fun u2 => ?_)
  · replace u2 := bI_0.mp u2
    refine sv_iconst (v := (-1)) hΓ dX11_tick_21 (by decide) rfl ?_
    exact sv_iret hΓ hQ dX11_tick_22 (Nat.le_of_ble_eq_true rfl) (Nat.le_of_ble_eq_true rfl) (Or.inl ⟨(fun q => u2 q.1), rfl, rfl, rfl⟩)
  · replace u2 := bI_ne.mp u2
    refine sv_iload_n hΓ dX11_tick_11 rfl 2 rfl rfl ?_
    refine sv_iconst (v := 0) hΓ dX11_tick_12 (by decide) rfl ?_
    refine sv_bipush (v := 6) hΓ dX11_tick_13 (by decide) rfl ?_
    refine sv_callS hΓ (fun l => ct_X11_withinI l m 0 6 0 6 (by decide) (by decide) rfl rfl) wv_X11_115 tb_256 rfl rfl (by decide) (Nat.le_of_ble_eq_true rfl) (Nat.le_of_ble_eq_true rfl) (Nat.le_of_ble_eq_true rfl) dX11_tick_15 rfl (fun r M' nx' p3 => ?_)
    obtain ⟨rfl, rfl, rfl⟩ := p3
    show SV E Γ 3 (mm ci cl cr dy) nx 0 0 18 [(0, .ref 1), (1, .int q), (2, .int m)] [.int (bI (II 0 6 m))]
    refine sv_if_ne (tgt := 23) hΓ dX11_tick_18 (by decide) rfl (fun u4 => ?_) (fun u4 => ?_)
    · replace u4 := bI_ne.mp u4
      refine sv_aload_n hΓ dX11_tick_23 rfl 0 rfl rfl ?_
      refine g_X11_65_1 hΓ dX11_tick_24 rfl ?_
      refine sv_if_ne (tgt := 33) hΓ dX11_tick_27 (by decide) rfl (fun u5 => ?_) (fun u5 => ?_)
      · have hm := u4
        have hl := u5
        have ht := ht hl
        obtain ⟨a, ha6, ea⟩ := AI.k u2
        subst ea
        refine sv_iload_n hΓ dX11_tick_33 rfl 2 rfl rfl ?_
        refine sv_table (x := m) (lo := 0) (hi := 5) 5 rfl (fun u6 => ?_) (fun k hk u6 => ?_)
        · refine sv_tableOut (pc' := 161) hΓ dX11_tick_34 u6 (by decide) ?_
          refine sv_aload_n hΓ dX11_tick_161 rfl 0 rfl rfl ?_
          refine g_X11_46_1 hΓ dX11_tick_162 rfl ?_
          refine g_X11_247_14 hΓ dX11_tick_165 rfl ?_
          refine sv_iload_n hΓ dX11_tick_168 rfl 1 rfl rfl ?_
          refine ai_16 hΓ (a) rfl (by omega) dX11_tick_169 rfl ?_
          exact sv_iret hΓ hQ dX11_tick_170 (Nat.le_of_ble_eq_true rfl) (Nat.le_of_ble_eq_true rfl) (Or.inr (Or.inr ⟨a, 6, ha6, rfl, by omega, i_is (by have := hm.2; have := hm.1; omega), hl, rfl, rfl, rfl⟩))
        · obtain rfl | rfl | rfl | rfl | rfl | rfl : k = 0 ∨ k = 1 ∨ k = 2 ∨ k = 3 ∨ k = 4 ∨ k = 5 := by omega
          · refine sv_tableIn (off := 38) (pc' := 72) hΓ dX11_tick_34 (by omega) (by omega) (by rw [u6]; rfl) (by decide) ?_
            replace u6 : m = (0 : Int32) := Int32.toInt_inj.mp (u6.trans (by decide))
            refine sv_aload_n hΓ dX11_tick_72 rfl 0 rfl rfl ?_
            refine g_X11_37_1 hΓ dX11_tick_73 rfl ?_
            refine g_X11_228_10 hΓ dX11_tick_76 rfl ?_
            refine sv_iload_n hΓ dX11_tick_79 rfl 1 rfl rfl ?_
            refine ai_11 hΓ (a) rfl (by omega) dX11_tick_80 rfl ?_
            exact sv_iret hΓ hQ dX11_tick_81 (Nat.le_of_ble_eq_true rfl) (Nat.le_of_ble_eq_true rfl) (Or.inr (Or.inr ⟨a, 0, ha6, rfl, by omega, u6, hl, rfl, rfl, rfl⟩))
          · refine sv_tableIn (off := 48) (pc' := 82) hΓ dX11_tick_34 (by omega) (by omega) (by rw [u6]; rfl) (by decide) ?_
            replace u6 : m = (1 : Int32) := Int32.toInt_inj.mp (u6.trans (by decide))
            refine sv_aload_n hΓ dX11_tick_82 rfl 0 rfl rfl ?_
            refine g_X11_37_1 hΓ dX11_tick_83 rfl ?_
            refine g_X11_231_10 hΓ dX11_tick_86 rfl ?_
            refine sv_iload_n hΓ dX11_tick_89 rfl 1 rfl rfl ?_
            refine ai_12 hΓ (a) rfl (by omega) dX11_tick_90 rfl ?_
            exact sv_iret hΓ hQ dX11_tick_91 (Nat.le_of_ble_eq_true rfl) (Nat.le_of_ble_eq_true rfl) (Or.inr (Or.inr ⟨a, 1, ha6, rfl, by omega, u6, hl, rfl, rfl, rfl⟩))
          · refine sv_tableIn (off := 58) (pc' := 92) hΓ dX11_tick_34 (by omega) (by omega) (by rw [u6]; rfl) (by decide) ?_
            replace u6 : m = (2 : Int32) := Int32.toInt_inj.mp (u6.trans (by decide))
            refine sv_aload_n hΓ dX11_tick_92 rfl 0 rfl rfl ?_
            refine g_X11_28_1 hΓ dX11_tick_93 rfl ?_
            refine sv_iload_n hΓ dX11_tick_96 rfl 1 rfl rfl ?_
            refine sv_aload_n hΓ dX11_tick_97 rfl 0 rfl rfl ?_
            refine g_X11_37_1 hΓ dX11_tick_98 rfl ?_
            refine g_X11_228_10 hΓ dX11_tick_101 rfl ?_
            refine sv_callV hΓ (fun l => ct_X4_tightest l c nu n a hB0 (by omega) (fun b hb => ht b (by omega))) wv_X11_234 vs_X4_tightest rfl m_8 rfl rfl (by decide) (Nat.le_of_ble_eq_true rfl) (Nat.le_of_ble_eq_true rfl) (Nat.le_of_ble_eq_true rfl) dX11_tick_104 rfl (fun r M' nx' p7 => ?_)
            obtain ⟨rfl, rfl, rfl⟩ := p7
            show SV E Γ 3 (mm ci cl cr dy) nx 0 0 107 [(0, .ref 1), (1, .int (nI a)), (2, .int m)] [.int (jbF c (sC c nu) a a 0)]
            exact sv_iret hΓ hQ dX11_tick_107 (Nat.le_of_ble_eq_true rfl) (Nat.le_of_ble_eq_true rfl) (Or.inr (Or.inr ⟨a, 2, ha6, rfl, by omega, u6, hl, rfl, rfl, rfl⟩))
          · refine sv_tableIn (off := 74) (pc' := 108) hΓ dX11_tick_34 (by omega) (by omega) (by rw [u6]; rfl) (by decide) ?_
            replace u6 : m = (3 : Int32) := Int32.toInt_inj.mp (u6.trans (by decide))
            refine sv_aload_n hΓ dX11_tick_108 rfl 0 rfl rfl ?_
            refine g_X11_37_1 hΓ dX11_tick_109 rfl ?_
            refine g_X11_228_10 hΓ dX11_tick_112 rfl ?_
            refine sv_iload_n hΓ dX11_tick_115 rfl 1 rfl rfl ?_
            refine ai_11 hΓ (a) rfl (by omega) dX11_tick_116 rfl ?_
            refine sv_aload_n hΓ dX11_tick_117 rfl 0 rfl rfl ?_
            refine g_X11_28_1 hΓ dX11_tick_118 rfl ?_
            refine sv_iload_n hΓ dX11_tick_121 rfl 1 rfl rfl ?_
            refine sv_aload_n hΓ dX11_tick_122 rfl 0 rfl rfl ?_
            refine g_X11_37_1 hΓ dX11_tick_123 rfl ?_
            refine g_X11_228_10 hΓ dX11_tick_126 rfl ?_
            refine sv_callV hΓ (fun l => ct_X4_readyTickP l c nu n a hB0 (by omega) (fun b hb => ht b (by omega))) wv_X11_238 vs_X4_readyTick rfl m_8 rfl rfl (by decide) (Nat.le_of_ble_eq_true rfl) (Nat.le_of_ble_eq_true rfl) (Nat.le_of_ble_eq_true rfl) dX11_tick_129 rfl (fun r M' nx' p8 => ?_)
            obtain ⟨rfl, rfl, rfl⟩ := p8
            show SV E Γ 3 (mm ci cl cr dy) nx 0 0 132 [(0, .ref 1), (1, .int (nI a)), (2, .int m)] [.int (askF c (sC c nu) a a), .int (ci 11 a)]
            refine sv_icmp_le (tgt := 139) hΓ dX11_tick_132 (by decide) rfl (fun u9 => ?_) (fun u9 => ?_)
            · refine sv_iconst (v := 0) hΓ dX11_tick_139 (by decide) rfl ?_
              exact sv_iret hΓ hQ dX11_tick_140 (Nat.le_of_ble_eq_true rfl) (Nat.le_of_ble_eq_true rfl) (Or.inr (Or.inr ⟨a, 3, ha6, rfl, by omega, u6, hl, by simp only [tkC]; rw [if_pos u9], rfl, rfl⟩))
            · refine sv_iconst (v := 1) hΓ dX11_tick_135 (by decide) rfl ?_
              refine sv_goto (pc' := 140) hΓ dX11_tick_136 (by decide) ?_
              exact sv_iret hΓ hQ dX11_tick_140 (Nat.le_of_ble_eq_true rfl) (Nat.le_of_ble_eq_true rfl) (Or.inr (Or.inr ⟨a, 3, ha6, rfl, by omega, u6, hl, by simp only [tkC]; rw [if_neg u9], rfl, rfl⟩))
          · refine sv_tableIn (off := 107) (pc' := 141) hΓ dX11_tick_34 (by omega) (by omega) (by rw [u6]; rfl) (by decide) ?_
            replace u6 : m = (4 : Int32) := Int32.toInt_inj.mp (u6.trans (by decide))
            refine sv_aload_n hΓ dX11_tick_141 rfl 0 rfl rfl ?_
            refine g_X11_46_1 hΓ dX11_tick_142 rfl ?_
            refine g_X11_241_14 hΓ dX11_tick_145 rfl ?_
            refine sv_iload_n hΓ dX11_tick_148 rfl 1 rfl rfl ?_
            refine ai_17 hΓ (a) rfl (by omega) dX11_tick_149 rfl ?_
            exact sv_iret hΓ hQ dX11_tick_150 (Nat.le_of_ble_eq_true rfl) (Nat.le_of_ble_eq_true rfl) (Or.inr (Or.inr ⟨a, 4, ha6, rfl, by omega, u6, hl, rfl, rfl, rfl⟩))
          · refine sv_tableIn (off := 117) (pc' := 151) hΓ dX11_tick_34 (by omega) (by omega) (by rw [u6]; rfl) (by decide) ?_
            replace u6 : m = (5 : Int32) := Int32.toInt_inj.mp (u6.trans (by decide))
            refine sv_aload_n hΓ dX11_tick_151 rfl 0 rfl rfl ?_
            refine g_X11_46_1 hΓ dX11_tick_152 rfl ?_
            refine g_X11_244_14 hΓ dX11_tick_155 rfl ?_
            refine sv_iload_n hΓ dX11_tick_158 rfl 1 rfl rfl ?_
            refine ai_15 hΓ (a) rfl (by omega) dX11_tick_159 rfl ?_
            exact sv_iret hΓ hQ dX11_tick_160 (Nat.le_of_ble_eq_true rfl) (Nat.le_of_ble_eq_true rfl) (Or.inr (Or.inr ⟨a, 5, ha6, rfl, by omega, u6, hl, rfl, rfl, rfl⟩))
      · refine sv_bipush (v := (-3)) hΓ dX11_tick_30 (by decide) rfl ?_
        exact sv_iret hΓ hQ dX11_tick_32 (Nat.le_of_ble_eq_true rfl) (Nat.le_of_ble_eq_true rfl) (Or.inr (Or.inl ⟨⟨u2, u4⟩, u5, rfl, rfl, rfl⟩))
    · replace u4 := bI_0.mp u4
      refine sv_iconst (v := (-1)) hΓ dX11_tick_21 (by decide) rfl ?_
      exact sv_iret hΓ hQ dX11_tick_22 (Nat.le_of_ble_eq_true rfl) (Nat.le_of_ble_eq_true rfl) (Or.inl ⟨(fun q => u4 q.2), rfl, rfl, rfl⟩)
