set_option maxRecDepth 100000 in
set_option maxHeartbeats 1000000 in
/-- append -/
theorem ct_X11_append {E : aG} (l : Launch) (n : Nat) (k : Nat) (fs : List Value) {ci : Nat → Nat → Int32} {cl : Nat → Nat → Int64} {cr : Nat → Nat → Option Nat} {dy : aM} {nx : Nat} (hn : ci 2 1 = nI n) (hn6 : n ≤ 16) (h74 : 74 ≤ k) (hk : dy k = some (.inr (0, fs))) : CT E l yX11_append cX11_append 2 (some .int) 1 [.ref 1, .ref k] (mm ci cl cr dy) nx 0 0 (fun r M' nx' => (n = 16 ∧ r = some (.int (-2)) ∧ M' = mm ci cl cr dy ∧ nx = nx') ∨ (n < 16 ∧ r = some (.int (nI n)) ∧ M' = mm (up2 (up2 (up2 ci 1 7 0) 1 8 0) 2 1 (nI (n + 1))) cl (up2 cr 3 n (some k)) dy ∧ nx = nx')) := by
  refine CT_intro (by decide) (Nat.le_of_ble_eq_true rfl) (fun Γ hΓ hQ => ?_)
  replace hΓ : CK E RX11 cX11_append 2 (some .int) "append" 1 0 0 Γ := hΓ
  show SV E Γ 2 (mm ci cl cr dy) nx 0 0 0 [(0, .ref 1), (1, .ref k)] []
  refine sv_aload_n hΓ dX11_append_0 rfl 0 rfl rfl ?_
  refine g_X11_10_1 hΓ dX11_append_1 rfl ?_
  refine sv_callV hΓ (fun l => ct_X1_isFull l n hn (by omega)) wv_X11_361 vs_X1_isFull rfl m_2 rfl rfl (by decide) (Nat.le_of_ble_eq_true rfl) (Nat.le_of_ble_eq_true rfl) (Nat.le_of_ble_eq_true rfl) dX11_append_4 rfl (fun r M' nx' p1 => ?_)
  obtain ⟨rfl, rfl, rfl⟩ := p1
  show SV E Γ 2 (mm ci cl cr dy) nx 0 0 7 [(0, .ref 1), (1, .ref k)] [.int (bI (n = 16))]
  refine sv_if_eq (tgt := 13) hΓ dX11_append_7 (by decide) rfl (fun u2 => ?_) (fun u2 => ?_)
  · replace u2 := bI_0.mp u2
    have hlt : n < 16 := by omega
    refine sv_aload_n hΓ dX11_append_13 rfl 0 rfl rfl ?_
    refine sv_callV hΓ (fun l => ct_X11_forget l  ) wv_X11_131 vs_X11_forget rfl m_1 rfl rfl (by decide) (Nat.le_of_ble_eq_true rfl) (Nat.le_of_ble_eq_true rfl) (Nat.le_of_ble_eq_true rfl) dX11_append_14 rfl (fun r M' nx' p3 => ?_)
    obtain ⟨rfl, rfl, rfl⟩ := p3
    show SV E Γ 2 (mm (up2 (up2 ci 1 7 0) 1 8 0) cl cr dy) nx 0 0 17 [(0, .ref 1), (1, .ref k)] []
    refine sv_aload_n hΓ dX11_append_17 rfl 0 rfl rfl ?_
    refine g_X11_10_1 hΓ dX11_append_18 rfl ?_
    refine sv_aload_n hΓ dX11_append_21 rfl 1 rfl rfl ?_
    refine sv_callV hΓ (fun l => ct_X1_add l n k fs ((congrFun (up2_k _ _ _ (by decide)) 1).trans ((congrFun (up2_k _ _ _ (by decide)) 1).trans hn)) (by omega) h74 hk) wv_X11_362 vs_X1_add rfl m_2 rfl rfl (by decide) (Nat.le_of_ble_eq_true rfl) (Nat.le_of_ble_eq_true rfl) (Nat.le_of_ble_eq_true rfl) dX11_append_22 rfl (fun r M' nx' p4 => ?_)
    obtain ⟨rfl, rfl, rfl⟩ := p4
    show SV E Γ 2 (mm (up2 (up2 (up2 ci 1 7 0) 1 8 0) 2 1 (nI (n + 1))) cl (up2 cr 3 n (some k)) dy) nx 0 0 25 [(0, .ref 1), (1, .ref k)] []
    refine sv_aload_n hΓ dX11_append_25 rfl 0 rfl rfl ?_
    refine g_X11_10_1 hΓ dX11_append_26 rfl ?_
    refine sv_callV hΓ (fun l => ct_X1_sizeN l (n + 1) (up2_s _ _ _ _)) wv_X11_127 vs_X1_size rfl m_2 rfl rfl (by decide) (Nat.le_of_ble_eq_true rfl) (Nat.le_of_ble_eq_true rfl) (Nat.le_of_ble_eq_true rfl) dX11_append_29 rfl (fun r M' nx' p5 => ?_)
    obtain ⟨rfl, rfl, rfl⟩ := p5
    show SV E Γ 2 (mm (up2 (up2 (up2 ci 1 7 0) 1 8 0) 2 1 (nI (n + 1))) cl (up2 cr 3 n (some k)) dy) nx 0 0 32 [(0, .ref 1), (1, .ref k)] [.int (nI (n + 1))]
    refine sv_iconst (v := 1) hΓ dX11_append_32 (by decide) rfl ?_
    refine sv_isubE (v := nI (((n + 1)) - 1)) hΓ dX11_append_33 (nx_subE rfl rfl (by omega)) rfl ?_
    exact sv_iret hΓ hQ dX11_append_34 (Nat.le_of_ble_eq_true rfl) (Nat.le_of_ble_eq_true rfl) (Or.inr ⟨hlt, rfl, rfl, rfl⟩)
  · replace u2 := bI_ne.mp u2
    refine sv_bipush (v := (-2)) hΓ dX11_append_10 (by decide) rfl ?_
    exact sv_iret hΓ hQ dX11_append_12 (Nat.le_of_ble_eq_true rfl) (Nat.le_of_ble_eq_true rfl) (Or.inl ⟨u2, rfl, rfl, rfl⟩)
set_option maxRecDepth 100000 in
set_option maxHeartbeats 1000000 in
/-- constant -/
theorem ct_X11_constant {E : aG} (l : Launch) (c : aI) (nu : Nat → Int64) (v : Int64) (w : Int32) (n : Nat) {ci : Nat → Nat → Int32} {cl : Nat → Nat → Int64} {cr : Nat → Nat → Option Nat} {dy : aM} {nx : Nat} (hB : BK c nu ci cr dy n) (hNW : NW E) (h74 : 74 ≤ nx) (hD : DN dy nx) : CT E l yX11_constant cX11_constant 6 (some .int) 3 [.ref 1, .long v, .int w] (mm ci cl cr dy) nx 2 9 (fun r M' nx' => (¬ II 1 32 w ∧ r = some (.int (-1)) ∧ M' = mm ci cl cr dy ∧ nx = nx') ∨ (II 1 32 w ∧ ∃ k s dy', EX dy nx dy' nx' ∧ ACT dy' k s (0) (w) (-2) (-2) (-2) (-2) (cutF v w) (cutF v w) ∧ ((n = 16 ∧ r = some (.int (-2)) ∧ M' = mm ci cl cr dy') ∨ (n < 16 ∧ r = some (.int (nI n)) ∧ M' = mm (up2 (up2 (up2 ci 1 7 0) 1 8 0) 2 1 (nI (n + 1))) cl (up2 cr 3 n (some k)) dy')))) := by
  refine CT_intro (by decide) (Nat.le_of_ble_eq_true rfl) (fun Γ hΓ hQ => ?_)
  replace hΓ : CK E RX11 cX11_constant 6 (some .int) "constant" 3 2 9 Γ := hΓ
  have hB0 := hB
  obtain ⟨hAC, hST, hn6, hn, hwf, hwp, hln⟩ := hB
  show SV E Γ 6 (mm ci cl cr dy) nx 0 0 0 [(0, .ref 1), (1, .long v), (3, .int w)] []
  refine sv_iload_n hΓ dX11_constant_0 rfl 2 rfl rfl ?_
  refine sv_callS hΓ (fun l => ct_X11_isWidth l w ) wv_X11_72 tb_253 rfl rfl (by decide) (Nat.le_of_ble_eq_true rfl) (Nat.le_of_ble_eq_true rfl) (Nat.le_of_ble_eq_true rfl) dX11_constant_1 rfl (fun r M' nx' p1 => ?_)
  obtain ⟨rfl, rfl, rfl⟩ := p1
  show SV E Γ 6 (mm ci cl cr dy) nx 0 0 4 [(0, .ref 1), (1, .long v), (3, .int w)] [.int (bI (II 1 32 w))]
  refine sv_if_ne (tgt := 9) hΓ dX11_constant_4 (by decide) rfl (fun u2 => ?_) (fun u2 => ?_)
  · replace u2 := bI_ne.mp u2
    refine sv_lload_n hΓ dX11_constant_9 rfl 1 rfl rfl ?_
    refine sv_iload_n hΓ dX11_constant_10 rfl 2 rfl rfl ?_
    refine sv_callS hΓ (fun l => ct_X11_cut l v w ) wv_X11_76 tb_259 rfl rfl (by decide) (Nat.le_of_ble_eq_true rfl) (Nat.le_of_ble_eq_true rfl) (Nat.le_of_ble_eq_true rfl) dX11_constant_11 rfl (fun r M' nx' p3 => ?_)
    obtain ⟨rfl, rfl, rfl⟩ := p3
    show SV E Γ 6 (mm ci cl cr dy) nx 0 0 14 [(0, .ref 1), (1, .long v), (3, .int w)] [.long (cutF v w)]
    refine sv_lstore (lv' := [(4, .long (cutF v w)), (0, .ref 1), (1, .long v), (3, .int w)]) hΓ dX11_constant_14 (by decide) rfl rfl ?_
    refine sv_aload_n hΓ dX11_constant_16 rfl 1 rfl rfl ?_
    refine nw_X11_80 hΓ dX11_constant_17 (Nat.le_of_ble_eq_true rfl) (Nat.le_of_ble_eq_true rfl) rfl ?_
    rw [mm_dy (by omega)]
    show SV E Γ 6 (mm ci cl cr (va_up dy nx (some (.inr (0, [.int 0, .int 0, .int 0, .int 0, .int 0, .int 0, .null]))))) (nx + 1) 1 7 20 [(4, .long (cutF v w)), (0, .ref 1), (1, .long v), (3, .int w)] [.ref nx, .ref 1]
    refine sv_dup hΓ dX11_constant_20 rfl rfl ?_
    refine sv_iconst (v := 0) hΓ dX11_constant_21 (by decide) rfl ?_
    refine sv_iload_n hΓ dX11_constant_22 rfl 3 rfl rfl ?_
    refine sv_bipush (v := (-2)) hΓ dX11_constant_23 (by decide) rfl ?_
    refine sv_bipush (v := (-2)) hΓ dX11_constant_25 (by decide) rfl ?_
    refine sv_bipush (v := (-2)) hΓ dX11_constant_27 (by decide) rfl ?_
    refine sv_bipush (v := (-2)) hΓ dX11_constant_29 (by decide) rfl ?_
    refine nw_X11_82 hΓ dX11_constant_31 (Nat.le_of_ble_eq_true rfl) (Nat.le_of_ble_eq_true rfl) rfl ?_
    rw [mm_dy (by omega)]
    show SV E Γ 6 (mm ci cl cr (va_up (va_up dy nx (some (.inr (0, [.int 0, .int 0, .int 0, .int 0, .int 0, .int 0, .null])))) (nx + 1) (some (.inr (7, [.long 0, .long 0]))))) (nx + 1 + 1) 2 9 34 [(4, .long (cutF v w)), (0, .ref 1), (1, .long v), (3, .int w)] [.ref (nx + 1), .int ((-2)), .int ((-2)), .int ((-2)), .int ((-2)), .int w, .int 0, .ref nx, .ref nx, .ref 1]
    refine sv_dup hΓ dX11_constant_34 rfl rfl ?_
    refine sv_lload hΓ dX11_constant_35 0 rfl rfl ?_
    refine sv_lload hΓ dX11_constant_37 0 rfl rfl ?_
    refine sv_callI16 hΓ (fun l => ct_X8_init l (nx + 1) (cutF v w) (cutF v w) (by omega) (va_up_self _ _ _)) wv_X11_84 tb_266 rfl rfl rfl (by decide) (Nat.le_of_ble_eq_true rfl) (Nat.le_of_ble_eq_true rfl) (by decide) (Nat.le_of_ble_eq_true rfl) dX11_constant_39 rfl (fun r M' nx' p4 => ?_)
    obtain ⟨rfl, rfl, rfl⟩ := p4
    show SV E Γ 6 (mm ci cl cr (va_up (va_up (va_up dy nx (some (.inr (0, [.int 0, .int 0, .int 0, .int 0, .int 0, .int 0, .null])))) (nx + 1) (some (.inr (7, [.long 0, .long 0])))) (nx + 1) (some (.inr (7, [.long ((cutF v w)), .long ((cutF v w))]))))) (nx + 1 + 1) 2 9 42 [(4, .long (cutF v w)), (0, .ref 1), (1, .long v), (3, .int w)] [.ref (nx + 1), .int ((-2)), .int ((-2)), .int ((-2)), .int ((-2)), .int w, .int 0, .ref nx, .ref nx, .ref 1]
    refine sv_callI hΓ (fun l => ct_X0_init l nx 0 w ((-2)) ((-2)) ((-2)) ((-2)) (nx + 1) (by omega) ((va_up_ne _ _ (by omega)).trans ((va_up_ne _ _ (by omega)).trans (va_up_self _ _ _))) hNW) wv_X11_87 tb_280 rfl rfl rfl (by decide) (Nat.le_of_ble_eq_true rfl) (Nat.le_of_ble_eq_true rfl) (Nat.le_of_ble_eq_true rfl) dX11_constant_42 rfl (fun r M' nx' p5 => ?_)
    obtain ⟨rfl, rfl, rfl⟩ := p5
    show SV E Γ 6 (mm ci cl cr (va_up (va_up (va_up (va_up dy nx (some (.inr (0, [.int 0, .int 0, .int 0, .int 0, .int 0, .int 0, .null])))) (nx + 1) (some (.inr (7, [.long 0, .long 0])))) (nx + 1) (some (.inr (7, [.long ((cutF v w)), .long ((cutF v w))])))) nx (some (.inr (0, [.int 0, .int w, .int (((-2))), .int (((-2))), .int (((-2))), .int (((-2))), .ref (nx + 1)]))))) (nx + 1 + 1) 2 9 45 [(4, .long (cutF v w)), (0, .ref 1), (1, .long v), (3, .int w)] [.ref nx, .ref 1]
    refine sv_callV hΓ (fun l => ct_X11_append l n nx _ hn hn6 (by omega) (va_up_self _ _ _)) wv_X11_90 vs_X11_append rfl m_1 rfl rfl (by decide) (Nat.le_of_ble_eq_true rfl) (Nat.le_of_ble_eq_true rfl) (Nat.le_of_ble_eq_true rfl) dX11_constant_45 rfl (fun r M' nx' p6 => ?_)
    rcases p6 with ⟨hlt, rfl, rfl, rfl⟩ | ⟨hlt, rfl, rfl, rfl⟩
    · show SV E Γ 6 (mm ci cl cr (va_up (va_up (va_up (va_up dy nx (some (.inr (0, [.int 0, .int 0, .int 0, .int 0, .int 0, .int 0, .null])))) (nx + 1) (some (.inr (7, [.long 0, .long 0])))) (nx + 1) (some (.inr (7, [.long ((cutF v w)), .long ((cutF v w))])))) nx (some (.inr (0, [.int 0, .int w, .int (((-2))), .int (((-2))), .int (((-2))), .int (((-2))), .ref (nx + 1)]))))) (nx + 1 + 1) 2 9 48 [(4, .long (cutF v w)), (0, .ref 1), (1, .long v), (3, .int w)] [.int ((-2))]
      exact sv_iret hΓ hQ dX11_constant_48 (Nat.le_of_ble_eq_true rfl) (Nat.le_of_ble_eq_true rfl) (Or.inr ⟨u2, ⟨nx, nx + 1, _, ((((EX.rf hD).tr (EX.new (EX.rf hD).2.2)).tr (EX.new ((EX.rf hD).tr (EX.new (EX.rf hD).2.2)).2.2)).set (by omega) (by omega)).set (by omega) (by omega), ⟨by omega, by omega, va_up_self _ _ _, (va_up_ne _ _ (by omega)).trans (va_up_self _ _ _)⟩, Or.inl ⟨hlt, rfl, rfl⟩⟩⟩)
    · show SV E Γ 6 (mm (up2 (up2 (up2 ci 1 7 0) 1 8 0) 2 1 (nI (n + 1))) cl (up2 cr 3 n (some nx)) (va_up (va_up (va_up (va_up dy nx (some (.inr (0, [.int 0, .int 0, .int 0, .int 0, .int 0, .int 0, .null])))) (nx + 1) (some (.inr (7, [.long 0, .long 0])))) (nx + 1) (some (.inr (7, [.long ((cutF v w)), .long ((cutF v w))])))) nx (some (.inr (0, [.int 0, .int w, .int (((-2))), .int (((-2))), .int (((-2))), .int (((-2))), .ref (nx + 1)]))))) (nx + 1 + 1) 2 9 48 [(4, .long (cutF v w)), (0, .ref 1), (1, .long v), (3, .int w)] [.int (nI n)]
      exact sv_iret hΓ hQ dX11_constant_48 (Nat.le_of_ble_eq_true rfl) (Nat.le_of_ble_eq_true rfl) (Or.inr ⟨u2, ⟨nx, nx + 1, _, ((((EX.rf hD).tr (EX.new (EX.rf hD).2.2)).tr (EX.new ((EX.rf hD).tr (EX.new (EX.rf hD).2.2)).2.2)).set (by omega) (by omega)).set (by omega) (by omega), ⟨by omega, by omega, va_up_self _ _ _, (va_up_ne _ _ (by omega)).trans (va_up_self _ _ _)⟩, Or.inr ⟨hlt, rfl, rfl⟩⟩⟩)
  · replace u2 := bI_0.mp u2
    refine sv_iconst (v := (-1)) hΓ dX11_constant_7 (by decide) rfl ?_
    exact sv_iret hΓ hQ dX11_constant_8 (Nat.le_of_ble_eq_true rfl) (Nat.le_of_ble_eq_true rfl) (Or.inl ⟨u2, rfl, rfl, rfl⟩)
set_option maxRecDepth 100000 in
set_option maxHeartbeats 1000000 in
/-- port -/
theorem ct_X11_port {E : aG} (l : Launch) (c : aI) (nu : Nat → Int64) (q : Int32) (x : Int32) (w : Int32) (n : Nat) {ci : Nat → Nat → Int32} {cl : Nat → Nat → Int64} {cr : Nat → Nat → Option Nat} {dy : aM} {nx : Nat} (hB : BK c nu ci cr dy n) (hNW : NW E) (h74 : 74 ≤ nx) (hD : DN dy nx) : CT E l yX11_port cX11_port 6 (some .int) 4 [.ref 1, .int q, .int x, .int w] (mm ci cl cr dy) nx 2 9 (fun r M' nx' => (¬ (II 0 3 q ∧ (x = -1 ∨ AI n x) ∧ II 1 32 w) ∧ r = some (.int (-1)) ∧ M' = mm ci cl cr dy ∧ nx = nx') ∨ (II 0 3 q ∧ x = -1 ∧ II 1 32 w ∧ ∃ k s dy', EX dy nx dy' nx' ∧ ACT dy' k s (1) (w) (q) (-2) (-2) (-2) (-pw w) (pw w - 1) ∧ ((n = 16 ∧ r = some (.int (-2)) ∧ M' = mm ci cl cr dy') ∨ (n < 16 ∧ r = some (.int (nI n)) ∧ M' = mm (up2 (up2 (up2 ci 1 7 0) 1 8 0) 2 1 (nI (n + 1))) cl (up2 cr 3 n (some k)) dy'))) ∨ (II 0 3 q ∧ ¬ x = -1 ∧ II 1 32 w ∧ ∃ a, a < n ∧ x = nI a ∧ ∃ k s dy', EX dy nx dy' nx' ∧ ACT dy' k s (10) (w) (q) (nI a) (-2) (-2) (ftLo (SL c nu a) (SH c nu a) w) (ftHi (SL c nu a) (SH c nu a) w) ∧ ((n = 16 ∧ r = some (.int (-2)) ∧ M' = mm ci cl cr dy') ∨ (n < 16 ∧ r = some (.int (nI n)) ∧ M' = mm (up2 (up2 (up2 ci 1 7 0) 1 8 0) 2 1 (nI (n + 1))) cl (up2 cr 3 n (some k)) dy')))) := by
  refine CT_intro (by decide) (Nat.le_of_ble_eq_true rfl) (fun Γ hΓ hQ => ?_)
  replace hΓ : CK E RX11 cX11_port 6 (some .int) "port" 4 2 9 Γ := hΓ
  have hB0 := hB
  obtain ⟨hAC, hST, hn6, hn, hwf, hwp, hln⟩ := hB
  show SV E Γ 6 (mm ci cl cr dy) nx 0 0 0 [(0, .ref 1), (1, .int q), (2, .int x), (3, .int w)] []
  refine sv_iload_n hΓ dX11_port_0 rfl 2 rfl rfl ?_
  refine sv_iconst (v := (-1)) hΓ dX11_port_1 (by decide) rfl ?_
  refine sv_icmp_ne (tgt := 9) hΓ dX11_port_2 (by decide) rfl (fun u1 => ?_) (fun u1 => ?_)
  · refine sv_iconst (v := 0) hΓ dX11_port_9 (by decide) rfl ?_
    refine sv_istore (lv' := [(4, .int 0), (0, .ref 1), (1, .int q), (2, .int x), (3, .int w)]) hΓ dX11_port_10 (by decide) rfl rfl ?_
    refine sv_iload_n hΓ dX11_port_12 rfl 2 rfl rfl ?_
    refine sv_callS hΓ (fun l => ct_X11_isPort l q ) wv_X11_94 tb_355 rfl rfl (by decide) (Nat.le_of_ble_eq_true rfl) (Nat.le_of_ble_eq_true rfl) (Nat.le_of_ble_eq_true rfl) dX11_port_13 rfl (fun r M' nx' p2 => ?_)
    obtain ⟨rfl, rfl, rfl⟩ := p2
    show SV E Γ 6 (mm ci cl cr dy) nx 0 0 16 [(4, .int 0), (0, .ref 1), (1, .int q), (2, .int x), (3, .int w)] [.int (bI (II 0 3 q))]
    refine sv_if_eq (tgt := 42) hΓ dX11_port_16 (by decide) rfl (fun u3 => ?_) (fun u3 => ?_)
    · replace u3 := bI_0.mp u3
      refine sv_iconst (v := (-1)) hΓ dX11_port_42 (by decide) rfl ?_
      exact sv_iret hΓ hQ dX11_port_43 (Nat.le_of_ble_eq_true rfl) (Nat.le_of_ble_eq_true rfl) (Or.inl ⟨fun q => u3 q.1, rfl, rfl, rfl⟩)
    · replace u3 := bI_ne.mp u3
      refine sv_iload hΓ dX11_port_19 0 rfl rfl ?_
      refine sv_if_ne (tgt := 35) hΓ dX11_port_21 (by decide) rfl (fun u4 => absurd u4 (by decide)) (fun u4 => ?_)
      refine sv_aload_n hΓ dX11_port_24 rfl 1 rfl rfl ?_
      refine g_X11_10_1 hΓ dX11_port_25 rfl ?_
      refine sv_iload_n hΓ dX11_port_28 rfl 3 rfl rfl ?_
      refine sv_callV hΓ (fun l => ct_X1_has l x n hn hn6) wv_X11_97 vs_X1_has rfl m_2 rfl rfl (by decide) (Nat.le_of_ble_eq_true rfl) (Nat.le_of_ble_eq_true rfl) (Nat.le_of_ble_eq_true rfl) dX11_port_29 rfl (fun r M' nx' p5 => ?_)
      obtain ⟨rfl, rfl, rfl⟩ := p5
      show SV E Γ 6 (mm ci cl cr dy) nx 0 0 32 [(4, .int 0), (0, .ref 1), (1, .int q), (2, .int x), (3, .int w)] [.int (bI (AI n x))]
      refine sv_if_eq (tgt := 42) hΓ dX11_port_32 (by decide) rfl (fun u6 => ?_) (fun u6 => ?_)
      · replace u6 := bI_0.mp u6
        refine sv_iconst (v := (-1)) hΓ dX11_port_42 (by decide) rfl ?_
        exact sv_iret hΓ hQ dX11_port_43 (Nat.le_of_ble_eq_true rfl) (Nat.le_of_ble_eq_true rfl) (Or.inl ⟨fun q => q.2.1.elim u1 u6, rfl, rfl, rfl⟩)
      · replace u6 := bI_ne.mp u6
        refine sv_iload_n hΓ dX11_port_35 rfl 4 rfl rfl ?_
        refine sv_callS hΓ (fun l => ct_X11_isWidth l w ) wv_X11_72 tb_253 rfl rfl (by decide) (Nat.le_of_ble_eq_true rfl) (Nat.le_of_ble_eq_true rfl) (Nat.le_of_ble_eq_true rfl) dX11_port_36 rfl (fun r M' nx' p7 => ?_)
        obtain ⟨rfl, rfl, rfl⟩ := p7
        show SV E Γ 6 (mm ci cl cr dy) nx 0 0 39 [(4, .int 0), (0, .ref 1), (1, .int q), (2, .int x), (3, .int w)] [.int (bI (II 1 32 w))]
        refine sv_if_ne (tgt := 44) hΓ dX11_port_39 (by decide) rfl (fun u8 => ?_) (fun u8 => ?_)
        · replace u8 := bI_ne.mp u8
          refine sv_iload hΓ dX11_port_44 0 rfl rfl ?_
          refine sv_if_eq (tgt := 74) hΓ dX11_port_46 (by decide) rfl (fun u9 => ?_) (fun u9 => absurd (by decide) u9)
          have hA0 := u3
          have hB1 : II 1 32 w := u8
          have hxm : ¬ x = -1 := u1
          have hAI := u6
          obtain ⟨a, ha6, ea⟩ := AI.k u6
          subst ea
          refine sv_aload_n hΓ dX11_port_74 rfl 1 rfl rfl ?_
          refine g_X11_10_1 hΓ dX11_port_75 rfl ?_
          refine sv_iload_n hΓ dX11_port_78 rfl 3 rfl rfl ?_
          obtain ⟨kg10, sg10, hrg10, hAg10⟩ := hAC a (by omega)
          refine sv_callV hΓ (fun l => ct_X1_get l a kg10 (by omega) hrg10) wv_X11_104 vs_X1_get rfl m_2 rfl rfl (by decide) (Nat.le_of_ble_eq_true rfl) (Nat.le_of_ble_eq_true rfl) (Nat.le_of_ble_eq_true rfl) dX11_port_79 rfl (fun r M' nx' p11 => ?_)
          obtain ⟨rfl, rfl, rfl⟩ := p11
          show SV E Γ 6 (mm ci cl cr dy) nx 0 0 82 [(4, .int 0), (0, .ref 1), (1, .int q), (2, .int (nI a)), (3, .int w)] [.ref kg10]
          refine gt_X11_108 hΓ hAg10.m rfl dX11_port_82 rfl ?_
          refine sv_iload_n hΓ dX11_port_85 rfl 4 rfl rfl ?_
          refine sv_callV hΓ (fun l => ct_X8_fitted l sg10 (SL c nu a) (SH c nu a) w hAg10.sp (by omega) (EX.rf hD).2.2) wv_X11_112 vs_X8_fitted rfl hAg10.sp.m rfl rfl (by decide) (Nat.le_of_ble_eq_true rfl) (Nat.le_of_ble_eq_true rfl) (Nat.le_of_ble_eq_true rfl) dX11_port_86 rfl (fun r M' np12 p12 => ?_)
          obtain ⟨sz13, dyz13, rfl, rfl, hSz13, hEz13⟩ := p12
          have h74z13 : 74 ≤ np12 := by have := hEz13.1; omega
          have hLz13 := hEz13.1
          have hQz13 := hEz13.2.2.lt hSz13.2
          show SV E Γ 6 (mm ci cl cr dyz13) np12 1 2 89 [(4, .int 0), (0, .ref 1), (1, .int q), (2, .int (nI a)), (3, .int w)] [.ref sz13]
          have ltsg10 := hD.lt hAg10.2.2.2
          refine sv_astore (lv' := [(5, .ref sz13), (4, .int 0), (0, .ref 1), (1, .int q), (2, .int (nI a)), (3, .int w)]) hΓ dX11_port_89 (by decide) rfl rfl ?_
          refine sv_aload_n hΓ dX11_port_91 rfl 2 rfl rfl ?_
          refine nw_X11_80 hΓ dX11_port_92 (Nat.le_of_ble_eq_true rfl) (Nat.le_of_ble_eq_true rfl) rfl ?_
          rw [mm_dy (by omega)]
          show SV E Γ 6 (mm ci cl cr (va_up dyz13 np12 (some (.inr (0, [.int 0, .int 0, .int 0, .int 0, .int 0, .int 0, .null]))))) (np12 + 1) 2 9 95 [(5, .ref sz13), (4, .int 0), (0, .ref 1), (1, .int q), (2, .int (nI a)), (3, .int w)] [.ref np12, .ref 1]
          refine sv_dup hΓ dX11_port_95 rfl rfl ?_
          refine sv_bipush (v := 10) hΓ dX11_port_96 (by decide) rfl ?_
          refine sv_iload_n hΓ dX11_port_98 rfl 5 rfl rfl ?_
          refine sv_iload_n hΓ dX11_port_99 rfl 3 rfl rfl ?_
          refine sv_iload_n hΓ dX11_port_100 rfl 4 rfl rfl ?_
          refine sv_bipush (v := (-2)) hΓ dX11_port_101 (by decide) rfl ?_
          refine sv_bipush (v := (-2)) hΓ dX11_port_103 (by decide) rfl ?_
          refine sv_aload hΓ dX11_port_105 0 rfl rfl ?_
          refine sv_callI hΓ (fun l => ct_X0_init l np12 10 w q (nI a) ((-2)) ((-2)) sz13 (by omega) (va_up_self _ _ _) hNW) wv_X11_87 tb_280 rfl rfl rfl (by decide) (Nat.le_of_ble_eq_true rfl) (Nat.le_of_ble_eq_true rfl) (Nat.le_of_ble_eq_true rfl) dX11_port_107 rfl (fun r M' nx' p14 => ?_)
          obtain ⟨rfl, rfl, rfl⟩ := p14
          show SV E Γ 6 (mm ci cl cr (va_up (va_up dyz13 np12 (some (.inr (0, [.int 0, .int 0, .int 0, .int 0, .int 0, .int 0, .null])))) np12 (some (.inr (0, [.int 10, .int w, .int q, .int ((nI a)), .int (((-2))), .int (((-2))), .ref sz13]))))) (np12 + 1) 2 9 110 [(5, .ref sz13), (4, .int 0), (0, .ref 1), (1, .int q), (2, .int (nI a)), (3, .int w)] [.ref np12, .ref 1]
          refine sv_callV hΓ (fun l => ct_X11_append l n np12 _ hn hn6 (by omega) (va_up_self _ _ _)) wv_X11_90 vs_X11_append rfl m_1 rfl rfl (by decide) (Nat.le_of_ble_eq_true rfl) (Nat.le_of_ble_eq_true rfl) (Nat.le_of_ble_eq_true rfl) dX11_port_110 rfl (fun r M' nx' p15 => ?_)
          rcases p15 with ⟨hlt, rfl, rfl, rfl⟩ | ⟨hlt, rfl, rfl, rfl⟩
          · show SV E Γ 6 (mm ci cl cr (va_up (va_up dyz13 np12 (some (.inr (0, [.int 0, .int 0, .int 0, .int 0, .int 0, .int 0, .null])))) np12 (some (.inr (0, [.int 10, .int w, .int q, .int ((nI a)), .int (((-2))), .int (((-2))), .ref sz13]))))) (np12 + 1) 2 9 113 [(5, .ref sz13), (4, .int 0), (0, .ref 1), (1, .int q), (2, .int (nI a)), (3, .int w)] [.int ((-2))]
            exact sv_iret hΓ hQ dX11_port_113 (Nat.le_of_ble_eq_true rfl) (Nat.le_of_ble_eq_true rfl) (Or.inr (Or.inr ⟨hA0, hxm, hB1, a, ha6, rfl, ⟨np12, sz13, _, (((EX.rf hD).tr hEz13).tr (EX.new ((EX.rf hD).tr hEz13).2.2)).set (by omega) (by omega), ⟨by omega, hSz13.1, va_up_self _ _ _, (va_up_ne _ _ (by omega)).trans ((va_up_ne _ _ (by omega)).trans (hSz13.2))⟩, Or.inl ⟨hlt, rfl, rfl⟩⟩⟩))
          · show SV E Γ 6 (mm (up2 (up2 (up2 ci 1 7 0) 1 8 0) 2 1 (nI (n + 1))) cl (up2 cr 3 n (some np12)) (va_up (va_up dyz13 np12 (some (.inr (0, [.int 0, .int 0, .int 0, .int 0, .int 0, .int 0, .null])))) np12 (some (.inr (0, [.int 10, .int w, .int q, .int ((nI a)), .int (((-2))), .int (((-2))), .ref sz13]))))) (np12 + 1) 2 9 113 [(5, .ref sz13), (4, .int 0), (0, .ref 1), (1, .int q), (2, .int (nI a)), (3, .int w)] [.int (nI n)]
            exact sv_iret hΓ hQ dX11_port_113 (Nat.le_of_ble_eq_true rfl) (Nat.le_of_ble_eq_true rfl) (Or.inr (Or.inr ⟨hA0, hxm, hB1, a, ha6, rfl, ⟨np12, sz13, _, (((EX.rf hD).tr hEz13).tr (EX.new ((EX.rf hD).tr hEz13).2.2)).set (by omega) (by omega), ⟨by omega, hSz13.1, va_up_self _ _ _, (va_up_ne _ _ (by omega)).trans ((va_up_ne _ _ (by omega)).trans (hSz13.2))⟩, Or.inr ⟨hlt, rfl, rfl⟩⟩⟩))
        · replace u8 := bI_0.mp u8
          refine sv_iconst (v := (-1)) hΓ dX11_port_42 (by decide) rfl ?_
          exact sv_iret hΓ hQ dX11_port_43 (Nat.le_of_ble_eq_true rfl) (Nat.le_of_ble_eq_true rfl) (Or.inl ⟨fun q => u8 q.2.2, rfl, rfl, rfl⟩)
  · refine sv_iconst (v := 1) hΓ dX11_port_5 (by decide) rfl ?_
    refine sv_goto (pc' := 10) hΓ dX11_port_6 (by decide) ?_
    refine sv_istore (lv' := [(4, .int 1), (0, .ref 1), (1, .int q), (2, .int x), (3, .int w)]) hΓ dX11_port_10 (by decide) rfl rfl ?_
    refine sv_iload_n hΓ dX11_port_12 rfl 2 rfl rfl ?_
    refine sv_callS hΓ (fun l => ct_X11_isPort l q ) wv_X11_94 tb_355 rfl rfl (by decide) (Nat.le_of_ble_eq_true rfl) (Nat.le_of_ble_eq_true rfl) (Nat.le_of_ble_eq_true rfl) dX11_port_13 rfl (fun r M' nx' p16 => ?_)
    obtain ⟨rfl, rfl, rfl⟩ := p16
    show SV E Γ 6 (mm ci cl cr dy) nx 0 0 16 [(4, .int 1), (0, .ref 1), (1, .int q), (2, .int x), (3, .int w)] [.int (bI (II 0 3 q))]
    refine sv_if_eq (tgt := 42) hΓ dX11_port_16 (by decide) rfl (fun u17 => ?_) (fun u17 => ?_)
    · replace u17 := bI_0.mp u17
      refine sv_iconst (v := (-1)) hΓ dX11_port_42 (by decide) rfl ?_
      exact sv_iret hΓ hQ dX11_port_43 (Nat.le_of_ble_eq_true rfl) (Nat.le_of_ble_eq_true rfl) (Or.inl ⟨fun q => u17 q.1, rfl, rfl, rfl⟩)
    · replace u17 := bI_ne.mp u17
      refine sv_iload hΓ dX11_port_19 0 rfl rfl ?_
      refine sv_if_ne (tgt := 35) hΓ dX11_port_21 (by decide) rfl (fun u18 => ?_) (fun u18 => absurd u18 (by decide))
      refine sv_iload_n hΓ dX11_port_35 rfl 4 rfl rfl ?_
      refine sv_callS hΓ (fun l => ct_X11_isWidth l w ) wv_X11_72 tb_253 rfl rfl (by decide) (Nat.le_of_ble_eq_true rfl) (Nat.le_of_ble_eq_true rfl) (Nat.le_of_ble_eq_true rfl) dX11_port_36 rfl (fun r M' nx' p19 => ?_)
      obtain ⟨rfl, rfl, rfl⟩ := p19
      show SV E Γ 6 (mm ci cl cr dy) nx 0 0 39 [(4, .int 1), (0, .ref 1), (1, .int q), (2, .int x), (3, .int w)] [.int (bI (II 1 32 w))]
      refine sv_if_ne (tgt := 44) hΓ dX11_port_39 (by decide) rfl (fun u20 => ?_) (fun u20 => ?_)
      · replace u20 := bI_ne.mp u20
        refine sv_iload hΓ dX11_port_44 0 rfl rfl ?_
        refine sv_if_eq (tgt := 74) hΓ dX11_port_46 (by decide) rfl (fun u21 => absurd u21 (by decide)) (fun u21 => ?_)
        have hA0 := u17
        have hB1 : II 1 32 w := u20
        have hxm : x = -1 := u1
        subst hxm
        refine sv_aload_n hΓ dX11_port_49 rfl 1 rfl rfl ?_
        refine nw_X11_80 hΓ dX11_port_50 (Nat.le_of_ble_eq_true rfl) (Nat.le_of_ble_eq_true rfl) rfl ?_
        rw [mm_dy (by omega)]
        show SV E Γ 6 (mm ci cl cr (va_up dy nx (some (.inr (0, [.int 0, .int 0, .int 0, .int 0, .int 0, .int 0, .null]))))) (nx + 1) 1 7 53 [(4, .int 1), (0, .ref 1), (1, .int q), (2, .int ((-1))), (3, .int w)] [.ref nx, .ref 1]
        refine sv_dup hΓ dX11_port_53 rfl rfl ?_
        refine sv_iconst (v := 1) hΓ dX11_port_54 (by decide) rfl ?_
        refine sv_iload_n hΓ dX11_port_55 rfl 4 rfl rfl ?_
        refine sv_iload_n hΓ dX11_port_56 rfl 2 rfl rfl ?_
        refine sv_bipush (v := (-2)) hΓ dX11_port_57 (by decide) rfl ?_
        refine sv_bipush (v := (-2)) hΓ dX11_port_59 (by decide) rfl ?_
        refine sv_bipush (v := (-2)) hΓ dX11_port_61 (by decide) rfl ?_
        refine sv_iload_n hΓ dX11_port_63 rfl 4 rfl rfl ?_
        refine sv_callS16 hΓ (fun l => ct_X8_wide l w (by omega) ((EX.rf hD).tr (EX.new (EX.rf hD).2.2)).2.2) wv_X11_100 tb_362 rfl rfl (by decide) (Nat.le_of_ble_eq_true rfl) (Nat.le_of_ble_eq_true rfl) (by decide) (Nat.le_of_ble_eq_true rfl) dX11_port_64 rfl (fun r M' np22 p22 => ?_)
        obtain ⟨sz23, dyz23, rfl, rfl, hSz23, hEz23⟩ := p22
        have h74z23 : 74 ≤ np22 := by have := hEz23.1; omega
        have hLz23 := hEz23.1
        have hQz23 := hEz23.2.2.lt hSz23.2
        have hNz23_0 : sz23 ≠ nx := fun e => by have z := hSz23.2; rw [e, (hEz23.2.1 nx (by omega)).trans (va_up_self _ _ _)] at z; simp at z
        show SV E Γ 6 (mm ci cl cr dyz23) np22 2 9 67 [(4, .int 1), (0, .ref 1), (1, .int q), (2, .int ((-1))), (3, .int w)] [.ref sz23, .int ((-2)), .int ((-2)), .int ((-2)), .int q, .int w, .int 1, .ref nx, .ref nx, .ref 1]
        refine sv_callI hΓ (fun l => ct_X0_init l nx 1 w q ((-2)) ((-2)) ((-2)) sz23 (by omega) ((hEz23.2.1 nx (by omega)).trans (va_up_self _ _ _)) hNW) wv_X11_87 tb_280 rfl rfl rfl (by decide) (Nat.le_of_ble_eq_true rfl) (Nat.le_of_ble_eq_true rfl) (Nat.le_of_ble_eq_true rfl) dX11_port_67 rfl (fun r M' nx' p24 => ?_)
        obtain ⟨rfl, rfl, rfl⟩ := p24
        show SV E Γ 6 (mm ci cl cr (va_up dyz23 nx (some (.inr (0, [.int 1, .int w, .int q, .int (((-2))), .int (((-2))), .int (((-2))), .ref sz23]))))) np22 2 9 70 [(4, .int 1), (0, .ref 1), (1, .int q), (2, .int ((-1))), (3, .int w)] [.ref nx, .ref 1]
        refine sv_callV hΓ (fun l => ct_X11_append l n nx _ hn hn6 (by omega) (va_up_self _ _ _)) wv_X11_90 vs_X11_append rfl m_1 rfl rfl (by decide) (Nat.le_of_ble_eq_true rfl) (Nat.le_of_ble_eq_true rfl) (Nat.le_of_ble_eq_true rfl) dX11_port_70 rfl (fun r M' nx' p25 => ?_)
        rcases p25 with ⟨hlt, rfl, rfl, rfl⟩ | ⟨hlt, rfl, rfl, rfl⟩
        · show SV E Γ 6 (mm ci cl cr (va_up dyz23 nx (some (.inr (0, [.int 1, .int w, .int q, .int (((-2))), .int (((-2))), .int (((-2))), .ref sz23]))))) np22 2 9 73 [(4, .int 1), (0, .ref 1), (1, .int q), (2, .int ((-1))), (3, .int w)] [.int ((-2))]
          exact sv_iret hΓ hQ dX11_port_73 (Nat.le_of_ble_eq_true rfl) (Nat.le_of_ble_eq_true rfl) (Or.inr (Or.inl ⟨hA0, rfl, hB1, ⟨nx, sz23, _, (((EX.rf hD).tr (EX.new (EX.rf hD).2.2)).tr hEz23).set (by omega) (by omega), ⟨by omega, hSz23.1, va_up_self _ _ _, (va_up_ne _ _ (by omega)).trans (hSz23.2)⟩, Or.inl ⟨hlt, rfl, rfl⟩⟩⟩))
        · show SV E Γ 6 (mm (up2 (up2 (up2 ci 1 7 0) 1 8 0) 2 1 (nI (n + 1))) cl (up2 cr 3 n (some nx)) (va_up dyz23 nx (some (.inr (0, [.int 1, .int w, .int q, .int (((-2))), .int (((-2))), .int (((-2))), .ref sz23]))))) np22 2 9 73 [(4, .int 1), (0, .ref 1), (1, .int q), (2, .int ((-1))), (3, .int w)] [.int (nI n)]
          exact sv_iret hΓ hQ dX11_port_73 (Nat.le_of_ble_eq_true rfl) (Nat.le_of_ble_eq_true rfl) (Or.inr (Or.inl ⟨hA0, rfl, hB1, ⟨nx, sz23, _, (((EX.rf hD).tr (EX.new (EX.rf hD).2.2)).tr hEz23).set (by omega) (by omega), ⟨by omega, hSz23.1, va_up_self _ _ _, (va_up_ne _ _ (by omega)).trans (hSz23.2)⟩, Or.inr ⟨hlt, rfl, rfl⟩⟩⟩))
      · replace u20 := bI_0.mp u20
        refine sv_iconst (v := (-1)) hΓ dX11_port_42 (by decide) rfl ?_
        exact sv_iret hΓ hQ dX11_port_43 (Nat.le_of_ble_eq_true rfl) (Nat.le_of_ble_eq_true rfl) (Or.inl ⟨fun q => u20 q.2.2, rfl, rfl, rfl⟩)
set_option maxRecDepth 100000 in
set_option maxHeartbeats 1000000 in
/-- reckon -/
theorem ct_X11_reckon {E : aG} (l : Launch) (c : aI) (nu : Nat → Int64) (op : Int32) (x : Int32) (y : Int32) (w : Int32) (n : Nat) {ci : Nat → Nat → Int32} {cl : Nat → Nat → Int64} {cr : Nat → Nat → Option Nat} {dy : aM} {nx : Nat} (hB : BK c nu ci cr dy n) (hNW : NW E) (h74 : 74 ≤ nx) (hD : DN dy nx) : CT E l yX11_reckon cX11_reckon 6 (some .int) 4 [.ref 1, .int op, .int x, .int y, .int w] (mm ci cl cr dy) nx 3 11 (fun r M' nx' => (¬ (II 2 6 op ∧ AI n x ∧ AI n y ∧ II 1 32 w) ∧ r = some (.int (-1)) ∧ M' = mm ci cl cr dy ∧ nx = nx') ∨ (II 2 6 op ∧ II 1 32 w ∧ ∃ a b, a < n ∧ b < n ∧ x = nI a ∧ y = nI b ∧ ∃ k s dy', EX dy nx dy' nx' ∧ ACT dy' k s (op) (w) (-2) (nI a) (nI b) (-2) (ftLo (rkLo op (SL c nu a) (SH c nu a) (SL c nu b) (SH c nu b)) (rkHi op (SL c nu a) (SH c nu a) (SL c nu b) (SH c nu b)) w) (ftHi (rkLo op (SL c nu a) (SH c nu a) (SL c nu b) (SH c nu b)) (rkHi op (SL c nu a) (SH c nu a) (SL c nu b) (SH c nu b)) w) ∧ ((n = 16 ∧ r = some (.int (-2)) ∧ M' = mm ci cl cr dy') ∨ (n < 16 ∧ r = some (.int (nI n)) ∧ M' = mm (up2 (up2 (up2 ci 1 7 0) 1 8 0) 2 1 (nI (n + 1))) cl (up2 cr 3 n (some k)) dy')))) := by
  refine CT_intro (by decide) (Nat.le_of_ble_eq_true rfl) (fun Γ hΓ hQ => ?_)
  replace hΓ : CK E RX11 cX11_reckon 6 (some .int) "reckon" 4 3 11 Γ := hΓ
  have hB0 := hB
  obtain ⟨hAC, hST, hn6, hn, hwf, hwp, hln⟩ := hB
  show SV E Γ 6 (mm ci cl cr dy) nx 0 0 0 [(0, .ref 1), (1, .int op), (2, .int x), (3, .int y), (4, .int w)] []
  refine sv_iload_n hΓ dX11_reckon_0 rfl 1 rfl rfl ?_
  refine sv_iconst (v := 2) hΓ dX11_reckon_1 (by decide) rfl ?_
  refine sv_bipush (v := 6) hΓ dX11_reckon_2 (by decide) rfl ?_
  refine sv_callS hΓ (fun l => ct_X11_withinI l op 2 6 2 6 (by decide) (by decide) rfl rfl) wv_X11_115 tb_256 rfl rfl (by decide) (Nat.le_of_ble_eq_true rfl) (Nat.le_of_ble_eq_true rfl) (Nat.le_of_ble_eq_true rfl) dX11_reckon_4 rfl (fun r M' nx' p1 => ?_)
  obtain ⟨rfl, rfl, rfl⟩ := p1
  show SV E Γ 6 (mm ci cl cr dy) nx 0 0 7 [(0, .ref 1), (1, .int op), (2, .int x), (3, .int y), (4, .int w)] [.int (bI (II 2 6 op))]
  refine sv_if_eq (tgt := 40) hΓ dX11_reckon_7 (by decide) rfl (fun u2 => ?_) (fun u2 => ?_)
  · replace u2 := bI_0.mp u2
    refine sv_iconst (v := (-1)) hΓ dX11_reckon_40 (by decide) rfl ?_
    exact sv_iret hΓ hQ dX11_reckon_41 (Nat.le_of_ble_eq_true rfl) (Nat.le_of_ble_eq_true rfl) (Or.inl ⟨(fun q => u2 q.1), rfl, rfl, rfl⟩)
  · replace u2 := bI_ne.mp u2
    refine sv_aload_n hΓ dX11_reckon_10 rfl 0 rfl rfl ?_
    refine g_X11_10_1 hΓ dX11_reckon_11 rfl ?_
    refine sv_iload_n hΓ dX11_reckon_14 rfl 2 rfl rfl ?_
    refine sv_callV hΓ (fun l => ct_X1_has l x n hn hn6) wv_X11_97 vs_X1_has rfl m_2 rfl rfl (by decide) (Nat.le_of_ble_eq_true rfl) (Nat.le_of_ble_eq_true rfl) (Nat.le_of_ble_eq_true rfl) dX11_reckon_15 rfl (fun r M' nx' p3 => ?_)
    obtain ⟨rfl, rfl, rfl⟩ := p3
    show SV E Γ 6 (mm ci cl cr dy) nx 0 0 18 [(0, .ref 1), (1, .int op), (2, .int x), (3, .int y), (4, .int w)] [.int (bI (AI n x))]
    refine sv_if_eq (tgt := 40) hΓ dX11_reckon_18 (by decide) rfl (fun u4 => ?_) (fun u4 => ?_)
    · replace u4 := bI_0.mp u4
      refine sv_iconst (v := (-1)) hΓ dX11_reckon_40 (by decide) rfl ?_
      exact sv_iret hΓ hQ dX11_reckon_41 (Nat.le_of_ble_eq_true rfl) (Nat.le_of_ble_eq_true rfl) (Or.inl ⟨(fun q => u4 q.2.1), rfl, rfl, rfl⟩)
    · replace u4 := bI_ne.mp u4
      refine sv_aload_n hΓ dX11_reckon_21 rfl 0 rfl rfl ?_
      refine g_X11_10_1 hΓ dX11_reckon_22 rfl ?_
      refine sv_iload_n hΓ dX11_reckon_25 rfl 3 rfl rfl ?_
      refine sv_callV hΓ (fun l => ct_X1_has l y n hn hn6) wv_X11_97 vs_X1_has rfl m_2 rfl rfl (by decide) (Nat.le_of_ble_eq_true rfl) (Nat.le_of_ble_eq_true rfl) (Nat.le_of_ble_eq_true rfl) dX11_reckon_26 rfl (fun r M' nx' p5 => ?_)
      obtain ⟨rfl, rfl, rfl⟩ := p5
      show SV E Γ 6 (mm ci cl cr dy) nx 0 0 29 [(0, .ref 1), (1, .int op), (2, .int x), (3, .int y), (4, .int w)] [.int (bI (AI n y))]
      refine sv_if_eq (tgt := 40) hΓ dX11_reckon_29 (by decide) rfl (fun u6 => ?_) (fun u6 => ?_)
      · replace u6 := bI_0.mp u6
        refine sv_iconst (v := (-1)) hΓ dX11_reckon_40 (by decide) rfl ?_
        exact sv_iret hΓ hQ dX11_reckon_41 (Nat.le_of_ble_eq_true rfl) (Nat.le_of_ble_eq_true rfl) (Or.inl ⟨(fun q => u6 q.2.2.1), rfl, rfl, rfl⟩)
      · replace u6 := bI_ne.mp u6
        refine sv_iload hΓ dX11_reckon_32 4 rfl rfl ?_
        refine sv_callS hΓ (fun l => ct_X11_isWidth l w ) wv_X11_72 tb_253 rfl rfl (by decide) (Nat.le_of_ble_eq_true rfl) (Nat.le_of_ble_eq_true rfl) (Nat.le_of_ble_eq_true rfl) dX11_reckon_34 rfl (fun r M' nx' p7 => ?_)
        obtain ⟨rfl, rfl, rfl⟩ := p7
        show SV E Γ 6 (mm ci cl cr dy) nx 0 0 37 [(0, .ref 1), (1, .int op), (2, .int x), (3, .int y), (4, .int w)] [.int (bI (II 1 32 w))]
        refine sv_if_ne (tgt := 42) hΓ dX11_reckon_37 (by decide) rfl (fun u8 => ?_) (fun u8 => ?_)
        · replace u8 := bI_ne.mp u8
          have hop := u2
          have hwi := u8
          obtain ⟨a, ha6, ea⟩ := AI.k u4
          subst ea
          obtain ⟨b, hb6, eb⟩ := AI.k u6
          subst eb
          refine sv_aload_n hΓ dX11_reckon_42 rfl 0 rfl rfl ?_
          refine g_X11_10_1 hΓ dX11_reckon_43 rfl ?_
          refine sv_iload_n hΓ dX11_reckon_46 rfl 2 rfl rfl ?_
          obtain ⟨kg9, sg9, hrg9, hAg9⟩ := hAC a (by omega)
          refine sv_callV hΓ (fun l => ct_X1_get l a kg9 (by omega) hrg9) wv_X11_104 vs_X1_get rfl m_2 rfl rfl (by decide) (Nat.le_of_ble_eq_true rfl) (Nat.le_of_ble_eq_true rfl) (Nat.le_of_ble_eq_true rfl) dX11_reckon_47 rfl (fun r M' nx' p10 => ?_)
          obtain ⟨rfl, rfl, rfl⟩ := p10
          show SV E Γ 6 (mm ci cl cr dy) nx 0 0 50 [(0, .ref 1), (1, .int op), (2, .int (nI a)), (3, .int (nI b)), (4, .int w)] [.ref kg9]
          refine gt_X11_108 hΓ hAg9.m rfl dX11_reckon_50 rfl ?_
          refine sv_iload_n hΓ dX11_reckon_53 rfl 1 rfl rfl ?_
          refine sv_aload_n hΓ dX11_reckon_54 rfl 0 rfl rfl ?_
          refine g_X11_10_1 hΓ dX11_reckon_55 rfl ?_
          refine sv_iload_n hΓ dX11_reckon_58 rfl 3 rfl rfl ?_
          obtain ⟨kg11, sg11, hrg11, hAg11⟩ := hAC b (by omega)
          refine sv_callV hΓ (fun l => ct_X1_get l b kg11 (by omega) hrg11) wv_X11_104 vs_X1_get rfl m_2 rfl rfl (by decide) (Nat.le_of_ble_eq_true rfl) (Nat.le_of_ble_eq_true rfl) (Nat.le_of_ble_eq_true rfl) dX11_reckon_59 rfl (fun r M' nx' p12 => ?_)
          obtain ⟨rfl, rfl, rfl⟩ := p12
          show SV E Γ 6 (mm ci cl cr dy) nx 0 0 62 [(0, .ref 1), (1, .int op), (2, .int (nI a)), (3, .int (nI b)), (4, .int w)] [.ref kg11, .int op, .ref sg9]
          refine gt_X11_108 hΓ hAg11.m rfl dX11_reckon_62 rfl ?_
          have ltsg9 := hD.lt hAg9.2.2.2
          have ltsg11 := hD.lt hAg11.2.2.2
          refine sv_callV hΓ (fun l => ct_X8_reckoned l sg9 (SL c nu a) (SH c nu a) sg11 (SL c nu b) (SH c nu b) op hAg9.sp hAg11.sp (by omega) (EX.rf hD).2.2) wv_X11_119 vs_X8_reckoned rfl hAg9.sp.m rfl rfl (by decide) (Nat.le_of_ble_eq_true rfl) (Nat.le_of_ble_eq_true rfl) (Nat.le_of_ble_eq_true rfl) dX11_reckon_65 rfl (fun r M' np13 p13 => ?_)
          obtain ⟨sz14, dyz14, rfl, rfl, hSz14, hEz14⟩ := p13
          have h74z14 : 74 ≤ np13 := by have := hEz14.1; omega
          have hLz14 := hEz14.1
          have hQz14 := hEz14.2.2.lt hSz14.2
          show SV E Γ 6 (mm ci cl cr dyz14) np13 1 2 68 [(0, .ref 1), (1, .int op), (2, .int (nI a)), (3, .int (nI b)), (4, .int w)] [.ref sz14]
          refine sv_iload hΓ dX11_reckon_68 4 rfl rfl ?_
          refine sv_callV hΓ (fun l => ct_X8_fitted l sz14 (rkLo op (SL c nu a) (SH c nu a) (SL c nu b) (SH c nu b)) (rkHi op (SL c nu a) (SH c nu a) (SL c nu b) (SH c nu b)) w hSz14 (by omega) ((EX.rf hD).tr hEz14).2.2) wv_X11_112 vs_X8_fitted rfl hSz14.m rfl rfl (by decide) (Nat.le_of_ble_eq_true rfl) (Nat.le_of_ble_eq_true rfl) (Nat.le_of_ble_eq_true rfl) dX11_reckon_70 rfl (fun r M' np15 p15 => ?_)
          obtain ⟨sz16, dyz16, rfl, rfl, hSz16, hEz16⟩ := p15
          have h74z16 : 74 ≤ np15 := by have := hEz16.1; omega
          have hLz16 := hEz16.1
          have hQz16 := hEz16.2.2.lt hSz16.2
          show SV E Γ 6 (mm ci cl cr dyz16) np15 2 4 73 [(0, .ref 1), (1, .int op), (2, .int (nI a)), (3, .int (nI b)), (4, .int w)] [.ref sz16]
          refine sv_astore (lv' := [(5, .ref sz16), (0, .ref 1), (1, .int op), (2, .int (nI a)), (3, .int (nI b)), (4, .int w)]) hΓ dX11_reckon_73 (by decide) rfl rfl ?_
          refine sv_aload_n hΓ dX11_reckon_75 rfl 1 rfl rfl ?_
          refine nw_X11_80 hΓ dX11_reckon_76 (Nat.le_of_ble_eq_true rfl) (Nat.le_of_ble_eq_true rfl) rfl ?_
          rw [mm_dy (by omega)]
          show SV E Γ 6 (mm ci cl cr (va_up dyz16 np15 (some (.inr (0, [.int 0, .int 0, .int 0, .int 0, .int 0, .int 0, .null]))))) (np15 + 1) 3 11 79 [(5, .ref sz16), (0, .ref 1), (1, .int op), (2, .int (nI a)), (3, .int (nI b)), (4, .int w)] [.ref np15, .ref 1]
          refine sv_dup hΓ dX11_reckon_79 rfl rfl ?_
          refine sv_iload_n hΓ dX11_reckon_80 rfl 2 rfl rfl ?_
          refine sv_iload hΓ dX11_reckon_81 5 rfl rfl ?_
          refine sv_bipush (v := (-2)) hΓ dX11_reckon_83 (by decide) rfl ?_
          refine sv_iload_n hΓ dX11_reckon_85 rfl 3 rfl rfl ?_
          refine sv_iload_n hΓ dX11_reckon_86 rfl 4 rfl rfl ?_
          refine sv_bipush (v := (-2)) hΓ dX11_reckon_87 (by decide) rfl ?_
          refine sv_aload hΓ dX11_reckon_89 0 rfl rfl ?_
          refine sv_callI hΓ (fun l => ct_X0_init l np15 op w ((-2)) (nI a) (nI b) ((-2)) sz16 (by omega) (va_up_self _ _ _) hNW) wv_X11_87 tb_280 rfl rfl rfl (by decide) (Nat.le_of_ble_eq_true rfl) (Nat.le_of_ble_eq_true rfl) (Nat.le_of_ble_eq_true rfl) dX11_reckon_91 rfl (fun r M' nx' p17 => ?_)
          obtain ⟨rfl, rfl, rfl⟩ := p17
          show SV E Γ 6 (mm ci cl cr (va_up (va_up dyz16 np15 (some (.inr (0, [.int 0, .int 0, .int 0, .int 0, .int 0, .int 0, .null])))) np15 (some (.inr (0, [.int op, .int w, .int (((-2))), .int ((nI a)), .int ((nI b)), .int (((-2))), .ref sz16]))))) (np15 + 1) 3 11 94 [(5, .ref sz16), (0, .ref 1), (1, .int op), (2, .int (nI a)), (3, .int (nI b)), (4, .int w)] [.ref np15, .ref 1]
          refine sv_callV hΓ (fun l => ct_X11_append l n np15 _ hn hn6 (by omega) (va_up_self _ _ _)) wv_X11_90 vs_X11_append rfl m_1 rfl rfl (by decide) (Nat.le_of_ble_eq_true rfl) (Nat.le_of_ble_eq_true rfl) (Nat.le_of_ble_eq_true rfl) dX11_reckon_94 rfl (fun r M' nx' p18 => ?_)
          rcases p18 with ⟨hlt, rfl, rfl, rfl⟩ | ⟨hlt, rfl, rfl, rfl⟩
          · show SV E Γ 6 (mm ci cl cr (va_up (va_up dyz16 np15 (some (.inr (0, [.int 0, .int 0, .int 0, .int 0, .int 0, .int 0, .null])))) np15 (some (.inr (0, [.int op, .int w, .int (((-2))), .int ((nI a)), .int ((nI b)), .int (((-2))), .ref sz16]))))) (np15 + 1) 3 11 97 [(5, .ref sz16), (0, .ref 1), (1, .int op), (2, .int (nI a)), (3, .int (nI b)), (4, .int w)] [.int ((-2))]
            exact sv_iret hΓ hQ dX11_reckon_97 (Nat.le_of_ble_eq_true rfl) (Nat.le_of_ble_eq_true rfl) (Or.inr ⟨hop, hwi, a, b, ha6, hb6, rfl, rfl, ⟨np15, sz16, _, ((((EX.rf hD).tr hEz14).tr hEz16).tr (EX.new (((EX.rf hD).tr hEz14).tr hEz16).2.2)).set (by omega) (by omega), ⟨by omega, hSz16.1, va_up_self _ _ _, (va_up_ne _ _ (by omega)).trans ((va_up_ne _ _ (by omega)).trans (hSz16.2))⟩, Or.inl ⟨hlt, rfl, rfl⟩⟩⟩)
          · show SV E Γ 6 (mm (up2 (up2 (up2 ci 1 7 0) 1 8 0) 2 1 (nI (n + 1))) cl (up2 cr 3 n (some np15)) (va_up (va_up dyz16 np15 (some (.inr (0, [.int 0, .int 0, .int 0, .int 0, .int 0, .int 0, .null])))) np15 (some (.inr (0, [.int op, .int w, .int (((-2))), .int ((nI a)), .int ((nI b)), .int (((-2))), .ref sz16]))))) (np15 + 1) 3 11 97 [(5, .ref sz16), (0, .ref 1), (1, .int op), (2, .int (nI a)), (3, .int (nI b)), (4, .int w)] [.int (nI n)]
            exact sv_iret hΓ hQ dX11_reckon_97 (Nat.le_of_ble_eq_true rfl) (Nat.le_of_ble_eq_true rfl) (Or.inr ⟨hop, hwi, a, b, ha6, hb6, rfl, rfl, ⟨np15, sz16, _, ((((EX.rf hD).tr hEz14).tr hEz16).tr (EX.new (((EX.rf hD).tr hEz14).tr hEz16).2.2)).set (by omega) (by omega), ⟨by omega, hSz16.1, va_up_self _ _ _, (va_up_ne _ _ (by omega)).trans ((va_up_ne _ _ (by omega)).trans (hSz16.2))⟩, Or.inr ⟨hlt, rfl, rfl⟩⟩⟩)
        · replace u8 := bI_0.mp u8
          refine sv_iconst (v := (-1)) hΓ dX11_reckon_40 (by decide) rfl ?_
          exact sv_iret hΓ hQ dX11_reckon_41 (Nat.le_of_ble_eq_true rfl) (Nat.le_of_ble_eq_true rfl) (Or.inl ⟨(fun q => u8 q.2.2.2), rfl, rfl, rfl⟩)
set_option maxRecDepth 100000 in
set_option maxHeartbeats 1000000 in
/-- pick -/
theorem ct_X11_pick {E : aG} (l : Launch) (c : aI) (nu : Nat → Int64) (x : Int32) (y : Int32) (z : Int32) (w : Int32) (n : Nat) {ci : Nat → Nat → Int32} {cl : Nat → Nat → Int64} {cr : Nat → Nat → Option Nat} {dy : aM} {nx : Nat} (hB : BK c nu ci cr dy n) (hNW : NW E) (h74 : 74 ≤ nx) (hD : DN dy nx) : CT E l yX11_pick cX11_pick 6 (some .int) 4 [.ref 1, .int x, .int y, .int z, .int w] (mm ci cl cr dy) nx 3 11 (fun r M' nx' => (¬ (AI n x ∧ AI n y ∧ AI n z ∧ II 1 32 w) ∧ r = some (.int (-1)) ∧ M' = mm ci cl cr dy ∧ nx = nx') ∨ (II 1 32 w ∧ ∃ a b d, a < n ∧ b < n ∧ d < n ∧ x = nI a ∧ y = nI b ∧ z = nI d ∧ ∃ k s dy', EX dy nx dy' nx' ∧ ACT dy' k s (7) (w) (-2) (nI a) (nI b) (nI d) (ftLo (pcLo (SL c nu a) (SH c nu a) (SL c nu b) (SL c nu d)) (pcHi (SL c nu a) (SH c nu a) (SH c nu b) (SH c nu d)) w) (ftHi (pcLo (SL c nu a) (SH c nu a) (SL c nu b) (SL c nu d)) (pcHi (SL c nu a) (SH c nu a) (SH c nu b) (SH c nu d)) w) ∧ ((n = 16 ∧ r = some (.int (-2)) ∧ M' = mm ci cl cr dy') ∨ (n < 16 ∧ r = some (.int (nI n)) ∧ M' = mm (up2 (up2 (up2 ci 1 7 0) 1 8 0) 2 1 (nI (n + 1))) cl (up2 cr 3 n (some k)) dy')))) := by
  refine CT_intro (by decide) (Nat.le_of_ble_eq_true rfl) (fun Γ hΓ hQ => ?_)
  replace hΓ : CK E RX11 cX11_pick 6 (some .int) "pick" 4 3 11 Γ := hΓ
  have hB0 := hB
  obtain ⟨hAC, hST, hn6, hn, hwf, hwp, hln⟩ := hB
  show SV E Γ 6 (mm ci cl cr dy) nx 0 0 0 [(0, .ref 1), (1, .int x), (2, .int y), (3, .int z), (4, .int w)] []
  refine sv_aload_n hΓ dX11_pick_0 rfl 0 rfl rfl ?_
  refine g_X11_10_1 hΓ dX11_pick_1 rfl ?_
  refine sv_iload_n hΓ dX11_pick_4 rfl 1 rfl rfl ?_
  refine sv_callV hΓ (fun l => ct_X1_has l x n hn hn6) wv_X11_97 vs_X1_has rfl m_2 rfl rfl (by decide) (Nat.le_of_ble_eq_true rfl) (Nat.le_of_ble_eq_true rfl) (Nat.le_of_ble_eq_true rfl) dX11_pick_5 rfl (fun r M' nx' p1 => ?_)
  obtain ⟨rfl, rfl, rfl⟩ := p1
  show SV E Γ 6 (mm ci cl cr dy) nx 0 0 8 [(0, .ref 1), (1, .int x), (2, .int y), (3, .int z), (4, .int w)] [.int (bI (AI n x))]
  refine sv_if_eq (tgt := 41) hΓ dX11_pick_8 (by decide) rfl (fun u2 => ?_) (fun u2 => ?_)
  · replace u2 := bI_0.mp u2
    refine sv_iconst (v := (-1)) hΓ dX11_pick_41 (by decide) rfl ?_
    exact sv_iret hΓ hQ dX11_pick_42 (Nat.le_of_ble_eq_true rfl) (Nat.le_of_ble_eq_true rfl) (Or.inl ⟨(fun q => u2 q.1), rfl, rfl, rfl⟩)
  · replace u2 := bI_ne.mp u2
    refine sv_aload_n hΓ dX11_pick_11 rfl 0 rfl rfl ?_
    refine g_X11_10_1 hΓ dX11_pick_12 rfl ?_
    refine sv_iload_n hΓ dX11_pick_15 rfl 2 rfl rfl ?_
    refine sv_callV hΓ (fun l => ct_X1_has l y n hn hn6) wv_X11_97 vs_X1_has rfl m_2 rfl rfl (by decide) (Nat.le_of_ble_eq_true rfl) (Nat.le_of_ble_eq_true rfl) (Nat.le_of_ble_eq_true rfl) dX11_pick_16 rfl (fun r M' nx' p3 => ?_)
    obtain ⟨rfl, rfl, rfl⟩ := p3
    show SV E Γ 6 (mm ci cl cr dy) nx 0 0 19 [(0, .ref 1), (1, .int x), (2, .int y), (3, .int z), (4, .int w)] [.int (bI (AI n y))]
    refine sv_if_eq (tgt := 41) hΓ dX11_pick_19 (by decide) rfl (fun u4 => ?_) (fun u4 => ?_)
    · replace u4 := bI_0.mp u4
      refine sv_iconst (v := (-1)) hΓ dX11_pick_41 (by decide) rfl ?_
      exact sv_iret hΓ hQ dX11_pick_42 (Nat.le_of_ble_eq_true rfl) (Nat.le_of_ble_eq_true rfl) (Or.inl ⟨(fun q => u4 q.2.1), rfl, rfl, rfl⟩)
    · replace u4 := bI_ne.mp u4
      refine sv_aload_n hΓ dX11_pick_22 rfl 0 rfl rfl ?_
      refine g_X11_10_1 hΓ dX11_pick_23 rfl ?_
      refine sv_iload_n hΓ dX11_pick_26 rfl 3 rfl rfl ?_
      refine sv_callV hΓ (fun l => ct_X1_has l z n hn hn6) wv_X11_97 vs_X1_has rfl m_2 rfl rfl (by decide) (Nat.le_of_ble_eq_true rfl) (Nat.le_of_ble_eq_true rfl) (Nat.le_of_ble_eq_true rfl) dX11_pick_27 rfl (fun r M' nx' p5 => ?_)
      obtain ⟨rfl, rfl, rfl⟩ := p5
      show SV E Γ 6 (mm ci cl cr dy) nx 0 0 30 [(0, .ref 1), (1, .int x), (2, .int y), (3, .int z), (4, .int w)] [.int (bI (AI n z))]
      refine sv_if_eq (tgt := 41) hΓ dX11_pick_30 (by decide) rfl (fun u6 => ?_) (fun u6 => ?_)
      · replace u6 := bI_0.mp u6
        refine sv_iconst (v := (-1)) hΓ dX11_pick_41 (by decide) rfl ?_
        exact sv_iret hΓ hQ dX11_pick_42 (Nat.le_of_ble_eq_true rfl) (Nat.le_of_ble_eq_true rfl) (Or.inl ⟨(fun q => u6 q.2.2.1), rfl, rfl, rfl⟩)
      · replace u6 := bI_ne.mp u6
        refine sv_iload hΓ dX11_pick_33 4 rfl rfl ?_
        refine sv_callS hΓ (fun l => ct_X11_isWidth l w ) wv_X11_72 tb_253 rfl rfl (by decide) (Nat.le_of_ble_eq_true rfl) (Nat.le_of_ble_eq_true rfl) (Nat.le_of_ble_eq_true rfl) dX11_pick_35 rfl (fun r M' nx' p7 => ?_)
        obtain ⟨rfl, rfl, rfl⟩ := p7
        show SV E Γ 6 (mm ci cl cr dy) nx 0 0 38 [(0, .ref 1), (1, .int x), (2, .int y), (3, .int z), (4, .int w)] [.int (bI (II 1 32 w))]
        refine sv_if_ne (tgt := 43) hΓ dX11_pick_38 (by decide) rfl (fun u8 => ?_) (fun u8 => ?_)
        · replace u8 := bI_ne.mp u8
          have hwi := u8
          obtain ⟨a, ha6, ea⟩ := AI.k u2
          subst ea
          obtain ⟨b, hb6, eb⟩ := AI.k u4
          subst eb
          obtain ⟨d, hd6, ed⟩ := AI.k u6
          subst ed
          refine sv_aload_n hΓ dX11_pick_43 rfl 0 rfl rfl ?_
          refine g_X11_10_1 hΓ dX11_pick_44 rfl ?_
          refine sv_iload_n hΓ dX11_pick_47 rfl 1 rfl rfl ?_
          obtain ⟨kg9, sg9, hrg9, hAg9⟩ := hAC a (by omega)
          refine sv_callV hΓ (fun l => ct_X1_get l a kg9 (by omega) hrg9) wv_X11_104 vs_X1_get rfl m_2 rfl rfl (by decide) (Nat.le_of_ble_eq_true rfl) (Nat.le_of_ble_eq_true rfl) (Nat.le_of_ble_eq_true rfl) dX11_pick_48 rfl (fun r M' nx' p10 => ?_)
          obtain ⟨rfl, rfl, rfl⟩ := p10
          show SV E Γ 6 (mm ci cl cr dy) nx 0 0 51 [(0, .ref 1), (1, .int (nI a)), (2, .int (nI b)), (3, .int (nI d)), (4, .int w)] [.ref kg9]
          refine gt_X11_108 hΓ hAg9.m rfl dX11_pick_51 rfl ?_
          refine sv_aload_n hΓ dX11_pick_54 rfl 0 rfl rfl ?_
          refine g_X11_10_1 hΓ dX11_pick_55 rfl ?_
          refine sv_iload_n hΓ dX11_pick_58 rfl 2 rfl rfl ?_
          obtain ⟨kg11, sg11, hrg11, hAg11⟩ := hAC b (by omega)
          refine sv_callV hΓ (fun l => ct_X1_get l b kg11 (by omega) hrg11) wv_X11_104 vs_X1_get rfl m_2 rfl rfl (by decide) (Nat.le_of_ble_eq_true rfl) (Nat.le_of_ble_eq_true rfl) (Nat.le_of_ble_eq_true rfl) dX11_pick_59 rfl (fun r M' nx' p12 => ?_)
          obtain ⟨rfl, rfl, rfl⟩ := p12
          show SV E Γ 6 (mm ci cl cr dy) nx 0 0 62 [(0, .ref 1), (1, .int (nI a)), (2, .int (nI b)), (3, .int (nI d)), (4, .int w)] [.ref kg11, .ref sg9]
          refine gt_X11_108 hΓ hAg11.m rfl dX11_pick_62 rfl ?_
          refine sv_aload_n hΓ dX11_pick_65 rfl 0 rfl rfl ?_
          refine g_X11_10_1 hΓ dX11_pick_66 rfl ?_
          refine sv_iload_n hΓ dX11_pick_69 rfl 3 rfl rfl ?_
          obtain ⟨kg13, sg13, hrg13, hAg13⟩ := hAC d (by omega)
          refine sv_callV hΓ (fun l => ct_X1_get l d kg13 (by omega) hrg13) wv_X11_104 vs_X1_get rfl m_2 rfl rfl (by decide) (Nat.le_of_ble_eq_true rfl) (Nat.le_of_ble_eq_true rfl) (Nat.le_of_ble_eq_true rfl) dX11_pick_70 rfl (fun r M' nx' p14 => ?_)
          obtain ⟨rfl, rfl, rfl⟩ := p14
          show SV E Γ 6 (mm ci cl cr dy) nx 0 0 73 [(0, .ref 1), (1, .int (nI a)), (2, .int (nI b)), (3, .int (nI d)), (4, .int w)] [.ref kg13, .ref sg11, .ref sg9]
          refine gt_X11_108 hΓ hAg13.m rfl dX11_pick_73 rfl ?_
          have ltsg9 := hD.lt hAg9.2.2.2
          have ltsg11 := hD.lt hAg11.2.2.2
          have ltsg13 := hD.lt hAg13.2.2.2
          refine sv_callV hΓ (fun l => ct_X8_picked l sg9 (SL c nu a) (SH c nu a) sg11 (SL c nu b) (SH c nu b) sg13 (SL c nu d) (SH c nu d) hAg9.sp hAg11.sp hAg13.sp (by omega) (EX.rf hD).2.2) wv_X11_123 vs_X8_picked rfl hAg9.sp.m rfl rfl (by decide) (Nat.le_of_ble_eq_true rfl) (Nat.le_of_ble_eq_true rfl) (Nat.le_of_ble_eq_true rfl) dX11_pick_76 rfl (fun r M' np15 p15 => ?_)
          obtain ⟨sz16, dyz16, rfl, rfl, hSz16, hEz16⟩ := p15
          have h74z16 : 74 ≤ np15 := by have := hEz16.1; omega
          have hLz16 := hEz16.1
          have hQz16 := hEz16.2.2.lt hSz16.2
          show SV E Γ 6 (mm ci cl cr dyz16) np15 1 2 79 [(0, .ref 1), (1, .int (nI a)), (2, .int (nI b)), (3, .int (nI d)), (4, .int w)] [.ref sz16]
          refine sv_iload hΓ dX11_pick_79 4 rfl rfl ?_
          refine sv_callV hΓ (fun l => ct_X8_fitted l sz16 (pcLo (SL c nu a) (SH c nu a) (SL c nu b) (SL c nu d)) (pcHi (SL c nu a) (SH c nu a) (SH c nu b) (SH c nu d)) w hSz16 (by omega) ((EX.rf hD).tr hEz16).2.2) wv_X11_112 vs_X8_fitted rfl hSz16.m rfl rfl (by decide) (Nat.le_of_ble_eq_true rfl) (Nat.le_of_ble_eq_true rfl) (Nat.le_of_ble_eq_true rfl) dX11_pick_81 rfl (fun r M' np17 p17 => ?_)
          obtain ⟨sz18, dyz18, rfl, rfl, hSz18, hEz18⟩ := p17
          have h74z18 : 74 ≤ np17 := by have := hEz18.1; omega
          have hLz18 := hEz18.1
          have hQz18 := hEz18.2.2.lt hSz18.2
          show SV E Γ 6 (mm ci cl cr dyz18) np17 2 4 84 [(0, .ref 1), (1, .int (nI a)), (2, .int (nI b)), (3, .int (nI d)), (4, .int w)] [.ref sz18]
          refine sv_astore (lv' := [(5, .ref sz18), (0, .ref 1), (1, .int (nI a)), (2, .int (nI b)), (3, .int (nI d)), (4, .int w)]) hΓ dX11_pick_84 (by decide) rfl rfl ?_
          refine sv_aload_n hΓ dX11_pick_86 rfl 1 rfl rfl ?_
          refine nw_X11_80 hΓ dX11_pick_87 (Nat.le_of_ble_eq_true rfl) (Nat.le_of_ble_eq_true rfl) rfl ?_
          rw [mm_dy (by omega)]
          show SV E Γ 6 (mm ci cl cr (va_up dyz18 np17 (some (.inr (0, [.int 0, .int 0, .int 0, .int 0, .int 0, .int 0, .null]))))) (np17 + 1) 3 11 90 [(5, .ref sz18), (0, .ref 1), (1, .int (nI a)), (2, .int (nI b)), (3, .int (nI d)), (4, .int w)] [.ref np17, .ref 1]
          refine sv_dup hΓ dX11_pick_90 rfl rfl ?_
          refine sv_bipush (v := 7) hΓ dX11_pick_91 (by decide) rfl ?_
          refine sv_iload hΓ dX11_pick_93 5 rfl rfl ?_
          refine sv_bipush (v := (-2)) hΓ dX11_pick_95 (by decide) rfl ?_
          refine sv_iload_n hΓ dX11_pick_97 rfl 2 rfl rfl ?_
          refine sv_iload_n hΓ dX11_pick_98 rfl 3 rfl rfl ?_
          refine sv_iload_n hΓ dX11_pick_99 rfl 4 rfl rfl ?_
          refine sv_aload hΓ dX11_pick_100 0 rfl rfl ?_
          refine sv_callI hΓ (fun l => ct_X0_init l np17 7 w ((-2)) (nI a) (nI b) (nI d) sz18 (by omega) (va_up_self _ _ _) hNW) wv_X11_87 tb_280 rfl rfl rfl (by decide) (Nat.le_of_ble_eq_true rfl) (Nat.le_of_ble_eq_true rfl) (Nat.le_of_ble_eq_true rfl) dX11_pick_102 rfl (fun r M' nx' p19 => ?_)
          obtain ⟨rfl, rfl, rfl⟩ := p19
          show SV E Γ 6 (mm ci cl cr (va_up (va_up dyz18 np17 (some (.inr (0, [.int 0, .int 0, .int 0, .int 0, .int 0, .int 0, .null])))) np17 (some (.inr (0, [.int 7, .int w, .int (((-2))), .int ((nI a)), .int ((nI b)), .int ((nI d)), .ref sz18]))))) (np17 + 1) 3 11 105 [(5, .ref sz18), (0, .ref 1), (1, .int (nI a)), (2, .int (nI b)), (3, .int (nI d)), (4, .int w)] [.ref np17, .ref 1]
          refine sv_callV hΓ (fun l => ct_X11_append l n np17 _ hn hn6 (by omega) (va_up_self _ _ _)) wv_X11_90 vs_X11_append rfl m_1 rfl rfl (by decide) (Nat.le_of_ble_eq_true rfl) (Nat.le_of_ble_eq_true rfl) (Nat.le_of_ble_eq_true rfl) dX11_pick_105 rfl (fun r M' nx' p20 => ?_)
          rcases p20 with ⟨hlt, rfl, rfl, rfl⟩ | ⟨hlt, rfl, rfl, rfl⟩
          · show SV E Γ 6 (mm ci cl cr (va_up (va_up dyz18 np17 (some (.inr (0, [.int 0, .int 0, .int 0, .int 0, .int 0, .int 0, .null])))) np17 (some (.inr (0, [.int 7, .int w, .int (((-2))), .int ((nI a)), .int ((nI b)), .int ((nI d)), .ref sz18]))))) (np17 + 1) 3 11 108 [(5, .ref sz18), (0, .ref 1), (1, .int (nI a)), (2, .int (nI b)), (3, .int (nI d)), (4, .int w)] [.int ((-2))]
            exact sv_iret hΓ hQ dX11_pick_108 (Nat.le_of_ble_eq_true rfl) (Nat.le_of_ble_eq_true rfl) (Or.inr ⟨hwi, a, b, d, ha6, hb6, hd6, rfl, rfl, rfl, ⟨np17, sz18, _, ((((EX.rf hD).tr hEz16).tr hEz18).tr (EX.new (((EX.rf hD).tr hEz16).tr hEz18).2.2)).set (by omega) (by omega), ⟨by omega, hSz18.1, va_up_self _ _ _, (va_up_ne _ _ (by omega)).trans ((va_up_ne _ _ (by omega)).trans (hSz18.2))⟩, Or.inl ⟨hlt, rfl, rfl⟩⟩⟩)
          · show SV E Γ 6 (mm (up2 (up2 (up2 ci 1 7 0) 1 8 0) 2 1 (nI (n + 1))) cl (up2 cr 3 n (some np17)) (va_up (va_up dyz18 np17 (some (.inr (0, [.int 0, .int 0, .int 0, .int 0, .int 0, .int 0, .null])))) np17 (some (.inr (0, [.int 7, .int w, .int (((-2))), .int ((nI a)), .int ((nI b)), .int ((nI d)), .ref sz18]))))) (np17 + 1) 3 11 108 [(5, .ref sz18), (0, .ref 1), (1, .int (nI a)), (2, .int (nI b)), (3, .int (nI d)), (4, .int w)] [.int (nI n)]
            exact sv_iret hΓ hQ dX11_pick_108 (Nat.le_of_ble_eq_true rfl) (Nat.le_of_ble_eq_true rfl) (Or.inr ⟨hwi, a, b, d, ha6, hb6, hd6, rfl, rfl, rfl, ⟨np17, sz18, _, ((((EX.rf hD).tr hEz16).tr hEz18).tr (EX.new (((EX.rf hD).tr hEz16).tr hEz18).2.2)).set (by omega) (by omega), ⟨by omega, hSz18.1, va_up_self _ _ _, (va_up_ne _ _ (by omega)).trans ((va_up_ne _ _ (by omega)).trans (hSz18.2))⟩, Or.inr ⟨hlt, rfl, rfl⟩⟩⟩)
        · replace u8 := bI_0.mp u8
          refine sv_iconst (v := (-1)) hΓ dX11_pick_41 (by decide) rfl ?_
          exact sv_iret hΓ hQ dX11_pick_42 (Nat.le_of_ble_eq_true rfl) (Nat.le_of_ble_eq_true rfl) (Or.inl ⟨(fun q => u8 q.2.2.2), rfl, rfl, rfl⟩)
set_option maxRecDepth 100000 in
set_option maxHeartbeats 1000000 in
/-- touch -/
theorem ct_X11_touch {E : aG} (l : Launch) (c : aI) (nu : Nat → Int64) (x : Int32) (y : Int32) (w : Int32) (n : Nat) {ci : Nat → Nat → Int32} {cl : Nat → Nat → Int64} {cr : Nat → Nat → Option Nat} {dy : aM} {nx : Nat} (hB : BK c nu ci cr dy n) (hNW : NW E) (h74 : 74 ≤ nx) (hD : DN dy nx) : CT E l yX11_touch cX11_touch 6 (some .int) 4 [.ref 1, .int x, .int y, .int w] (mm ci cl cr dy) nx 2 9 (fun r M' nx' => (¬ (AI n x ∧ (y = -1 ∨ AI n y) ∧ II 1 32 w) ∧ r = some (.int (-1)) ∧ M' = mm ci cl cr dy ∧ nx = nx') ∨ (y = -1 ∧ II 1 32 w ∧ ∃ a, a < n ∧ x = nI a ∧ ∃ k s dy', EX dy nx dy' nx' ∧ ACT dy' k s (8) (w) (-2) (nI a) (-2) (-2) (-pw w) (pw w - 1) ∧ ((n = 16 ∧ r = some (.int (-2)) ∧ M' = mm ci cl cr dy') ∨ (n < 16 ∧ r = some (.int (nI n)) ∧ M' = mm (up2 (up2 (up2 ci 1 7 0) 1 8 0) 2 1 (nI (n + 1))) cl (up2 cr 3 n (some k)) dy'))) ∨ (¬ y = -1 ∧ II 1 32 w ∧ ∃ a b, a < n ∧ b < n ∧ x = nI a ∧ y = nI b ∧ ∃ k s dy', EX dy nx dy' nx' ∧ ACT dy' k s (9) (w) (-2) (nI a) (nI b) (-2) (ftLo (SL c nu b) (SH c nu b) w) (ftHi (SL c nu b) (SH c nu b) w) ∧ ((n = 16 ∧ r = some (.int (-2)) ∧ M' = mm ci cl cr dy') ∨ (n < 16 ∧ r = some (.int (nI n)) ∧ M' = mm (up2 (up2 (up2 ci 1 7 0) 1 8 0) 2 1 (nI (n + 1))) cl (up2 cr 3 n (some k)) dy')))) := by
  refine CT_intro (by decide) (Nat.le_of_ble_eq_true rfl) (fun Γ hΓ hQ => ?_)
  replace hΓ : CK E RX11 cX11_touch 6 (some .int) "touch" 4 2 9 Γ := hΓ
  have hB0 := hB
  obtain ⟨hAC, hST, hn6, hn, hwf, hwp, hln⟩ := hB
  show SV E Γ 6 (mm ci cl cr dy) nx 0 0 0 [(0, .ref 1), (1, .int x), (2, .int y), (3, .int w)] []
  refine sv_iload_n hΓ dX11_touch_0 rfl 2 rfl rfl ?_
  refine sv_iconst (v := (-1)) hΓ dX11_touch_1 (by decide) rfl ?_
  refine sv_icmp_ne (tgt := 9) hΓ dX11_touch_2 (by decide) rfl (fun u1 => ?_) (fun u1 => ?_)
  · refine sv_iconst (v := 0) hΓ dX11_touch_9 (by decide) rfl ?_
    refine sv_istore (lv' := [(4, .int 0), (0, .ref 1), (1, .int x), (2, .int y), (3, .int w)]) hΓ dX11_touch_10 (by decide) rfl rfl ?_
    refine sv_aload_n hΓ dX11_touch_12 rfl 1 rfl rfl ?_
    refine g_X11_10_1 hΓ dX11_touch_13 rfl ?_
    refine sv_iload_n hΓ dX11_touch_16 rfl 2 rfl rfl ?_
    refine sv_callV hΓ (fun l => ct_X1_has l x n hn hn6) wv_X11_97 vs_X1_has rfl m_2 rfl rfl (by decide) (Nat.le_of_ble_eq_true rfl) (Nat.le_of_ble_eq_true rfl) (Nat.le_of_ble_eq_true rfl) dX11_touch_17 rfl (fun r M' nx' p2 => ?_)
    obtain ⟨rfl, rfl, rfl⟩ := p2
    show SV E Γ 6 (mm ci cl cr dy) nx 0 0 20 [(4, .int 0), (0, .ref 1), (1, .int x), (2, .int y), (3, .int w)] [.int (bI (AI n x))]
    refine sv_if_eq (tgt := 46) hΓ dX11_touch_20 (by decide) rfl (fun u3 => ?_) (fun u3 => ?_)
    · replace u3 := bI_0.mp u3
      refine sv_iconst (v := (-1)) hΓ dX11_touch_46 (by decide) rfl ?_
      exact sv_iret hΓ hQ dX11_touch_47 (Nat.le_of_ble_eq_true rfl) (Nat.le_of_ble_eq_true rfl) (Or.inl ⟨fun q => u3 q.1, rfl, rfl, rfl⟩)
    · replace u3 := bI_ne.mp u3
      refine sv_iload hΓ dX11_touch_23 0 rfl rfl ?_
      refine sv_if_ne (tgt := 39) hΓ dX11_touch_25 (by decide) rfl (fun u4 => absurd u4 (by decide)) (fun u4 => ?_)
      refine sv_aload_n hΓ dX11_touch_28 rfl 1 rfl rfl ?_
      refine g_X11_10_1 hΓ dX11_touch_29 rfl ?_
      refine sv_iload_n hΓ dX11_touch_32 rfl 3 rfl rfl ?_
      refine sv_callV hΓ (fun l => ct_X1_has l y n hn hn6) wv_X11_97 vs_X1_has rfl m_2 rfl rfl (by decide) (Nat.le_of_ble_eq_true rfl) (Nat.le_of_ble_eq_true rfl) (Nat.le_of_ble_eq_true rfl) dX11_touch_33 rfl (fun r M' nx' p5 => ?_)
      obtain ⟨rfl, rfl, rfl⟩ := p5
      show SV E Γ 6 (mm ci cl cr dy) nx 0 0 36 [(4, .int 0), (0, .ref 1), (1, .int x), (2, .int y), (3, .int w)] [.int (bI (AI n y))]
      refine sv_if_eq (tgt := 46) hΓ dX11_touch_36 (by decide) rfl (fun u6 => ?_) (fun u6 => ?_)
      · replace u6 := bI_0.mp u6
        refine sv_iconst (v := (-1)) hΓ dX11_touch_46 (by decide) rfl ?_
        exact sv_iret hΓ hQ dX11_touch_47 (Nat.le_of_ble_eq_true rfl) (Nat.le_of_ble_eq_true rfl) (Or.inl ⟨fun q => q.2.1.elim u1 u6, rfl, rfl, rfl⟩)
      · replace u6 := bI_ne.mp u6
        refine sv_iload_n hΓ dX11_touch_39 rfl 4 rfl rfl ?_
        refine sv_callS hΓ (fun l => ct_X11_isWidth l w ) wv_X11_72 tb_253 rfl rfl (by decide) (Nat.le_of_ble_eq_true rfl) (Nat.le_of_ble_eq_true rfl) (Nat.le_of_ble_eq_true rfl) dX11_touch_40 rfl (fun r M' nx' p7 => ?_)
        obtain ⟨rfl, rfl, rfl⟩ := p7
        show SV E Γ 6 (mm ci cl cr dy) nx 0 0 43 [(4, .int 0), (0, .ref 1), (1, .int x), (2, .int y), (3, .int w)] [.int (bI (II 1 32 w))]
        refine sv_if_ne (tgt := 48) hΓ dX11_touch_43 (by decide) rfl (fun u8 => ?_) (fun u8 => ?_)
        · replace u8 := bI_ne.mp u8
          refine sv_iload hΓ dX11_touch_48 0 rfl rfl ?_
          refine sv_if_eq (tgt := 79) hΓ dX11_touch_50 (by decide) rfl (fun u9 => ?_) (fun u9 => absurd (by decide) u9)
          have hym : ¬ y = -1 := u1
          have hwi : II 1 32 w := u8
          obtain ⟨a, ha6, ea⟩ := AI.k u3
          subst ea
          obtain ⟨b, hb6, eb⟩ := AI.k u6
          subst eb
          refine sv_aload_n hΓ dX11_touch_79 rfl 1 rfl rfl ?_
          refine g_X11_10_1 hΓ dX11_touch_80 rfl ?_
          refine sv_iload_n hΓ dX11_touch_83 rfl 3 rfl rfl ?_
          obtain ⟨kg10, sg10, hrg10, hAg10⟩ := hAC b (by omega)
          refine sv_callV hΓ (fun l => ct_X1_get l b kg10 (by omega) hrg10) wv_X11_104 vs_X1_get rfl m_2 rfl rfl (by decide) (Nat.le_of_ble_eq_true rfl) (Nat.le_of_ble_eq_true rfl) (Nat.le_of_ble_eq_true rfl) dX11_touch_84 rfl (fun r M' nx' p11 => ?_)
          obtain ⟨rfl, rfl, rfl⟩ := p11
          show SV E Γ 6 (mm ci cl cr dy) nx 0 0 87 [(4, .int 0), (0, .ref 1), (1, .int (nI a)), (2, .int (nI b)), (3, .int w)] [.ref kg10]
          refine gt_X11_108 hΓ hAg10.m rfl dX11_touch_87 rfl ?_
          refine sv_iload_n hΓ dX11_touch_90 rfl 4 rfl rfl ?_
          refine sv_callV hΓ (fun l => ct_X8_fitted l sg10 (SL c nu b) (SH c nu b) w hAg10.sp (by omega) (EX.rf hD).2.2) wv_X11_112 vs_X8_fitted rfl hAg10.sp.m rfl rfl (by decide) (Nat.le_of_ble_eq_true rfl) (Nat.le_of_ble_eq_true rfl) (Nat.le_of_ble_eq_true rfl) dX11_touch_91 rfl (fun r M' np12 p12 => ?_)
          obtain ⟨sz13, dyz13, rfl, rfl, hSz13, hEz13⟩ := p12
          have h74z13 : 74 ≤ np12 := by have := hEz13.1; omega
          have hLz13 := hEz13.1
          have hQz13 := hEz13.2.2.lt hSz13.2
          show SV E Γ 6 (mm ci cl cr dyz13) np12 1 2 94 [(4, .int 0), (0, .ref 1), (1, .int (nI a)), (2, .int (nI b)), (3, .int w)] [.ref sz13]
          have ltsg10 := hD.lt hAg10.2.2.2
          refine sv_astore (lv' := [(5, .ref sz13), (4, .int 0), (0, .ref 1), (1, .int (nI a)), (2, .int (nI b)), (3, .int w)]) hΓ dX11_touch_94 (by decide) rfl rfl ?_
          refine sv_aload_n hΓ dX11_touch_96 rfl 2 rfl rfl ?_
          refine nw_X11_80 hΓ dX11_touch_97 (Nat.le_of_ble_eq_true rfl) (Nat.le_of_ble_eq_true rfl) rfl ?_
          rw [mm_dy (by omega)]
          show SV E Γ 6 (mm ci cl cr (va_up dyz13 np12 (some (.inr (0, [.int 0, .int 0, .int 0, .int 0, .int 0, .int 0, .null]))))) (np12 + 1) 2 9 100 [(5, .ref sz13), (4, .int 0), (0, .ref 1), (1, .int (nI a)), (2, .int (nI b)), (3, .int w)] [.ref np12, .ref 1]
          refine sv_dup hΓ dX11_touch_100 rfl rfl ?_
          refine sv_bipush (v := 9) hΓ dX11_touch_101 (by decide) rfl ?_
          refine sv_iload_n hΓ dX11_touch_103 rfl 5 rfl rfl ?_
          refine sv_bipush (v := (-2)) hΓ dX11_touch_104 (by decide) rfl ?_
          refine sv_iload_n hΓ dX11_touch_106 rfl 3 rfl rfl ?_
          refine sv_iload_n hΓ dX11_touch_107 rfl 4 rfl rfl ?_
          refine sv_bipush (v := (-2)) hΓ dX11_touch_108 (by decide) rfl ?_
          refine sv_aload hΓ dX11_touch_110 0 rfl rfl ?_
          refine sv_callI hΓ (fun l => ct_X0_init l np12 9 w ((-2)) (nI a) (nI b) ((-2)) sz13 (by omega) (va_up_self _ _ _) hNW) wv_X11_87 tb_280 rfl rfl rfl (by decide) (Nat.le_of_ble_eq_true rfl) (Nat.le_of_ble_eq_true rfl) (Nat.le_of_ble_eq_true rfl) dX11_touch_112 rfl (fun r M' nx' p14 => ?_)
          obtain ⟨rfl, rfl, rfl⟩ := p14
          show SV E Γ 6 (mm ci cl cr (va_up (va_up dyz13 np12 (some (.inr (0, [.int 0, .int 0, .int 0, .int 0, .int 0, .int 0, .null])))) np12 (some (.inr (0, [.int 9, .int w, .int (((-2))), .int ((nI a)), .int ((nI b)), .int (((-2))), .ref sz13]))))) (np12 + 1) 2 9 115 [(5, .ref sz13), (4, .int 0), (0, .ref 1), (1, .int (nI a)), (2, .int (nI b)), (3, .int w)] [.ref np12, .ref 1]
          refine sv_callV hΓ (fun l => ct_X11_append l n np12 _ hn hn6 (by omega) (va_up_self _ _ _)) wv_X11_90 vs_X11_append rfl m_1 rfl rfl (by decide) (Nat.le_of_ble_eq_true rfl) (Nat.le_of_ble_eq_true rfl) (Nat.le_of_ble_eq_true rfl) dX11_touch_115 rfl (fun r M' nx' p15 => ?_)
          rcases p15 with ⟨hlt, rfl, rfl, rfl⟩ | ⟨hlt, rfl, rfl, rfl⟩
          · show SV E Γ 6 (mm ci cl cr (va_up (va_up dyz13 np12 (some (.inr (0, [.int 0, .int 0, .int 0, .int 0, .int 0, .int 0, .null])))) np12 (some (.inr (0, [.int 9, .int w, .int (((-2))), .int ((nI a)), .int ((nI b)), .int (((-2))), .ref sz13]))))) (np12 + 1) 2 9 118 [(5, .ref sz13), (4, .int 0), (0, .ref 1), (1, .int (nI a)), (2, .int (nI b)), (3, .int w)] [.int ((-2))]
            exact sv_iret hΓ hQ dX11_touch_118 (Nat.le_of_ble_eq_true rfl) (Nat.le_of_ble_eq_true rfl) (Or.inr (Or.inr ⟨hym, hwi, a, b, ha6, hb6, rfl, rfl, ⟨np12, sz13, _, (((EX.rf hD).tr hEz13).tr (EX.new ((EX.rf hD).tr hEz13).2.2)).set (by omega) (by omega), ⟨by omega, hSz13.1, va_up_self _ _ _, (va_up_ne _ _ (by omega)).trans ((va_up_ne _ _ (by omega)).trans (hSz13.2))⟩, Or.inl ⟨hlt, rfl, rfl⟩⟩⟩))
          · show SV E Γ 6 (mm (up2 (up2 (up2 ci 1 7 0) 1 8 0) 2 1 (nI (n + 1))) cl (up2 cr 3 n (some np12)) (va_up (va_up dyz13 np12 (some (.inr (0, [.int 0, .int 0, .int 0, .int 0, .int 0, .int 0, .null])))) np12 (some (.inr (0, [.int 9, .int w, .int (((-2))), .int ((nI a)), .int ((nI b)), .int (((-2))), .ref sz13]))))) (np12 + 1) 2 9 118 [(5, .ref sz13), (4, .int 0), (0, .ref 1), (1, .int (nI a)), (2, .int (nI b)), (3, .int w)] [.int (nI n)]
            exact sv_iret hΓ hQ dX11_touch_118 (Nat.le_of_ble_eq_true rfl) (Nat.le_of_ble_eq_true rfl) (Or.inr (Or.inr ⟨hym, hwi, a, b, ha6, hb6, rfl, rfl, ⟨np12, sz13, _, (((EX.rf hD).tr hEz13).tr (EX.new ((EX.rf hD).tr hEz13).2.2)).set (by omega) (by omega), ⟨by omega, hSz13.1, va_up_self _ _ _, (va_up_ne _ _ (by omega)).trans ((va_up_ne _ _ (by omega)).trans (hSz13.2))⟩, Or.inr ⟨hlt, rfl, rfl⟩⟩⟩))
        · replace u8 := bI_0.mp u8
          refine sv_iconst (v := (-1)) hΓ dX11_touch_46 (by decide) rfl ?_
          exact sv_iret hΓ hQ dX11_touch_47 (Nat.le_of_ble_eq_true rfl) (Nat.le_of_ble_eq_true rfl) (Or.inl ⟨fun q => u8 q.2.2, rfl, rfl, rfl⟩)
  · refine sv_iconst (v := 1) hΓ dX11_touch_5 (by decide) rfl ?_
    refine sv_goto (pc' := 10) hΓ dX11_touch_6 (by decide) ?_
    refine sv_istore (lv' := [(4, .int 1), (0, .ref 1), (1, .int x), (2, .int y), (3, .int w)]) hΓ dX11_touch_10 (by decide) rfl rfl ?_
    refine sv_aload_n hΓ dX11_touch_12 rfl 1 rfl rfl ?_
    refine g_X11_10_1 hΓ dX11_touch_13 rfl ?_
    refine sv_iload_n hΓ dX11_touch_16 rfl 2 rfl rfl ?_
    refine sv_callV hΓ (fun l => ct_X1_has l x n hn hn6) wv_X11_97 vs_X1_has rfl m_2 rfl rfl (by decide) (Nat.le_of_ble_eq_true rfl) (Nat.le_of_ble_eq_true rfl) (Nat.le_of_ble_eq_true rfl) dX11_touch_17 rfl (fun r M' nx' p16 => ?_)
    obtain ⟨rfl, rfl, rfl⟩ := p16
    show SV E Γ 6 (mm ci cl cr dy) nx 0 0 20 [(4, .int 1), (0, .ref 1), (1, .int x), (2, .int y), (3, .int w)] [.int (bI (AI n x))]
    refine sv_if_eq (tgt := 46) hΓ dX11_touch_20 (by decide) rfl (fun u17 => ?_) (fun u17 => ?_)
    · replace u17 := bI_0.mp u17
      refine sv_iconst (v := (-1)) hΓ dX11_touch_46 (by decide) rfl ?_
      exact sv_iret hΓ hQ dX11_touch_47 (Nat.le_of_ble_eq_true rfl) (Nat.le_of_ble_eq_true rfl) (Or.inl ⟨fun q => u17 q.1, rfl, rfl, rfl⟩)
    · replace u17 := bI_ne.mp u17
      refine sv_iload hΓ dX11_touch_23 0 rfl rfl ?_
      refine sv_if_ne (tgt := 39) hΓ dX11_touch_25 (by decide) rfl (fun u18 => ?_) (fun u18 => absurd u18 (by decide))
      refine sv_iload_n hΓ dX11_touch_39 rfl 4 rfl rfl ?_
      refine sv_callS hΓ (fun l => ct_X11_isWidth l w ) wv_X11_72 tb_253 rfl rfl (by decide) (Nat.le_of_ble_eq_true rfl) (Nat.le_of_ble_eq_true rfl) (Nat.le_of_ble_eq_true rfl) dX11_touch_40 rfl (fun r M' nx' p19 => ?_)
      obtain ⟨rfl, rfl, rfl⟩ := p19
      show SV E Γ 6 (mm ci cl cr dy) nx 0 0 43 [(4, .int 1), (0, .ref 1), (1, .int x), (2, .int y), (3, .int w)] [.int (bI (II 1 32 w))]
      refine sv_if_ne (tgt := 48) hΓ dX11_touch_43 (by decide) rfl (fun u20 => ?_) (fun u20 => ?_)
      · replace u20 := bI_ne.mp u20
        refine sv_iload hΓ dX11_touch_48 0 rfl rfl ?_
        refine sv_if_eq (tgt := 79) hΓ dX11_touch_50 (by decide) rfl (fun u21 => absurd u21 (by decide)) (fun u21 => ?_)
        have hym : y = -1 := u1
        have hwi : II 1 32 w := u20
        subst hym
        obtain ⟨a, ha6, ea⟩ := AI.k u17
        subst ea
        refine sv_aload_n hΓ dX11_touch_53 rfl 1 rfl rfl ?_
        refine nw_X11_80 hΓ dX11_touch_54 (Nat.le_of_ble_eq_true rfl) (Nat.le_of_ble_eq_true rfl) rfl ?_
        rw [mm_dy (by omega)]
        show SV E Γ 6 (mm ci cl cr (va_up dy nx (some (.inr (0, [.int 0, .int 0, .int 0, .int 0, .int 0, .int 0, .null]))))) (nx + 1) 1 7 57 [(4, .int 1), (0, .ref 1), (1, .int (nI a)), (2, .int ((-1))), (3, .int w)] [.ref nx, .ref 1]
        refine sv_dup hΓ dX11_touch_57 rfl rfl ?_
        refine sv_bipush (v := 8) hΓ dX11_touch_58 (by decide) rfl ?_
        refine sv_iload_n hΓ dX11_touch_60 rfl 4 rfl rfl ?_
        refine sv_bipush (v := (-2)) hΓ dX11_touch_61 (by decide) rfl ?_
        refine sv_iload_n hΓ dX11_touch_63 rfl 2 rfl rfl ?_
        refine sv_bipush (v := (-2)) hΓ dX11_touch_64 (by decide) rfl ?_
        refine sv_bipush (v := (-2)) hΓ dX11_touch_66 (by decide) rfl ?_
        refine sv_iload_n hΓ dX11_touch_68 rfl 4 rfl rfl ?_
        refine sv_callS16 hΓ (fun l => ct_X8_wide l w (by omega) ((EX.rf hD).tr (EX.new (EX.rf hD).2.2)).2.2) wv_X11_100 tb_362 rfl rfl (by decide) (Nat.le_of_ble_eq_true rfl) (Nat.le_of_ble_eq_true rfl) (by decide) (Nat.le_of_ble_eq_true rfl) dX11_touch_69 rfl (fun r M' np22 p22 => ?_)
        obtain ⟨sz23, dyz23, rfl, rfl, hSz23, hEz23⟩ := p22
        have h74z23 : 74 ≤ np22 := by have := hEz23.1; omega
        have hLz23 := hEz23.1
        have hQz23 := hEz23.2.2.lt hSz23.2
        have hNz23_0 : sz23 ≠ nx := fun e => by have z := hSz23.2; rw [e, (hEz23.2.1 nx (by omega)).trans (va_up_self _ _ _)] at z; simp at z
        show SV E Γ 6 (mm ci cl cr dyz23) np22 2 9 72 [(4, .int 1), (0, .ref 1), (1, .int (nI a)), (2, .int ((-1))), (3, .int w)] [.ref sz23, .int ((-2)), .int ((-2)), .int (nI a), .int ((-2)), .int w, .int 8, .ref nx, .ref nx, .ref 1]
        refine sv_callI hΓ (fun l => ct_X0_init l nx 8 w ((-2)) (nI a) ((-2)) ((-2)) sz23 (by omega) ((hEz23.2.1 nx (by omega)).trans (va_up_self _ _ _)) hNW) wv_X11_87 tb_280 rfl rfl rfl (by decide) (Nat.le_of_ble_eq_true rfl) (Nat.le_of_ble_eq_true rfl) (Nat.le_of_ble_eq_true rfl) dX11_touch_72 rfl (fun r M' nx' p24 => ?_)
        obtain ⟨rfl, rfl, rfl⟩ := p24
        show SV E Γ 6 (mm ci cl cr (va_up dyz23 nx (some (.inr (0, [.int 8, .int w, .int (((-2))), .int ((nI a)), .int (((-2))), .int (((-2))), .ref sz23]))))) np22 2 9 75 [(4, .int 1), (0, .ref 1), (1, .int (nI a)), (2, .int ((-1))), (3, .int w)] [.ref nx, .ref 1]
        refine sv_callV hΓ (fun l => ct_X11_append l n nx _ hn hn6 (by omega) (va_up_self _ _ _)) wv_X11_90 vs_X11_append rfl m_1 rfl rfl (by decide) (Nat.le_of_ble_eq_true rfl) (Nat.le_of_ble_eq_true rfl) (Nat.le_of_ble_eq_true rfl) dX11_touch_75 rfl (fun r M' nx' p25 => ?_)
        rcases p25 with ⟨hlt, rfl, rfl, rfl⟩ | ⟨hlt, rfl, rfl, rfl⟩
        · show SV E Γ 6 (mm ci cl cr (va_up dyz23 nx (some (.inr (0, [.int 8, .int w, .int (((-2))), .int ((nI a)), .int (((-2))), .int (((-2))), .ref sz23]))))) np22 2 9 78 [(4, .int 1), (0, .ref 1), (1, .int (nI a)), (2, .int ((-1))), (3, .int w)] [.int ((-2))]
          exact sv_iret hΓ hQ dX11_touch_78 (Nat.le_of_ble_eq_true rfl) (Nat.le_of_ble_eq_true rfl) (Or.inr (Or.inl ⟨rfl, hwi, a, ha6, rfl, ⟨nx, sz23, _, (((EX.rf hD).tr (EX.new (EX.rf hD).2.2)).tr hEz23).set (by omega) (by omega), ⟨by omega, hSz23.1, va_up_self _ _ _, (va_up_ne _ _ (by omega)).trans (hSz23.2)⟩, Or.inl ⟨hlt, rfl, rfl⟩⟩⟩))
        · show SV E Γ 6 (mm (up2 (up2 (up2 ci 1 7 0) 1 8 0) 2 1 (nI (n + 1))) cl (up2 cr 3 n (some nx)) (va_up dyz23 nx (some (.inr (0, [.int 8, .int w, .int (((-2))), .int ((nI a)), .int (((-2))), .int (((-2))), .ref sz23]))))) np22 2 9 78 [(4, .int 1), (0, .ref 1), (1, .int (nI a)), (2, .int ((-1))), (3, .int w)] [.int (nI n)]
          exact sv_iret hΓ hQ dX11_touch_78 (Nat.le_of_ble_eq_true rfl) (Nat.le_of_ble_eq_true rfl) (Or.inr (Or.inl ⟨rfl, hwi, a, ha6, rfl, ⟨nx, sz23, _, (((EX.rf hD).tr (EX.new (EX.rf hD).2.2)).tr hEz23).set (by omega) (by omega), ⟨by omega, hSz23.1, va_up_self _ _ _, (va_up_ne _ _ (by omega)).trans (hSz23.2)⟩, Or.inr ⟨hlt, rfl, rfl⟩⟩⟩))
      · replace u20 := bI_0.mp u20
        refine sv_iconst (v := (-1)) hΓ dX11_touch_46 (by decide) rfl ?_
        exact sv_iret hΓ hQ dX11_touch_47 (Nat.le_of_ble_eq_true rfl) (Nat.le_of_ble_eq_true rfl) (Or.inl ⟨fun q => u20 q.2.2, rfl, rfl, rfl⟩)
