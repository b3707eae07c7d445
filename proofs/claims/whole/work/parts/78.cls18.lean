/-! Act.fail, caughtFailure, toss -/
def nsb : ByteArray := ⟨#[0x2a, 0x2b, 0xb7, 0x00, 0x0d, 0xb1]⟩
theorem nsb_0 : decode nsb 0 = .ok (.aload_n 0, 1) := by decide +kernel
theorem nsb_1 : decode nsb 1 = .ok (.aload_n 1, 1) := by decide +kernel
theorem nsb_2 : decode nsb 2 = .ok (.invokespecial 13, 3) := by decide +kernel
theorem nsb_5 : decode nsb 5 = .ok (.return_, 1) := by decide +kernel
set_option maxRecDepth 100000 in
theorem at_ans : ∀ w ∈ vx_atX "GateMaker$Act" 54 "java/util/NoSuchElementException" 13 nsb nmz, w ∈ lw_tbl ∧ w.onTables = true := at_all _ [73, 881, 890, 894, 897, 899, 882, 883, 88, 89, 884, 889, 895, 915, 871, 916, 873, 917, 875, 885, 887, 877, 911, 912, 914, 877, 954, 955, 956, 905, 863, 905, 906, 907, 908, 865, 908, 909, 910, 911, 867, 953, 944, 945, 946, 893, 947, 948, 949, 950, 880, 879, 951] rfl rfl
set_option maxRecDepth 100000 in
theorem cast_ns : Cond.castable "java/util/NoSuchElementException" "java/util/NoSuchElementException" ∈ lw_tbl := List.mem_of_getElem? (i := 945) rfl
set_option maxRecDepth 100000 in
theorem tbw_792 : Cond.codeWith yX11_caughtFailure cX11_caughtFailure 2 (some .int) [(0, 6, 7, 201), (0, 6, 10, 299), (0, 6, 13, 375)] ∈ TB := TB_of (tk_4 (List.mem_of_getElem? (i := 72) rfl)) rfl
set_option maxRecDepth 100000 in
theorem tbw_902 : Cond.codeWith yL_span cL_span 5 (some .int) [(0, 9, 12, 13)] ∈ TB := TB_of (tk_4 (List.mem_of_getElem? (i := 182) rfl)) rfl
set_option maxRecDepth 100000 in
theorem tbw_912 : Cond.codeWith yL_out cL_out 5 (some .int) [(0, 9, 12, 13), (0, 9, 16, 19)] ∈ TB := TB_of (tk_4 (List.mem_of_getElem? (i := 192) rfl)) rfl
set_option maxRecDepth 100000 in
theorem tbw_925 : Cond.codeWith yL_row cL_row 4 (some .int) [(0, 8, 11, 13), (0, 8, 14, 19)] ∈ TB := TB_of (tk_4 (List.mem_of_getElem? (i := 205) rfl)) rfl
set_option maxRecDepth 100000 in
theorem tbw_933 : Cond.codeWith yL_element cL_element 5 (some .int) [(0, 9, 12, 13), (0, 9, 16, 19)] ∈ TB := TB_of (tk_4 (List.mem_of_getElem? (i := 213) rfl)) rfl
set_option maxRecDepth 100000 in
theorem ww_caught : wW RX11 358 yX11_caughtFailure cX11_caughtFailure 2 (some .int) [(0, 6, 7, 201), (0, 6, 10, 299), (0, 6, 13, 375)] 1 := ⟨⟨tb_790, tb_1, tbw_792, tb_791⟩, by decide +kernel, by decide⟩
set_option maxRecDepth 100000 in
theorem ww_span : wW RL 85 yL_span cL_span 5 (some .int) [(0, 9, 12, 13)] 4 := ⟨⟨tb_900, tb_0, tbw_902, tb_901⟩, by decide +kernel, by decide⟩
set_option maxRecDepth 100000 in
theorem ww_out : wW RL 132 yL_out cL_out 5 (some .int) [(0, 9, 12, 13), (0, 9, 16, 19)] 4 := ⟨⟨tb_910, tb_0, tbw_912, tb_911⟩, by decide +kernel, by decide⟩
set_option maxRecDepth 100000 in
theorem ww_row : wW RL 140 yL_row cL_row 4 (some .int) [(0, 8, 11, 13), (0, 8, 14, 19)] 3 := ⟨⟨tb_923, tb_0, tbw_925, tb_924⟩, by decide +kernel, by decide⟩
set_option maxRecDepth 100000 in
theorem ww_element : wW RL 156 yL_element cL_element 5 (some .int) [(0, 9, 12, 13), (0, 9, 16, 19)] 4 := ⟨⟨tb_931, tb_0, tbw_933, tb_932⟩, by decide +kernel, by decide⟩
theorem flF_4 (o : Int32) : flF o = 0 ∨ flF o = 1 ∨ flF o = 2 ∨ flF o = 3 := by
  unfold flF
  split
  · exact Or.inr (Or.inl rfl)
  · split
    · exact Or.inr (Or.inr (Or.inl rfl))
    · split
      · exact Or.inr (Or.inr (Or.inl rfl))
      · split
        · exact Or.inr (Or.inr (Or.inr rfl))
        · exact Or.inl rfl
theorem cx_X0_fail {E : aG} (l : Launch) (c : aI) (nu : Nat → Int64) (a k s : Nat) {ci : Nat → Nat → Int32} {cl : Nat → Nat → Int64} {cr : Nat → Nat → Option Nat} {dy : aM} {nx : Nat} (hA : AT c nu dy a k s) (hX : XW E) (htr : l.stackTraces = false) : CX E l yX0_fail cX0_fail 1 none 6 [.ref k] (mm ci cl cr dy) nx 1 6
    (fun r M' nx' => r = none ∧ flF (c 44 a) = 0 ∧ M' = mm ci cl cr dy ∧ nx = nx') (fun X M' nx' => ((X = "java/lang/IllegalArgumentException" ∧ flF (c 44 a) = 1) ∨ (X = "java/lang/IllegalStateException" ∧ flF (c 44 a) = 2) ∨ (X = "java/util/NoSuchElementException" ∧ flF (c 44 a) = 3)) ∧ M' = mm ci cl cr dy ∧ nx ≤ nx') := by
  refine CX_intro (by decide) (Nat.le_of_ble_eq_true rfl) (fun Γ hΓ hQ hTE hL => ?_)
  replace hΓ : CK E RX0 cX0_fail 1 none "fail" 6 1 6 Γ := hΓ
  show SV E Γ 1 (mm ci cl cr dy) nx 0 0 0 [(0, .ref k)] []
  refine sv_aload_n hΓ dX0_fail_0 rfl 0 rfl rfl ?_
  refine sv_callV hΓ (fun l => ct_X0_failure l c nu a k s hA) wv_X0_34 vs_X0_failure rfl hA.m rfl rfl (by decide) (Nat.le_of_ble_eq_true rfl) (Nat.le_of_ble_eq_true rfl) (Nat.le_of_ble_eq_true rfl) dX0_fail_1 rfl (fun r M' nx' p1 => ?_)
  obtain ⟨rfl, rfl, rfl⟩ := p1
  show SV E Γ 1 (mm ci cl cr dy) nx 0 0 4 [(0, .ref k)] [.int (flF (c 44 a))]
  rcases flF_4 (c 44 a) with h | h | h | h
  · rw [h]
    refine sv_tableOut (pc' := 62) hΓ dX0_fail_4 (by decide) (by decide) ?_
    exact sv_xr hΓ hQ (fun Γ hΓ hQ => sv_vret hΓ hQ dX0_fail_62 (Nat.le_of_ble_eq_true rfl) (Nat.le_of_ble_eq_true rfl) ⟨rfl, h, rfl, rfl⟩)
  · rw [h]
    refine sv_tableIn (off := 28) (pc' := 32) hΓ dX0_fail_4 (by decide) (by decide) rfl (by decide) ?_
    exact sv_throwS hΓ hQ hTE hX (by rw [hL]; exact htr) (cls := "java/lang/IllegalArgumentException") (text := "divided by 0") (names := nmz) (ik := 38) (is := 40) (ic := 42) (by decide) (by decide) tb_800 tb_17 str_900 at_aia dX0_fail_32 dX0_fail_35 dX0_fail_36 dX0_fail_38 dX0_fail_41 rfl (Nat.le_of_ble_eq_true rfl) (Nat.le_of_ble_eq_true rfl) (Nat.le_of_ble_eq_true rfl) (Nat.le_of_ble_eq_true rfl) (fun nx9 hnx => ⟨Or.inl ⟨rfl, h⟩, rfl, hnx⟩)
  · rw [h]
    refine sv_tableIn (off := 38) (pc' := 42) hΓ dX0_fail_4 (by decide) (by decide) rfl (by decide) ?_
    exact sv_throwS hΓ hQ hTE hX (by rw [hL]; exact htr) (cls := "java/lang/IllegalStateException") (text := "the ROW has no such place") (names := nmz) (ik := 45) (is := 47) (ic := 49) (by decide) (by decide) tb_868 tb_20 str_936 at_ais dX0_fail_42 dX0_fail_45 dX0_fail_46 dX0_fail_48 dX0_fail_51 rfl (Nat.le_of_ble_eq_true rfl) (Nat.le_of_ble_eq_true rfl) (Nat.le_of_ble_eq_true rfl) (Nat.le_of_ble_eq_true rfl) (fun nx9 hnx => ⟨Or.inr (Or.inl ⟨rfl, h⟩), rfl, hnx⟩)
  · rw [h]
    refine sv_tableIn (off := 48) (pc' := 52) hΓ dX0_fail_4 (by decide) (by decide) rfl (by decide) ?_
    exact sv_throwSX hΓ hQ hTE hX (by rw [hL]; exact htr) (cls := "java/util/NoSuchElementException") (text := "nothing is left for the PORT") (names := nmz) (ik := 50) (is := 52) (ic := 54) (ix := 13) (rx := nsb) nsb_0 nsb_1 nsb_2 nsb_5 (by decide) (by decide) tb_884 tb_22 str_952 at_ans dX0_fail_52 dX0_fail_55 dX0_fail_56 dX0_fail_58 dX0_fail_61 rfl (Nat.le_of_ble_eq_true rfl) (Nat.le_of_ble_eq_true rfl) (Nat.le_of_ble_eq_true rfl) (Nat.le_of_ble_eq_true rfl) (fun nx9 hnx => ⟨Or.inr (Or.inr ⟨rfl, h⟩), rfl, hnx⟩)
set_option maxRecDepth 100000 in
theorem cw_X11_caughtFailure {E : aG} (l : Launch) (c : aI) (nu : Nat → Int64) (a k s : Nat) {ci : Nat → Nat → Int32} {cl : Nat → Nat → Int64} {cr : Nat → Nat → Option Nat} {dy : aM} {nx : Nat} (hA : AT c nu dy a k s) (hX : XW E) (hXN : XN E) (htr : l.stackTraces = false) : CW E l yX11_caughtFailure cX11_caughtFailure 2 (some .int) [(0, 6, 7, 201), (0, 6, 10, 299), (0, 6, 13, 375)] 7 [.ref k] (mm ci cl cr dy) nx 1 6
    (fun r M' nx' => r = some (.int (if flF (c 44 a) = 0 then -15 else flF (c 44 a))) ∧ M' = mm ci cl cr dy ∧ nx ≤ nx') (fun _ _ _ => False) := by
  refine CW_intro (by decide) (Nat.le_of_ble_eq_true rfl) (fun Γ hΓ hQ hT hL => ?_)
  replace hΓ : CK E RX11 cX11_caughtFailure 2 (some .int) "caughtFailure" 7 1 6 Γ := hΓ
  show SV E Γ 2 (mm ci cl cr dy) nx 0 0 0 [(0, .ref k)] []
  refine sv_aload_n hΓ dX11_caughtFailure_0 rfl 0 rfl rfl ?_
  refine sv_callVX hΓ (cx_X0_fail _ c nu a k s hA hX (by rw [hL]; exact htr)) wv_X11_372 vs_X0_fail rfl hA.m rfl rfl (by decide) (Nat.le_of_ble_eq_true rfl) (Nat.le_of_ble_eq_true rfl) (Nat.le_of_ble_eq_true rfl) dX11_caughtFailure_1 rfl (fun r M' nx' hp => ?_) (fun X M' nx' hp => ?_)
  · obtain ⟨rfl, h, rfl, rfl⟩ := hp
    refine sv_bipush (v := -15) hΓ dX11_caughtFailure_4 (by decide) rfl ?_
    refine sv_xr hΓ hQ (fun Γ hΓ hQ => ?_)
    exact sv_iret hΓ hQ dX11_caughtFailure_6 (Nat.le_of_ble_eq_true rfl) (Nat.le_of_ble_eq_true rfl) ⟨by rw [h]; rfl, rfl, Nat.le_refl _⟩
  · obtain ⟨hp, rfl, hnx⟩ := hp
    rcases hp with ⟨rfl, h⟩ | ⟨rfl, h⟩ | ⟨rfl, h⟩
    · refine sv_catch hΓ hT (name := "java/lang/IllegalArgumentException") [] ⟨0, 6, 7, 201⟩ [⟨0, 6, 10, 299⟩, ⟨0, 6, 13, 375⟩] rfl (fun z h => nomatch h) (by decide) (by decide) tb_793 (fun U H h => (hX U H h).1 _ cast_ia rfl) (i := 1) (by decide) (Or.inr ⟨1, rfl, dX11_caughtFailure_7, rfl⟩) rfl ?_
      refine sv_iconst (v := 1) hΓ dX11_caughtFailure_8 (by decide) rfl ?_
      refine sv_xr hΓ hQ (fun Γ hΓ hQ => ?_)
      exact sv_iret hΓ hQ dX11_caughtFailure_9 (Nat.le_of_ble_eq_true rfl) (Nat.le_of_ble_eq_true rfl) ⟨by rw [h]; rfl, rfl, hnx⟩
    · refine sv_catch hΓ hT (name := "java/lang/IllegalStateException") [⟨0, 6, 7, 201⟩] ⟨0, 6, 10, 299⟩ [⟨0, 6, 13, 375⟩] rfl (fun z h => Or.inr (by cases List.mem_singleton.mp h; exact ⟨by decide, _, tb_793, fun U H h => (hXN U H h).1⟩)) (by decide) (by decide) tb_794 (fun U H h => (hX U H h).1 _ cast_is rfl) (i := 1) (by decide) (Or.inr ⟨1, rfl, dX11_caughtFailure_10, rfl⟩) rfl ?_
      refine sv_iconst (v := 2) hΓ dX11_caughtFailure_11 (by decide) rfl ?_
      refine sv_xr hΓ hQ (fun Γ hΓ hQ => ?_)
      exact sv_iret hΓ hQ dX11_caughtFailure_12 (Nat.le_of_ble_eq_true rfl) (Nat.le_of_ble_eq_true rfl) ⟨by rw [h]; rfl, rfl, hnx⟩
    · refine sv_catch hΓ hT (name := "java/util/NoSuchElementException") [⟨0, 6, 7, 201⟩, ⟨0, 6, 10, 299⟩] ⟨0, 6, 13, 375⟩ [] rfl (fun z h => Or.inr (by rcases List.mem_cons.mp h with h | h; (cases h; exact ⟨by decide, _, tb_793, fun U H h => (hXN U H h).2.1⟩); (cases List.mem_singleton.mp h; exact ⟨by decide, _, tb_794, fun U H h => (hXN U H h).2.2⟩))) (by decide) (by decide) tb_795 (fun U H h => (hX U H h).1 _ cast_ns rfl) (i := 1) (by decide) (Or.inr ⟨1, rfl, dX11_caughtFailure_13, rfl⟩) rfl ?_
      refine sv_iconst (v := 3) hΓ dX11_caughtFailure_14 (by decide) rfl ?_
      refine sv_xr hΓ hQ (fun Γ hΓ hQ => ?_)
      exact sv_iret hΓ hQ dX11_caughtFailure_15 (Nat.le_of_ble_eq_true rfl) (Nat.le_of_ble_eq_true rfl) ⟨by rw [h]; rfl, rfl, hnx⟩
set_option maxRecDepth 100000 in
theorem cx_X11_toss {E : aG} (l : Launch) (d : Int32) {ci : Nat → Nat → Int32} {cl : Nat → Nat → Int64} {cr : Nat → Nat → Option Nat} {dy : aM} {nx : Nat} (hSh : ∀ e, e < 8 → SHX cr dy e) (hNW : NW E) (hX : XW E) (hXN : XN E) (htr : l.stackTraces = false) : CX E l yX11_toss cX11_toss 4 (some .int) 8 [.ref 1, .int d] (mm ci cl cr dy) nx 1 6 (fun r M' nx' => (¬ AI 8 d ∧ r = some (.int (-1)) ∧ M' = mm (ci) (cl) cr dy ∧ nx ≤ nx') ∨ (∃ e, e < 8 ∧ d = nI e ∧ ((cr 42 e = none ∧ r = some (.int (-11)) ∧ M' = mm (ci) (cl) cr dy ∧ nx ≤ nx') ∨ (∃ k c nu a s, cr 42 e = some k ∧ AT c nu dy a k s ∧ r = some (.int (if flF (c 44 a) = 0 then -15 else flF (c 44 a))) ∧ M' = mm ci cl cr dy ∧ nx ≤ nx') ∨ (∃ k q w v f, cr 42 e = some k ∧ RW dy k q w v f ∧ v ≤ 60 ∧ r = some (.int (-12)) ∧ M' = mm ci cl cr dy ∧ nx ≤ nx')))) (fun _ _ _ => False) := by
  refine CX_intro (by decide) (Nat.le_of_ble_eq_true rfl) (fun Γ hΓ hQ hTE hL => ?_)
  replace hΓ : CK E RX11 cX11_toss 4 (some .int) "toss" 8 1 6 Γ := hΓ
  show SV E Γ 4 (mm ci cl cr dy) nx 0 0 0 [(0, .ref 1), (1, .int d)] []
  refine sv_iload_n hΓ dX11_toss_0 rfl 1 rfl rfl ?_
  refine sv_callS hΓ (fun l => ct_X11_isShelf l d ) wv_X11_317 tb_729 rfl rfl (by decide) (Nat.le_of_ble_eq_true rfl) (Nat.le_of_ble_eq_true rfl) (Nat.le_of_ble_eq_true rfl) dX11_toss_1 rfl (fun r M' nx' p1 => ?_)
  obtain ⟨rfl, rfl, rfl⟩ := p1
  show SV E Γ 4 (mm ci cl cr dy) nx 0 0 4 [(0, .ref 1), (1, .int d)] [.int (bI (AI 8 d))]
  refine sv_if_ne (tgt := 9) hΓ dX11_toss_4 (by decide) rfl (fun u2 => ?_) (fun u2 => ?_)
  · replace u2 := bI_ne.mp u2
    obtain ⟨e, he, ee⟩ := AI.k u2
    subst ee
    rcases (hSh e he) with hn1 | ⟨k1, c1, nu1, a1, s1, hc1, hA1⟩ | ⟨k1, q1, w1, v1, f1, hc1, hR1, hv1⟩
    · refine sv_aload_n hΓ dX11_toss_9 rfl 0 rfl rfl ?_
      refine g_X11_61_1 hΓ dX11_toss_10 rfl ?_
      refine sv_iload_n hΓ dX11_toss_13 rfl 1 rfl rfl ?_
      refine ar_42 hΓ (e) rfl (by omega) dX11_toss_14 (v := .null) (rf_none hn1) rfl ?_
      refine sv_astore_nN (lv' := [(3, .null), (0, .ref 1), (1, .int (nI e))]) hΓ dX11_toss_15 rfl (by decide) rfl rfl ?_
      refine sv_aload_nN hΓ dX11_toss_16 rfl 0 rfl rfl ?_
      refine sv_instN hΓ dX11_toss_17 rfl ?_
      refine sv_if_eq (tgt := 33) hΓ dX11_toss_20 (by decide) rfl (fun u3 => ?_) (fun u3 => absurd (by decide) u3)
      refine sv_aload_n hΓ dX11_toss_33 rfl 1 rfl rfl ?_
      refine g_X11_61_1 hΓ dX11_toss_34 rfl ?_
      refine sv_iload_n hΓ dX11_toss_37 rfl 2 rfl rfl ?_
      refine ar_42 hΓ (e) rfl (by omega) dX11_toss_38 (v := .null) (rf_none hn1) rfl ?_
      refine sv_ifnonnullN hΓ dX11_toss_39 rfl ?_
      refine sv_bipush (v := (-11)) hΓ dX11_toss_42 (by decide) rfl ?_
      refine sv_goto (pc' := 49) hΓ dX11_toss_44 (by decide) ?_
      exact sv_xr hΓ hQ (fun Γ hΓ hQ => sv_iret hΓ hQ dX11_toss_49 (Nat.le_of_ble_eq_true rfl) (Nat.le_of_ble_eq_true rfl) (Or.inr ⟨e, he, rfl, Or.inl ⟨hn1, rfl, rfl, Nat.le_refl _⟩⟩))
    · refine sv_aload_n hΓ dX11_toss_9 rfl 0 rfl rfl ?_
      refine g_X11_61_1 hΓ dX11_toss_10 rfl ?_
      refine sv_iload_n hΓ dX11_toss_13 rfl 1 rfl rfl ?_
      refine ar_42 hΓ (e) rfl (by omega) dX11_toss_14 (v := .ref k1) (rf_some hc1) rfl ?_
      refine sv_astore_n (lv' := [(3, .ref k1), (0, .ref 1), (1, .int (nI e))]) hΓ dX11_toss_15 rfl (by decide) rfl rfl ?_
      refine sv_aload_n hΓ dX11_toss_16 rfl 0 rfl rfl ?_
      refine sv_instY hΓ (ci := 0) rfl tb_261 hA1.m dX11_toss_17 rfl ?_
      refine sv_if_eq (tgt := 33) hΓ dX11_toss_20 (by decide) rfl (fun u4 => absurd u4 (by decide)) (fun u4 => ?_)
      refine sv_aload_n hΓ dX11_toss_23 rfl 0 rfl rfl ?_
      refine sv_castY hΓ (ci := 0) rfl tb_261 hA1.m dX11_toss_24 rfl ?_
      refine sv_astore_n (lv' := [(2, .ref k1), (3, .ref k1), (0, .ref 1), (1, .int (nI e))]) hΓ dX11_toss_27 rfl (by decide) rfl rfl ?_
      refine sv_aload_n hΓ dX11_toss_28 rfl 0 rfl rfl ?_
      refine sv_callSW hΓ (cw_X11_caughtFailure _ c1 nu1 a1 k1 s1 hA1 hX hXN (by rw [hL]; exact htr)) ww_caught rfl rfl (by decide) (Nat.le_of_ble_eq_true rfl) (Nat.le_of_ble_eq_true rfl) (Nat.le_of_ble_eq_true rfl) dX11_toss_29 rfl (fun r M' nx' p5 => ?_)
      obtain ⟨rfl, rfl, hnx⟩ := p5
      show SV E Γ 4 (mm ci cl cr dy) nx' 1 6 32 [(2, .ref k1), (3, .ref k1), (0, .ref 1), (1, .int (nI e))] [.int (if flF (c1 44 a1) = 0 then -15 else flF (c1 44 a1))]
      exact sv_xr hΓ hQ (fun Γ hΓ hQ => sv_iret hΓ hQ dX11_toss_32 (Nat.le_of_ble_eq_true rfl) (Nat.le_of_ble_eq_true rfl) (Or.inr ⟨e, he, rfl, Or.inr (Or.inl ⟨k1, c1, nu1, a1, s1, hc1, hA1, rfl, rfl, hnx⟩)⟩))
    · refine sv_aload_n hΓ dX11_toss_9 rfl 0 rfl rfl ?_
      refine g_X11_61_1 hΓ dX11_toss_10 rfl ?_
      refine sv_iload_n hΓ dX11_toss_13 rfl 1 rfl rfl ?_
      refine ar_42 hΓ (e) rfl (by omega) dX11_toss_14 (v := .ref k1) (rf_some hc1) rfl ?_
      refine sv_astore_n (lv' := [(3, .ref k1), (0, .ref 1), (1, .int (nI e))]) hΓ dX11_toss_15 rfl (by decide) rfl rfl ?_
      refine sv_aload_n hΓ dX11_toss_16 rfl 0 rfl rfl ?_
      refine sv_instNo hΓ (ci := 6) rfl tb_261 hNW.2.2.2.2.2.2.2.2.2.2.2.2 ((mm_hi hR1.1).trans (hR1.2.2.1)) dX11_toss_17 rfl ?_
      refine sv_if_eq (tgt := 33) hΓ dX11_toss_20 (by decide) rfl (fun u6 => ?_) (fun u6 => absurd (by decide) u6)
      refine sv_aload_n hΓ dX11_toss_33 rfl 1 rfl rfl ?_
      refine g_X11_61_1 hΓ dX11_toss_34 rfl ?_
      refine sv_iload_n hΓ dX11_toss_37 rfl 2 rfl rfl ?_
      refine ar_42 hΓ (e) rfl (by omega) dX11_toss_38 (v := .ref k1) (rf_some hc1) rfl ?_
      refine sv_ifnonnull (pc' := 47) hΓ dX11_toss_39 (by decide) ?_
      refine sv_bipush (v := (-12)) hΓ dX11_toss_47 (by decide) rfl ?_
      exact sv_xr hΓ hQ (fun Γ hΓ hQ => sv_iret hΓ hQ dX11_toss_49 (Nat.le_of_ble_eq_true rfl) (Nat.le_of_ble_eq_true rfl) (Or.inr ⟨e, he, rfl, Or.inr (Or.inr ⟨k1, q1, w1, v1, f1, hc1, hR1, hv1, rfl, rfl, Nat.le_refl _⟩)⟩))
  · replace u2 := bI_0.mp u2
    refine sv_iconst (v := (-1)) hΓ dX11_toss_7 (by decide) rfl ?_
    exact sv_xr hΓ hQ (fun Γ hΓ hQ => sv_iret hΓ hQ dX11_toss_8 (Nat.le_of_ble_eq_true rfl) (Nat.le_of_ble_eq_true rfl) (Or.inl ⟨u2, rfl, rfl, Nat.le_refl _⟩))
