def nmz : List String := ["java/lang/RuntimeException", "java/lang/Exception"]
theorem at_all (ws : List Cond) (ps : List Nat) (hp : ws = ps.filterMap (fun i => lw_tbl[i]?)) (h : ws.all (fun w => w.onTables) = true) : ∀ w ∈ ws, w ∈ lw_tbl ∧ w.onTables = true := by
  intro w hw
  have h1 := List.all_eq_true.mp h w hw
  rw [hp] at hw
  obtain ⟨i, -, hi⟩ := List.mem_filterMap.mp hw
  exact ⟨List.mem_of_getElem? hi, h1⟩
set_option maxRecDepth 100000 in
theorem at_gia : ∀ w ∈ vx_atS "GateMaker" 205 "java/lang/IllegalArgumentException" nmz, w ∈ lw_tbl ∧ w.onTables = true := at_all _ [73, 881, 890, 894, 897, 899, 882, 883, 88, 89, 884, 889, 895, 915, 871, 916, 873, 917, 875, 885, 887, 877, 911, 912, 914, 877, 902, 903, 904, 905, 863, 905, 906, 907, 908, 865, 908, 909, 910, 911, 867, 968, 860, 861, 868, 869, 870, 872, 874, 876, 880, 879, 878] rfl rfl
set_option maxRecDepth 100000 in
theorem at_gis : ∀ w ∈ vx_atS "GateMaker" 303 "java/lang/IllegalStateException" nmz, w ∈ lw_tbl ∧ w.onTables = true := at_all _ [73, 881, 890, 894, 897, 899, 882, 883, 88, 89, 884, 889, 895, 915, 871, 916, 873, 917, 875, 885, 887, 877, 911, 912, 914, 877, 938, 939, 940, 905, 863, 905, 906, 907, 908, 865, 908, 909, 910, 911, 867, 979, 928, 929, 930, 892, 931, 932, 933, 934, 880, 879, 935] rfl rfl
set_option maxRecDepth 100000 in
theorem at_aia : ∀ w ∈ vx_atS "GateMaker$Act" 42 "java/lang/IllegalArgumentException" nmz, w ∈ lw_tbl ∧ w.onTables = true := at_all _ [73, 881, 890, 894, 897, 899, 882, 883, 88, 89, 884, 889, 895, 915, 871, 916, 873, 917, 875, 885, 887, 877, 911, 912, 914, 877, 902, 903, 904, 905, 863, 905, 906, 907, 908, 865, 908, 909, 910, 911, 867, 901, 860, 861, 868, 869, 870, 872, 874, 876, 880, 879, 878] rfl rfl
set_option maxRecDepth 100000 in
theorem at_ais : ∀ w ∈ vx_atS "GateMaker$Act" 49 "java/lang/IllegalStateException" nmz, w ∈ lw_tbl ∧ w.onTables = true := at_all _ [73, 881, 890, 894, 897, 899, 882, 883, 88, 89, 884, 889, 895, 915, 871, 916, 873, 917, 875, 885, 887, 877, 911, 912, 914, 877, 938, 939, 940, 905, 863, 905, 906, 907, 908, 865, 908, 909, 910, 911, 867, 937, 928, 929, 930, 892, 931, 932, 933, 934, 880, 879, 935] rfl rfl
set_option maxRecDepth 100000 in
theorem str_900 : Cond.stringRef "GateMaker$Act" 40 "divided by 0" ∈ lw_tbl := List.mem_of_getElem? (i := 900) rfl
set_option maxRecDepth 100000 in
theorem str_936 : Cond.stringRef "GateMaker$Act" 47 "the ROW has no such place" ∈ lw_tbl := List.mem_of_getElem? (i := 936) rfl
set_option maxRecDepth 100000 in
theorem str_952 : Cond.stringRef "GateMaker$Act" 52 "nothing is left for the PORT" ∈ lw_tbl := List.mem_of_getElem? (i := 952) rfl
set_option maxRecDepth 100000 in
theorem str_967 : Cond.stringRef "GateMaker" 203 "no such ACT" ∈ lw_tbl := List.mem_of_getElem? (i := 967) rfl
set_option maxRecDepth 100000 in
theorem str_977 : Cond.stringRef "GateMaker" 297 "no such PORT, or a number below 0" ∈ lw_tbl := List.mem_of_getElem? (i := 977) rfl
set_option maxRecDepth 100000 in
theorem str_978 : Cond.stringRef "GateMaker" 301 "there was no run" ∈ lw_tbl := List.mem_of_getElem? (i := 978) rfl
set_option maxRecDepth 100000 in
theorem str_980 : Cond.stringRef "GateMaker" 304 "the PORT did not put out so many" ∈ lw_tbl := List.mem_of_getElem? (i := 980) rfl
set_option maxRecDepth 100000 in
theorem str_989 : Cond.stringRef "GateMaker" 309 "no such place" ∈ lw_tbl := List.mem_of_getElem? (i := 989) rfl
set_option maxRecDepth 100000 in
theorem str_997 : Cond.stringRef "GateMaker" 337 "no such SHELF" ∈ lw_tbl := List.mem_of_getElem? (i := 997) rfl
set_option maxRecDepth 100000 in
theorem str_998 : Cond.stringRef "GateMaker" 346 "nothing is held, it is no ROW, or has no such place" ∈ lw_tbl := List.mem_of_getElem? (i := 998) rfl
theorem ai_of {i : Int32} {f : Nat} (h0 : 0 ≤ i) (h1 : i < nI f) (hf : f < 2 ^ 31) : AI f i := by
  have e : (nI f).toInt = (f : Int) := nI_toInt hf
  rw [Int32.lt_iff_toInt_lt, e] at h1
  rw [Int32.le_iff_toInt_le] at h0
  exact ⟨h0, h1⟩
theorem rc_1 {v : Nat} {i : Int32} (hv : v ≤ 60) (h : RC v i 1) : ∃ j, j < v ∧ i = nI j := by
  obtain ⟨h0, -, h2⟩ := h
  rw [Int64.lt_iff_toInt_lt] at h2
  rw [Int32.lt_iff_toInt_lt] at h0
  have e0 : (0 : Int32).toInt = 0 := rfl
  rw [e0] at h0
  have l1 := Int32.toInt_lt i
  have e1 : (i.toInt64 + (1 : Int32).toInt64).toInt = i.toInt + 1 := by
    rw [Int64.toInt_add, Int32.toInt_toInt64]
    show (i.toInt + 1).bmod _ = _
    exact Int.bmod_eq_of_le (by omega) (by omega)
  have e2 : (nI v).toInt64.toInt = (v : Int) := by rw [Int32.toInt_toInt64]; exact nI_toInt (by omega)
  rw [e1, e2] at h2
  exact AI.k ⟨by omega, by omega⟩

set_option maxRecDepth 100000 in
set_option maxHeartbeats 1000000 in
/-- span -/
theorem cx_X11_span {E : aG} (l : Launch) (c : aI) (nu : Nat → Int64) (q : Int32) (z : Int32) (n : Nat) {ci : Nat → Nat → Int32} {cl : Nat → Nat → Int64} {cr : Nat → Nat → Option Nat} {dy : aM} {nx : Nat} (hB : BK c nu ci cr dy n) (hX : XW E) (htr : l.stackTraces = false) : CX E l yX11_span cX11_span 4 (some .long) 6 [.ref 1, .int q, .int z] (mm ci cl cr dy) nx 1 6 (fun r M' nx' => ∃ a, a < n ∧ q = nI a ∧ r = some (.long (if z = 0 then SL c nu a else SH c nu a)) ∧ M' = mm ci cl cr dy ∧ nx = nx') (fun X M' nx' => X = "java/lang/IllegalArgumentException" ∧ ¬ AI n q ∧ M' = mm ci cl cr dy ∧ nx ≤ nx') := by
  refine CX_intro (by decide) (Nat.le_of_ble_eq_true rfl) (fun Γ hΓ hQ hTE hL => ?_)
  replace hΓ : CK E RX11 cX11_span 4 (some .long) "span" 6 1 6 Γ := hΓ
  have hB0 := hB
  obtain ⟨hAC, hST, hn6, hn, hwf, hwp, hln⟩ := hB
  show SV E Γ 4 (mm ci cl cr dy) nx 0 0 0 [(0, .ref 1), (1, .int q), (2, .int z)] []
  refine sv_aload_n hΓ dX11_span_0 rfl 0 rfl rfl ?_
  refine g_X11_10_1 hΓ dX11_span_1 rfl ?_
  refine sv_iload_n hΓ dX11_span_4 rfl 1 rfl rfl ?_
  refine sv_callV hΓ (fun l => ct_X1_has l q n hn hn6) wv_X11_97 vs_X1_has rfl m_2 rfl rfl (by decide) (Nat.le_of_ble_eq_true rfl) (Nat.le_of_ble_eq_true rfl) (Nat.le_of_ble_eq_true rfl) dX11_span_5 rfl (fun r M' nx' p1 => ?_)
  obtain ⟨rfl, rfl, rfl⟩ := p1
  show SV E Γ 4 (mm ci cl cr dy) nx 0 0 8 [(0, .ref 1), (1, .int q), (2, .int z)] [.int (bI (AI n q))]
  refine sv_if_ne (tgt := 21) hΓ dX11_span_8 (by decide) rfl (fun u2 => ?_) (fun u2 => ?_)
  · replace u2 := bI_ne.mp u2
    obtain ⟨a, ha6, ea⟩ := AI.k u2
    subst ea
    refine sv_aload_n hΓ dX11_span_21 rfl 0 rfl rfl ?_
    refine g_X11_10_1 hΓ dX11_span_22 rfl ?_
    refine sv_iload_n hΓ dX11_span_25 rfl 1 rfl rfl ?_
    obtain ⟨kg3, sg3, hrg3, hAg3⟩ := hAC a (by omega)
    refine sv_callV hΓ (fun l => ct_X1_get l a kg3 (by omega) hrg3) wv_X11_104 vs_X1_get rfl m_2 rfl rfl (by decide) (Nat.le_of_ble_eq_true rfl) (Nat.le_of_ble_eq_true rfl) (Nat.le_of_ble_eq_true rfl) dX11_span_26 rfl (fun r M' nx' p4 => ?_)
    obtain ⟨rfl, rfl, rfl⟩ := p4
    show SV E Γ 4 (mm ci cl cr dy) nx 0 0 29 [(0, .ref 1), (1, .int (nI a)), (2, .int z)] [.ref kg3]
    refine gt_X11_108 hΓ hAg3.m rfl dX11_span_29 rfl ?_
    refine sv_astore_n (lv' := [(3, .ref sg3), (0, .ref 1), (1, .int (nI a)), (2, .int z)]) hΓ dX11_span_32 rfl (by decide) rfl rfl ?_
    refine sv_iload_n hΓ dX11_span_33 rfl 3 rfl rfl ?_
    refine sv_if_eq (tgt := 44) hΓ dX11_span_34 (by decide) rfl (fun u5 => ?_) (fun u5 => ?_)
    · refine sv_aload_n hΓ dX11_span_44 rfl 0 rfl rfl ?_
      refine gt_X11_212 hΓ hAg3.sp.m rfl dX11_span_45 rfl ?_
      refine sv_xr hΓ hQ (fun Γ hΓ hQ => ?_)
      exact sv_lret hΓ hQ dX11_span_48 (Nat.le_of_ble_eq_true rfl) (Nat.le_of_ble_eq_true rfl) ⟨a, ha6, rfl, by rw [if_pos u5], rfl, rfl⟩
    · refine sv_aload_n hΓ dX11_span_37 rfl 0 rfl rfl ?_
      refine gt_X11_208 hΓ hAg3.sp.m rfl dX11_span_38 rfl ?_
      refine sv_goto (pc' := 48) hΓ dX11_span_41 (by decide) ?_
      refine sv_xr hΓ hQ (fun Γ hΓ hQ => ?_)
      exact sv_lret hΓ hQ dX11_span_48 (Nat.le_of_ble_eq_true rfl) (Nat.le_of_ble_eq_true rfl) ⟨a, ha6, rfl, by rw [if_neg u5], rfl, rfl⟩
  · replace u2 := bI_0.mp u2
    exact sv_throwS hΓ hQ hTE hX (by rw [hL]; exact htr) (cls := "java/lang/IllegalArgumentException") (text := "no such ACT") (names := nmz) (ik := 201) (is := 203) (ic := 205) (by decide) (by decide) tb_793 tb_17 str_967 at_gia dX11_span_11 dX11_span_14 dX11_span_15 dX11_span_17 dX11_span_20 rfl (Nat.le_of_ble_eq_true rfl) (Nat.le_of_ble_eq_true rfl) (Nat.le_of_ble_eq_true rfl) (Nat.le_of_ble_eq_true rfl) (fun nx9 hnx => ⟨rfl, u2, rfl, hnx⟩)
set_option maxRecDepth 100000 in
set_option maxHeartbeats 1000000 in
/-- row -/
theorem cx_X11_row {E : aG} (l : Launch) (q : Int32) {ci : Nat → Nat → Int32} {cl : Nat → Nat → Int64} {cr : Nat → Nat → Option Nat} {dy : aM} {nx : Nat}  (hX : XW E) (htr : l.stackTraces = false) : CX E l yX11_row cX11_row 2 (some .long) 6 [.ref 1, .int q] (mm ci cl cr dy) nx 1 6 (fun r M' nx' => ∃ k, k ≤ 15 ∧ q = nI k ∧ ¬ ci 1 8 = 0 ∧ r = some (.long (cl 22 k)) ∧ M' = mm ci cl cr dy ∧ nx = nx') (fun X M' nx' => (X = "java/lang/IllegalArgumentException" ∧ ¬ II 0 15 q ∧ M' = mm ci cl cr dy ∧ nx ≤ nx') ∨ (X = "java/lang/IllegalStateException" ∧ II 0 15 q ∧ ci 1 8 = 0 ∧ M' = mm ci cl cr dy ∧ nx ≤ nx')) := by
  refine CX_intro (by decide) (Nat.le_of_ble_eq_true rfl) (fun Γ hΓ hQ hTE hL => ?_)
  replace hΓ : CK E RX11 cX11_row 2 (some .long) "row" 6 1 6 Γ := hΓ
  show SV E Γ 2 (mm ci cl cr dy) nx 0 0 0 [(0, .ref 1), (1, .int q)] []
  refine sv_iload_n hΓ dX11_row_0 rfl 1 rfl rfl ?_
  refine sv_i2l hΓ dX11_row_1 rfl rfl ?_
  refine sv_callS hΓ (fun l => ct_X11_isPlace l (Int32.toInt64 q) ) wv_X11_165 tb_460 rfl rfl (by decide) (Nat.le_of_ble_eq_true rfl) (Nat.le_of_ble_eq_true rfl) (Nat.le_of_ble_eq_true rfl) dX11_row_2 rfl (fun r M' nx' p1 => ?_)
  obtain ⟨rfl, rfl, rfl⟩ := p1
  show SV E Γ 2 (mm ci cl cr dy) nx 0 0 5 [(0, .ref 1), (1, .int q)] [.int (bI (¬ (Int32.toInt64 q) < 0 ∧ ¬ 15 < (Int32.toInt64 q)))]
  refine sv_if_ne (tgt := 19) hΓ dX11_row_5 (by decide) rfl (fun u2 => ?_) (fun u2 => ?_)
  · replace u2 := bI_ne.mp u2
    have hq := pl_ii.mp u2
    obtain ⟨k, hk0, hk15, ek⟩ := II.k hq
    subst ek
    refine sv_aload_n hΓ dX11_row_19 rfl 0 rfl rfl ?_
    refine g_X11_69_1 hΓ dX11_row_20 rfl ?_
    refine sv_if_ne (tgt := 37) hΓ dX11_row_23 (by decide) rfl (fun u3 => ?_) (fun u3 => ?_)
    · refine sv_aload_n hΓ dX11_row_37 rfl 0 rfl rfl ?_
      refine g_X11_55_1 hΓ dX11_row_38 rfl ?_
      refine g_X11_311_18 hΓ dX11_row_41 rfl ?_
      refine sv_iload_n hΓ dX11_row_44 rfl 1 rfl rfl ?_
      refine al_22 hΓ (k) rfl (by omega) dX11_row_45 rfl ?_
      refine sv_xr hΓ hQ (fun Γ hΓ hQ => ?_)
      exact sv_lret hΓ hQ dX11_row_46 (Nat.le_of_ble_eq_true rfl) (Nat.le_of_ble_eq_true rfl) ⟨k, hk15, rfl, u3, rfl, rfl, rfl⟩
    · exact sv_throwSW hΓ hQ hTE hX (by rw [hL]; exact htr) (cls := "java/lang/IllegalStateException") (text := "there was no run") (names := nmz) (ik := 299) (is := 301) (ic := 303) (by decide) (by decide) tb_794 tb_20 str_978 at_gis dX11_row_26 dX11_row_29 dX11_row_30 dX11_row_33 dX11_row_36 rfl (Nat.le_of_ble_eq_true rfl) (Nat.le_of_ble_eq_true rfl) (Nat.le_of_ble_eq_true rfl) (Nat.le_of_ble_eq_true rfl) (fun nx9 hnx => Or.inr ⟨rfl, hq, u3, rfl, hnx⟩)
  · replace u2 := bI_0.mp u2
    exact sv_throwSW hΓ hQ hTE hX (by rw [hL]; exact htr) (cls := "java/lang/IllegalArgumentException") (text := "no such place") (names := nmz) (ik := 201) (is := 309) (ic := 205) (by decide) (by decide) tb_793 tb_17 str_989 at_gia dX11_row_8 dX11_row_11 dX11_row_12 dX11_row_15 dX11_row_18 rfl (Nat.le_of_ble_eq_true rfl) (Nat.le_of_ble_eq_true rfl) (Nat.le_of_ble_eq_true rfl) (Nat.le_of_ble_eq_true rfl) (fun nx9 hnx => Or.inl ⟨rfl, fun z => u2 (pl_ii.mpr z), rfl, hnx⟩)
set_option maxRecDepth 100000 in
set_option maxHeartbeats 1000000 in
/-- out -/
theorem cx_X11_out {E : aG} (l : Launch) (q : Int32) (i : Int32) {ci : Nat → Nat → Int32} {cl : Nat → Nat → Int64} {cr : Nat → Nat → Option Nat} {dy : aM} {nx : Nat} (hT : TR cr) (hpu : ∀ k, k < 4 → ∃ f, f ≤ 16 ∧ ci (26 + 2 * (2 * k + 1)) 1 = nI f) (hX : XW E) (htr : l.stackTraces = false) : CX E l yX11_out cX11_out 4 (some .long) 6 [.ref 1, .int q, .int i] (mm ci cl cr dy) nx 1 6 (fun r M' nx' => ∃ k j f, k < 4 ∧ q = nI k ∧ i = nI j ∧ ¬ ci 1 8 = 0 ∧ f ≤ 16 ∧ ci (26 + 2 * (2 * k + 1)) 1 = nI f ∧ j < f ∧ r = some (.long (cl (27 + 2 * (2 * k + 1)) j)) ∧ M' = mm ci cl cr dy ∧ nx = nx') (fun X M' nx' => (X = "java/lang/IllegalArgumentException" ∧ ¬ (II 0 3 q ∧ 0 ≤ i) ∧ M' = mm ci cl cr dy ∧ nx ≤ nx') ∨ (X = "java/lang/IllegalStateException" ∧ II 0 3 q ∧ 0 ≤ i ∧ ci 1 8 = 0 ∧ M' = mm ci cl cr dy ∧ nx ≤ nx') ∨ (∃ k, k < 4 ∧ q = nI k ∧ X = "java/lang/IllegalArgumentException" ∧ 0 ≤ i ∧ ¬ ci 1 8 = 0 ∧ ¬ i < ci (26 + 2 * (2 * k + 1)) 1 ∧ M' = mm ci cl cr dy ∧ nx ≤ nx')) := by
  refine CX_intro (by decide) (Nat.le_of_ble_eq_true rfl) (fun Γ hΓ hQ hTE hL => ?_)
  replace hΓ : CK E RX11 cX11_out 4 (some .long) "out" 6 1 6 Γ := hΓ
  show SV E Γ 4 (mm ci cl cr dy) nx 0 0 0 [(0, .ref 1), (1, .int q), (2, .int i)] []
  refine sv_iload_n hΓ dX11_out_0 rfl 1 rfl rfl ?_
  refine sv_callS hΓ (fun l => ct_X11_isPort l q ) wv_X11_94 tb_355 rfl rfl (by decide) (Nat.le_of_ble_eq_true rfl) (Nat.le_of_ble_eq_true rfl) (Nat.le_of_ble_eq_true rfl) dX11_out_1 rfl (fun r M' nx' p1 => ?_)
  obtain ⟨rfl, rfl, rfl⟩ := p1
  show SV E Γ 4 (mm ci cl cr dy) nx 0 0 4 [(0, .ref 1), (1, .int q), (2, .int i)] [.int (bI (II 0 3 q))]
  refine sv_if_eq (tgt := 11) hΓ dX11_out_4 (by decide) rfl (fun u2 => ?_) (fun u2 => ?_)
  · replace u2 := bI_0.mp u2
    exact sv_throwSW hΓ hQ hTE hX (by rw [hL]; exact htr) (cls := "java/lang/IllegalArgumentException") (text := "no such PORT, or a number below 0") (names := nmz) (ik := 201) (is := 297) (ic := 205) (by decide) (by decide) tb_793 tb_17 str_977 at_gia dX11_out_11 dX11_out_14 dX11_out_15 dX11_out_18 dX11_out_21 rfl (Nat.le_of_ble_eq_true rfl) (Nat.le_of_ble_eq_true rfl) (Nat.le_of_ble_eq_true rfl) (Nat.le_of_ble_eq_true rfl) (fun nx9 hnx => Or.inl ⟨rfl, fun z => u2 z.1, rfl, hnx⟩)
  · replace u2 := bI_ne.mp u2
    refine sv_iload_n hΓ dX11_out_7 rfl 2 rfl rfl ?_
    refine sv_if_ge (tgt := 22) hΓ dX11_out_8 (by decide) rfl (fun u3 => ?_) (fun u3 => ?_)
    · have hq0 := u2
      have hi0 := u3
      obtain ⟨k, hk0, hk3, ek⟩ := II.k hq0
      subst ek
      obtain ⟨f, hf16, hf⟩ := hpu k (by omega)
      refine sv_aload_n hΓ dX11_out_22 rfl 0 rfl rfl ?_
      refine g_X11_69_1 hΓ dX11_out_23 rfl ?_
      refine sv_if_ne (tgt := 40) hΓ dX11_out_26 (by decide) rfl (fun u4 => ?_) (fun u4 => ?_)
      · have hr := u4
        refine sv_aload_n hΓ dX11_out_40 rfl 0 rfl rfl ?_
        refine g_X11_55_1 hΓ dX11_out_41 rfl ?_
        refine g_X11_291_18 hΓ dX11_out_44 rfl ?_
        refine sv_iload_n hΓ dX11_out_47 rfl 1 rfl rfl ?_
        refine ar_20 hΓ (k) rfl (by omega) dX11_out_48 (v := .ref (26 + 2 * (2 * k + 1))) (rf_some (hT k (by omega)).2) rfl ?_
        refine sv_astore_n (lv' := [(3, .ref (26 + 2 * (2 * k + 1))), (0, .ref 1), (1, .int (nI k)), (2, .int i)]) hΓ dX11_out_49 rfl (by decide) rfl rfl ?_
        refine sv_iload_n hΓ dX11_out_50 rfl 3 rfl rfl ?_
        refine sv_aload_n hΓ dX11_out_51 rfl 0 rfl rfl ?_
        refine sv_callV hΓ (fun l => ct_X10_size l (2 * k + 1) (by omega)) wv_X11_164 vs_X10_size rfl (m_tp (q := 2 * k + 1) (by omega)) rfl rfl (by decide) (Nat.le_of_ble_eq_true rfl) (Nat.le_of_ble_eq_true rfl) (Nat.le_of_ble_eq_true rfl) dX11_out_52 rfl (fun r M' nx' p5 => ?_)
        obtain ⟨rfl, rfl, rfl⟩ := p5
        show SV E Γ 4 (mm ci cl cr dy) nx 0 0 55 [(3, .ref (26 + 2 * (2 * k + 1))), (0, .ref 1), (1, .int (nI k)), (2, .int i)] [.int (ci (26 + 2 * (2 * k + 1)) 1), .int i]
        refine sv_icmp_lt (tgt := 69) hΓ dX11_out_55 (by decide) rfl (fun u6 => ?_) (fun u6 => ?_)
        · have hi1 := u6
          rw [hf] at hi1
          obtain ⟨j, hj, ej⟩ := AI.k (ai_of hi0 hi1 (by omega))
          subst ej
          have hj2 : j < tpn (2 * k + 1) := by rw [tpn_o]; omega
          refine sv_aload_n hΓ dX11_out_69 rfl 0 rfl rfl ?_
          refine sv_iload_n hΓ dX11_out_70 rfl 3 rfl rfl ?_
          refine sv_callV hΓ (fun l => ct_X10_get l (2 * k + 1) j (by omega) hj2) wv_X11_306 vs_X10_get rfl (m_tp (q := 2 * k + 1) (by omega)) rfl rfl (by decide) (Nat.le_of_ble_eq_true rfl) (Nat.le_of_ble_eq_true rfl) (Nat.le_of_ble_eq_true rfl) dX11_out_71 rfl (fun r M' nx' p7 => ?_)
          obtain ⟨rfl, rfl, rfl⟩ := p7
          show SV E Γ 4 (mm ci cl cr dy) nx 0 0 74 [(3, .ref (26 + 2 * (2 * k + 1))), (0, .ref 1), (1, .int (nI k)), (2, .int (nI j))] [.long (cl (27 + 2 * (2 * k + 1)) j)]
          refine sv_xr hΓ hQ (fun Γ hΓ hQ => ?_)
          exact sv_lret hΓ hQ dX11_out_74 (Nat.le_of_ble_eq_true rfl) (Nat.le_of_ble_eq_true rfl) ⟨k, j, f, by omega, rfl, rfl, hr, hf16, hf, hj, rfl, rfl, rfl⟩
        · exact sv_throwSW hΓ hQ hTE hX (by rw [hL]; exact htr) (cls := "java/lang/IllegalArgumentException") (text := "the PORT did not put out so many") (names := nmz) (ik := 201) (is := 304) (ic := 205) (by decide) (by decide) tb_793 tb_17 str_980 at_gia dX11_out_58 dX11_out_61 dX11_out_62 dX11_out_65 dX11_out_68 rfl (Nat.le_of_ble_eq_true rfl) (Nat.le_of_ble_eq_true rfl) (Nat.le_of_ble_eq_true rfl) (Nat.le_of_ble_eq_true rfl) (fun nx9 hnx => Or.inr (Or.inr ⟨k, by omega, rfl, rfl, hi0, hr, u6, rfl, hnx⟩))
      · exact sv_throwSW hΓ hQ hTE hX (by rw [hL]; exact htr) (cls := "java/lang/IllegalStateException") (text := "there was no run") (names := nmz) (ik := 299) (is := 301) (ic := 303) (by decide) (by decide) tb_794 tb_20 str_978 at_gis dX11_out_29 dX11_out_32 dX11_out_33 dX11_out_36 dX11_out_39 rfl (Nat.le_of_ble_eq_true rfl) (Nat.le_of_ble_eq_true rfl) (Nat.le_of_ble_eq_true rfl) (Nat.le_of_ble_eq_true rfl) (fun nx9 hnx => Or.inr (Or.inl ⟨rfl, hq0, hi0, u4, rfl, hnx⟩))
    · exact sv_throwSW hΓ hQ hTE hX (by rw [hL]; exact htr) (cls := "java/lang/IllegalArgumentException") (text := "no such PORT, or a number below 0") (names := nmz) (ik := 201) (is := 297) (ic := 205) (by decide) (by decide) tb_793 tb_17 str_977 at_gia dX11_out_11 dX11_out_14 dX11_out_15 dX11_out_18 dX11_out_21 rfl (Nat.le_of_ble_eq_true rfl) (Nat.le_of_ble_eq_true rfl) (Nat.le_of_ble_eq_true rfl) (Nat.le_of_ble_eq_true rfl) (fun nx9 hnx => Or.inl ⟨rfl, fun z => u3 z.2, rfl, hnx⟩)
set_option maxRecDepth 100000 in
set_option maxHeartbeats 1000000 in
/-- element -/
theorem cx_X11_element {E : aG} (l : Launch) (d : Int32) (i : Int32) {ci : Nat → Nat → Int32} {cl : Nat → Nat → Int64} {cr : Nat → Nat → Option Nat} {dy : aM} {nx : Nat} (hSh : ∀ e, e < 8 → SHX cr dy e) (hNW : NW E) (hX : XW E) (htr : l.stackTraces = false) : CX E l yX11_element cX11_element 5 (some .long) 6 [.ref 1, .int d, .int i] (mm ci cl cr dy) nx 1 6 (fun r M' nx' => ∃ e j k q w v f, e < 8 ∧ d = nI e ∧ i = nI j ∧ cr 42 e = some k ∧ RW dy k q w v f ∧ v ≤ 60 ∧ j < v ∧ r = some (.long (f j)) ∧ M' = mm ci cl cr dy ∧ nx = nx') (fun X M' nx' => (X = "java/lang/IllegalArgumentException" ∧ ¬ AI 8 d ∧ M' = mm ci cl cr dy ∧ nx ≤ nx') ∨ (∃ e, e < 8 ∧ d = nI e ∧ X = "java/lang/IllegalStateException" ∧ (cr 42 e = none ∨ (∃ k c nu a s, cr 42 e = some k ∧ AT c nu dy a k s) ∨ (∃ k q w v f, cr 42 e = some k ∧ RW dy k q w v f ∧ v ≤ 60 ∧ ¬ RC v i 1)) ∧ M' = mm ci cl cr dy ∧ nx ≤ nx')) := by
  refine CX_intro (by decide) (Nat.le_of_ble_eq_true rfl) (fun Γ hΓ hQ hTE hL => ?_)
  replace hΓ : CK E RX11 cX11_element 5 (some .long) "element" 6 1 6 Γ := hΓ
  show SV E Γ 5 (mm ci cl cr dy) nx 0 0 0 [(0, .ref 1), (1, .int d), (2, .int i)] []
  refine sv_iload_n hΓ dX11_element_0 rfl 1 rfl rfl ?_
  refine sv_callS hΓ (fun l => ct_X11_isShelf l d ) wv_X11_317 tb_729 rfl rfl (by decide) (Nat.le_of_ble_eq_true rfl) (Nat.le_of_ble_eq_true rfl) (Nat.le_of_ble_eq_true rfl) dX11_element_1 rfl (fun r M' nx' p1 => ?_)
  obtain ⟨rfl, rfl, rfl⟩ := p1
  show SV E Γ 5 (mm ci cl cr dy) nx 0 0 4 [(0, .ref 1), (1, .int d), (2, .int i)] [.int (bI (AI 8 d))]
  refine sv_if_ne (tgt := 18) hΓ dX11_element_4 (by decide) rfl (fun u2 => ?_) (fun u2 => ?_)
  · replace u2 := bI_ne.mp u2
    obtain ⟨e, he, ee⟩ := AI.k u2
    subst ee
    rcases (hSh e he) with hn1 | ⟨k1, c1, nu1, a1, s1, hc1, hA1⟩ | ⟨k1, q1, w1, v1, f1, hc1, hR1, hv1⟩
    · refine sv_aload_n hΓ dX11_element_18 rfl 0 rfl rfl ?_
      refine g_X11_61_1 hΓ dX11_element_19 rfl ?_
      refine sv_iload_n hΓ dX11_element_22 rfl 1 rfl rfl ?_
      refine ar_42 hΓ (e) rfl (by omega) dX11_element_23 (v := .null) (rf_none hn1) rfl ?_
      refine sv_astoreN (lv' := [(4, .null), (0, .ref 1), (1, .int (nI e)), (2, .int i)]) hΓ dX11_element_24 (by decide) rfl rfl ?_
      refine sv_aloadN hΓ dX11_element_26 0 rfl rfl ?_
      refine sv_instN hΓ dX11_element_28 rfl ?_
      refine sv_if_eq (tgt := 56) hΓ dX11_element_31 (by decide) rfl (fun u3 => ?_) (fun u3 => absurd (by decide) u3)
      exact sv_throwSW hΓ hQ hTE hX (by rw [hL]; exact htr) (cls := "java/lang/IllegalStateException") (text := "nothing is held, it is no ROW, or has no such place") (names := nmz) (ik := 299) (is := 346) (ic := 303) (by decide) (by decide) tb_794 tb_20 str_998 at_gis dX11_element_56 dX11_element_59 dX11_element_60 dX11_element_63 dX11_element_66 rfl (Nat.le_of_ble_eq_true rfl) (Nat.le_of_ble_eq_true rfl) (Nat.le_of_ble_eq_true rfl) (Nat.le_of_ble_eq_true rfl) (fun nx9 hnx => Or.inr ⟨e, he, rfl, rfl, Or.inl hn1, rfl, hnx⟩)
    · refine sv_aload_n hΓ dX11_element_18 rfl 0 rfl rfl ?_
      refine g_X11_61_1 hΓ dX11_element_19 rfl ?_
      refine sv_iload_n hΓ dX11_element_22 rfl 1 rfl rfl ?_
      refine ar_42 hΓ (e) rfl (by omega) dX11_element_23 (v := .ref k1) (rf_some hc1) rfl ?_
      refine sv_astore (lv' := [(4, .ref k1), (0, .ref 1), (1, .int (nI e)), (2, .int i)]) hΓ dX11_element_24 (by decide) rfl rfl ?_
      refine sv_aload hΓ dX11_element_26 0 rfl rfl ?_
      refine sv_instNo hΓ (ci := 0) rfl tb_739 hNW.2.2.2.2.2.2.2.2.2.2.2.1 hA1.m dX11_element_28 rfl ?_
      refine sv_if_eq (tgt := 56) hΓ dX11_element_31 (by decide) rfl (fun u4 => ?_) (fun u4 => absurd (by decide) u4)
      exact sv_throwSW hΓ hQ hTE hX (by rw [hL]; exact htr) (cls := "java/lang/IllegalStateException") (text := "nothing is held, it is no ROW, or has no such place") (names := nmz) (ik := 299) (is := 346) (ic := 303) (by decide) (by decide) tb_794 tb_20 str_998 at_gis dX11_element_56 dX11_element_59 dX11_element_60 dX11_element_63 dX11_element_66 rfl (Nat.le_of_ble_eq_true rfl) (Nat.le_of_ble_eq_true rfl) (Nat.le_of_ble_eq_true rfl) (Nat.le_of_ble_eq_true rfl) (fun nx9 hnx => Or.inr ⟨e, he, rfl, rfl, Or.inr (Or.inl ⟨k1, c1, nu1, a1, s1, hc1, hA1⟩), rfl, hnx⟩)
    · refine sv_aload_n hΓ dX11_element_18 rfl 0 rfl rfl ?_
      refine g_X11_61_1 hΓ dX11_element_19 rfl ?_
      refine sv_iload_n hΓ dX11_element_22 rfl 1 rfl rfl ?_
      refine ar_42 hΓ (e) rfl (by omega) dX11_element_23 (v := .ref k1) (rf_some hc1) rfl ?_
      refine sv_astore (lv' := [(4, .ref k1), (0, .ref 1), (1, .int (nI e)), (2, .int i)]) hΓ dX11_element_24 (by decide) rfl rfl ?_
      refine sv_aload hΓ dX11_element_26 0 rfl rfl ?_
      refine sv_instY hΓ (ci := 6) rfl tb_739 ((mm_hi hR1.1).trans (hR1.2.2.1)) dX11_element_28 rfl ?_
      refine sv_if_eq (tgt := 56) hΓ dX11_element_31 (by decide) rfl (fun u5 => absurd u5 (by decide)) (fun u5 => ?_)
      refine sv_aload hΓ dX11_element_34 0 rfl rfl ?_
      refine sv_castY hΓ (ci := 6) rfl tb_739 ((mm_hi hR1.1).trans (hR1.2.2.1)) dX11_element_36 rfl ?_
      refine sv_astore_n (lv' := [(3, .ref k1), (4, .ref k1), (0, .ref 1), (1, .int (nI e)), (2, .int i)]) hΓ dX11_element_39 rfl (by decide) rfl rfl ?_
      refine sv_aload_n hΓ dX11_element_40 rfl 0 rfl rfl ?_
      refine sv_iload_n hΓ dX11_element_41 rfl 4 rfl rfl ?_
      refine sv_iconst (v := 1) hΓ dX11_element_42 (by decide) rfl ?_
      refine sv_callV hΓ (fun l => ct_X7_reaches l k1 q1 w1 v1 f1 i 1 hR1 hv1) wv_X11_339 vs_X7_reaches rfl ((mm_hi hR1.1).trans (hR1.2.2.1)) rfl rfl (by decide) (Nat.le_of_ble_eq_true rfl) (Nat.le_of_ble_eq_true rfl) (Nat.le_of_ble_eq_true rfl) dX11_element_43 rfl (fun r M' nx' p6 => ?_)
      obtain ⟨rfl, rfl, rfl⟩ := p6
      show SV E Γ 5 (mm ci cl cr dy) nx 0 0 46 [(3, .ref k1), (4, .ref k1), (0, .ref 1), (1, .int (nI e)), (2, .int i)] [.int (bI (RC v1 i 1))]
      refine sv_if_eq (tgt := 56) hΓ dX11_element_46 (by decide) rfl (fun u7 => ?_) (fun u7 => ?_)
      · replace u7 := bI_0.mp u7
        exact sv_throwSW hΓ hQ hTE hX (by rw [hL]; exact htr) (cls := "java/lang/IllegalStateException") (text := "nothing is held, it is no ROW, or has no such place") (names := nmz) (ik := 299) (is := 346) (ic := 303) (by decide) (by decide) tb_794 tb_20 str_998 at_gis dX11_element_56 dX11_element_59 dX11_element_60 dX11_element_63 dX11_element_66 rfl (Nat.le_of_ble_eq_true rfl) (Nat.le_of_ble_eq_true rfl) (Nat.le_of_ble_eq_true rfl) (Nat.le_of_ble_eq_true rfl) (fun nx9 hnx => Or.inr ⟨e, he, rfl, rfl, Or.inr (Or.inr ⟨k1, q1, w1, v1, f1, hc1, hR1, hv1, u7⟩), rfl, hnx⟩)
      · replace u7 := bI_ne.mp u7
        obtain ⟨j, hj, ej⟩ := rc_1 hv1 u7
        subst ej
        refine sv_aload_n hΓ dX11_element_49 rfl 0 rfl rfl ?_
        refine gt_X11_343 hΓ ((mm_hi hR1.1).trans (hR1.2.2.1)) rfl dX11_element_50 rfl ?_
        refine sv_iload_n hΓ dX11_element_53 rfl 4 rfl rfl ?_
        refine sv_lald hΓ dX11_element_54 ((mm_hi hR1.2.1).trans hR1.2.2.2) (vp_in_nI (by omega) (by omega)) rfl ?_
        rw [nI_clamp (by omega)]
        show SV E Γ 5 (mm ci cl cr dy) nx 0 0 55 [(3, .ref k1), (4, .ref k1), (0, .ref 1), (1, .int (nI e)), (2, .int (nI j))] [.long (f1 j)]
        refine sv_xr hΓ hQ (fun Γ hΓ hQ => ?_)
        exact sv_lret hΓ hQ dX11_element_55 (Nat.le_of_ble_eq_true rfl) (Nat.le_of_ble_eq_true rfl) ⟨e, j, k1, q1, w1, v1, f1, he, rfl, rfl, hc1, hR1, hv1, hj, rfl, rfl, rfl⟩
  · replace u2 := bI_0.mp u2
    exact sv_throwSW hΓ hQ hTE hX (by rw [hL]; exact htr) (cls := "java/lang/IllegalArgumentException") (text := "no such SHELF") (names := nmz) (ik := 201) (is := 337) (ic := 205) (by decide) (by decide) tb_793 tb_17 str_997 at_gia dX11_element_7 dX11_element_10 dX11_element_11 dX11_element_14 dX11_element_17 rfl (Nat.le_of_ble_eq_true rfl) (Nat.le_of_ble_eq_true rfl) (Nat.le_of_ble_eq_true rfl) (Nat.le_of_ble_eq_true rfl) (fun nx9 hnx => Or.inl ⟨rfl, u2, rfl, hnx⟩)
