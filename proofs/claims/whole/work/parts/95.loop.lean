/-! The law's loop -/
theorem lp_c {k L : Nat} (hk : k ≤ 513) (hL : L ≤ 3072) (h : ¬ nI L - 6 < nI (6 * k)) : 6 * k + 6 ≤ L := by
  have e1 : (nI L - 6).toInt = (L : Int) - 6 := by
    rw [Int32.toInt_sub, nI_toInt (by omega)]
    exact Int.bmod_eq_of_le (by show -2147483648 ≤ (L : Int) - 6; omega) (by show (L : Int) - 6 < 2147483648; omega)
  rw [Int32.lt_iff_toInt_lt, e1, nI_toInt (by omega)] at h
  omega
theorem law_step {E : aG} {Γ : aC} {nm : String} {ci : aI} {cl : aL} {cr : Nat → Nat → Option Nat} {dy : aM} {nx n ce sl k : Nat} (C : LC E Γ nm) (h : INV ci cl cr dy nx n) (hk : 6 * k + 6 ≤ gL E) (hce : ce + 3 ≤ 601024) (hsl : sl + 62 ≤ 7293034) (K : KK E Γ (ce + 3) (sl + 62) k) {x : Int32} : SV E Γ 8 (mm ci cl cr dy) nx ce sl 40 (LVk k) [.int x] := by
  have hΓ := C.1
  refine sv_table (x := x) (lo := 0) (hi := 30) 30 rfl (fun u => ?_) (fun j hj u => ?_)
  · exact sv_tableOut (pc' := 1595) hΓ dL_law_40 u (by decide) (SV_w (by omega) (by omega) (K _ _ _ _ _ _ h))
  · rcases (by omega : j = 0 ∨ j = 1 ∨ j = 2 ∨ j = 3 ∨ j = 4 ∨ j = 5 ∨ j = 6 ∨ j = 7 ∨ j = 8 ∨ j = 9 ∨ j = 10 ∨ j = 11 ∨ j = 12 ∨ j = 13 ∨ j = 14 ∨ j = 15 ∨ j = 16 ∨ j = 17 ∨ j = 18 ∨ j = 19 ∨ j = 20 ∨ j = 21 ∨ j = 22 ∨ j = 23 ∨ j = 24 ∨ j = 25 ∨ j = 26 ∨ j = 27 ∨ j = 28 ∨ j = 29 ∨ j = 30) with e | e | e | e | e | e | e | e | e | e | e | e | e | e | e | e | e | e | e | e | e | e | e | e | e | e | e | e | e | e | e
    · subst e
      exact sv_tableIn (off := 140) (pc' := 180) hΓ dL_law_40 (by omega) (by omega) (by rw [u]; rfl) (by decide) (law_constant C h hk hce hsl K)
    · subst e
      exact sv_tableIn (off := 209) (pc' := 249) hΓ dL_law_40 (by omega) (by omega) (by rw [u]; rfl) (by decide) (law_port C h hk hce hsl K)
    · subst e
      exact sv_tableIn (off := 258) (pc' := 298) hΓ dL_law_40 (by omega) (by omega) (by rw [u]; rfl) (by decide) (law_reckon C h hk hce hsl K)
    · subst e
      exact sv_tableIn (off := 319) (pc' := 359) hΓ dL_law_40 (by omega) (by omega) (by rw [u]; rfl) (by decide) (law_pick C h hk hce hsl K)
    · subst e
      exact sv_tableIn (off := 380) (pc' := 420) hΓ dL_law_40 (by omega) (by omega) (by rw [u]; rfl) (by decide) (law_touch C h hk hce hsl K)
    · subst e
      exact sv_tableIn (off := 429) (pc' := 469) hΓ dL_law_40 (by omega) (by omega) (by rw [u]; rfl) (by decide) (law_drop C h hk hce hsl K)
    · subst e
      exact sv_tableIn (off := 442) (pc' := 482) hΓ dL_law_40 (by omega) (by omega) (by rw [u]; rfl) (by decide) (law_parts C h hk hce hsl K)
    · subst e
      exact sv_tableIn (off := 479) (pc' := 519) hΓ dL_law_40 (by omega) (by omega) (by rw [u]; rfl) (by decide) (law_length C h hk hce hsl K)
    · subst e
      exact sv_tableIn (off := 544) (pc' := 584) hΓ dL_law_40 (by omega) (by omega) (by rw [u]; rfl) (by decide) (law_feed C h hk hce hsl K)
    · subst e
      exact sv_tableIn (off := 613) (pc' := 653) hΓ dL_law_40 (by omega) (by omega) (by rw [u]; rfl) (by decide) (law_place C h hk hce hsl K)
    · subst e
      exact sv_tableIn (off := 682) (pc' := 722) hΓ dL_law_40 (by omega) (by omega) (by rw [u]; rfl) (by decide) (law_act C h hk hce hsl K)
    · subst e
      exact sv_tableIn (off := 719) (pc' := 759) hΓ dL_law_40 (by omega) (by omega) (by rw [u]; rfl) (by decide) (law_span C h hk hce hsl K)
    · subst e
      exact sv_tableIn (off := 802) (pc' := 842) hΓ dL_law_40 (by omega) (by omega) (by rw [u]; rfl) (by decide) (law_needs C h hk hce hsl K)
    · subst e
      exact sv_tableIn (off := 839) (pc' := 879) hΓ dL_law_40 (by omega) (by omega) (by rw [u]; rfl) (by decide) (law_lay C h hk hce hsl K)
    · subst e
      exact sv_tableIn (off := 852) (pc' := 892) hΓ dL_law_40 (by omega) (by omega) (by rw [u]; rfl) (by decide) (law_tick C h hk hce hsl K)
    · subst e
      exact sv_tableIn (off := 889) (pc' := 929) hΓ dL_law_40 (by omega) (by omega) (by rw [u]; rfl) (by decide) (law_bound C h hk hce hsl K)
    · subst e
      exact sv_tableIn (off := 914) (pc' := 954) hΓ dL_law_40 (by omega) (by omega) (by rw [u]; rfl) (by decide) (law_registers C h hk hce hsl K)
    · subst e
      exact sv_tableIn (off := 927) (pc' := 967) hΓ dL_law_40 (by omega) (by omega) (by rw [u]; rfl) (by decide) (law_chooser C h hk hce hsl K)
    · subst e
      exact sv_tableIn (off := 992) (pc' := 1032) hΓ dL_law_40 (by omega) (by omega) (by rw [u]; rfl) (by decide) (law_at C h hk hce hsl K)
    · subst e
      exact sv_tableIn (off := 1029) (pc' := 1069) hΓ dL_law_40 (by omega) (by omega) (by rw [u]; rfl) (by decide) (law_run C h hk hce hsl K)
    · subst e
      exact sv_tableIn (off := 1070) (pc' := 1110) hΓ dL_law_40 (by omega) (by omega) (by rw [u]; rfl) (by decide) (law_told C h hk hce hsl K)
    · subst e
      exact sv_tableIn (off := 1095) (pc' := 1135) hΓ dL_law_40 (by omega) (by omega) (by rw [u]; rfl) (by decide) (law_out C h hk hce hsl K)
    · subst e
      exact sv_tableIn (off := 1162) (pc' := 1202) hΓ dL_law_40 (by omega) (by omega) (by rw [u]; rfl) (by decide) (law_outs C h hk hce hsl K)
    · subst e
      exact sv_tableIn (off := 1187) (pc' := 1227) hΓ dL_law_40 (by omega) (by omega) (by rw [u]; rfl) (by decide) (law_row C h hk hce hsl K)
    · subst e
      exact sv_tableIn (off := 1242) (pc' := 1282) hΓ dL_law_40 (by omega) (by omega) (by rw [u]; rfl) (by decide) (law_count C h hk hce hsl K)
    · subst e
      exact sv_tableIn (off := 1267) (pc' := 1307) hΓ dL_law_40 (by omega) (by omega) (by rw [u]; rfl) (by decide) (law_keep C h hk hce hsl K)
    · subst e
      exact sv_tableIn (off := 1316) (pc' := 1356) hΓ dL_law_40 (by omega) (by omega) (by rw [u]; rfl) (by decide) (law_make C h hk hce hsl K)
    · subst e
      exact sv_tableIn (off := 1365) (pc' := 1405) hΓ dL_law_40 (by omega) (by omega) (by rw [u]; rfl) (by decide) (law_element C h hk hce hsl K)
    · subst e
      exact sv_tableIn (off := 1432) (pc' := 1472) hΓ dL_law_40 (by omega) (by omega) (by rw [u]; rfl) (by decide) (law_copy C h hk hce hsl K)
    · subst e
      exact sv_tableIn (off := 1505) (pc' := 1545) hΓ dL_law_40 (by omega) (by omega) (by rw [u]; rfl) (by decide) (law_weight C h hk hce hsl K)
    · subst e
      exact sv_tableIn (off := 1530) (pc' := 1570) hΓ dL_law_40 (by omega) (by omega) (by rw [u]; rfl) (by decide) (law_toss C h hk hce hsl K)
theorem law_loop {E : aG} {Γ : aC} {nm : String} (C : LC E Γ nm) (END : ∀ M nx ce sl lv, ce ≤ 601024 → sl ≤ 7293034 → SV E Γ 8 M nx ce sl 1602 lv [.int 1]) : ∀ m k, k + m = 513 → ∀ ci cl cr dy nx n, INV ci cl cr dy nx n → SV E Γ 8 (mm ci cl cr dy) nx (100 + 3 * k) (5000 + 62 * k) 23 (LVk k) [] := by
  intro m
  induction m with
  | zero =>
    intro k hkm ci cl cr dy nx n h
    have hΓ := C.1
    have hSX := C.2.1
    have hL := C.2.2.1
    refine sv_iload hΓ dL_law_23 0 rfl rfl ?_
    refine sv_aload_n hΓ dL_law_25 rfl 4 rfl rfl ?_
    refine sv_slen hΓ hSX dL_law_26 rfl ?_
    refine sv_bipush (v := 6) hΓ dL_law_27 (by decide) rfl ?_
    refine sv_isub hΓ dL_law_29 rfl ?_
    refine sv_icmp_gt (tgt := 1601) hΓ dL_law_30 (by decide) rfl (fun _ => ?_) (fun z => ?_)
    · refine sv_iconst (v := 1) hΓ dL_law_1601 (by decide) rfl ?_
      exact END _ _ _ _ _ (by omega) (by omega)
    · have := lp_c (by omega) hL z
      omega
  | succ m ih =>
    intro k hkm ci cl cr dy nx n h
    have hΓ := C.1
    have hSX := C.2.1
    have hL := C.2.2.1
    refine sv_iload hΓ dL_law_23 0 rfl rfl ?_
    refine sv_aload_n hΓ dL_law_25 rfl 4 rfl rfl ?_
    refine sv_slen hΓ hSX dL_law_26 rfl ?_
    refine sv_bipush (v := 6) hΓ dL_law_27 (by decide) rfl ?_
    refine sv_isub hΓ dL_law_29 rfl ?_
    refine sv_icmp_gt (tgt := 1601) hΓ dL_law_30 (by decide) rfl (fun _ => ?_) (fun z => ?_)
    · refine sv_iconst (v := 1) hΓ dL_law_1601 (by decide) rfl ?_
      exact END _ _ _ _ _ (by omega) (by omega)
    · have hk := lp_c (by omega) hL z
      refine sv_aload_n hΓ dL_law_33 rfl 4 rfl rfl ?_
      refine sv_iload hΓ dL_law_34 0 rfl rfl ?_
      refine sv_sld hΓ hSX (nI_in (by omega) (by omega)) dL_law_36 rfl ?_
      refine sv_bipush (v := 31) hΓ dL_law_37 (by decide) rfl ?_
      refine sv_iand hΓ dL_law_39 rfl ?_
      refine law_step C h hk (by omega) (by omega) (fun ci2 cl2 cr2 dy2 nx2 n2 h2 => ?_)
      refine sv_iinc (v := nI (6 * (k + 1))) (lv' := LVk (k + 1)) hΓ dL_law_1595 0 rfl ?_ (by decide) rfl rfl ?_
      · exact nx_add (b := 6) rfl rfl
      · refine sv_goto (pc' := 23) hΓ dL_law_1598 (by decide) ?_
        exact SV_w (by omega) (by omega) (ih (k + 1) (by omega) ci2 cl2 cr2 dy2 nx2 n2 h2)
