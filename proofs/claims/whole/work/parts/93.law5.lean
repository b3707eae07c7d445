/-! The law: cases 16 to 23 -/
theorem law_registers {E : aG} {Γ : aC} {nm : String} {ci : aI} {cl : aL} {cr : Nat → Nat → Option Nat} {dy : aM} {nx n ce sl k : Nat} (C : LC E Γ nm) (h : INV ci cl cr dy nx n) (hk : 6 * k + 6 ≤ gL E) (hce : ce + 3 ≤ 601024) (hsl : sl + 62 ≤ 7293034) (K : KK E Γ (ce + 3) (sl + 62) k) : SV E Γ 8 (mm ci cl cr dy) nx ce sl 954 (LVk k) [] := by
  obtain ⟨hΓ, hSX, hL, hNW, hNX, hX, hXN, htr⟩ := C
  refine sv_aload_n hΓ dL_law_954 rfl 3 rfl rfl ?_
  show SV E Γ 8 _ _ _ _ 955 (LVk k) [.ref 1]
  refine sv_callV hΓ (fun l => ct_X11_registers l) wv_L_111 vs_X11_registers rfl m_1 rfl rfl (by decide) (by omega) (by omega) (Nat.le_of_ble_eq_true rfl) dL_law_955 rfl (fun r M' nx' p1 => ?_)
  obtain ⟨v, rfl, rfl, rfl, hF⟩ := A_registers h p1
  show SV E Γ 8 _ _ _ _ 958 (LVk k) [.int v]
  refine sv_aload_n hΓ dL_law_958 rfl 2 rfl rfl ?_
  show SV E Γ 8 _ _ _ _ 959 (LVk k) [.ref 43, .int v]
  refine sv_callV hΓ (fun l => ct_X12_registers l) wv_L_114 vs_X12_registers rfl m_43 rfl rfl (by decide) (by omega) (by omega) (Nat.le_of_ble_eq_true rfl) dL_law_959 rfl (fun r M' nx' p2 => ?_)
  obtain ⟨rfl, ci2, cl2, cr2, dy2, n2, rfl, h2⟩ := hF _ _ _ p2
  show SV E Γ 8 _ _ _ _ 962 (LVk k) [.int v, .int v]
  refine sv_icmp_eq (tgt := 1595) hΓ dL_law_962 (by decide) rfl (fun _ => ?_) (fun z => absurd rfl z)
  exact SV_w (by omega) (by omega) (K _ _ _ _ _ _ h2)
theorem law_chooser {E : aG} {Γ : aC} {nm : String} {ci : aI} {cl : aL} {cr : Nat → Nat → Option Nat} {dy : aM} {nx n ce sl k : Nat} (C : LC E Γ nm) (h : INV ci cl cr dy nx n) (hk : 6 * k + 6 ≤ gL E) (hce : ce + 3 ≤ 601024) (hsl : sl + 62 ≤ 7293034) (K : KK E Γ (ce + 3) (sl + 62) k) : SV E Γ 8 (mm ci cl cr dy) nx ce sl 967 (LVk k) [] := by
  obtain ⟨hΓ, hSX, hL, hNW, hNX, hX, hXN, htr⟩ := C
  refine sv_aload_n hΓ dL_law_967 rfl 3 rfl rfl ?_
  refine sv_arg hΓ hSX 1 hk hL (by decide) dL_law_968 dL_law_969 dL_law_971 (by decide) dL_law_972 dL_law_973 4 0 rfl rfl rfl ?_
  refine sv_arg hΓ hSX 2 hk hL (by decide) dL_law_974 dL_law_975 dL_law_977 (by decide) dL_law_978 dL_law_979 4 0 rfl rfl rfl ?_
  refine sv_arg hΓ hSX 3 hk hL (by decide) dL_law_980 dL_law_981 dL_law_983 (by decide) dL_law_984 dL_law_985 4 0 rfl rfl rfl ?_
  refine sv_nz hΓ dL_law_986 dL_law_989 dL_law_990 dL_law_993 rfl ?_
  show SV E Γ 8 _ _ _ _ 994 (LVk k) [.int (nzI (gX E (6 * k + 3))), .int (gX E (6 * k + 2)), .int (gX E (6 * k + 1)), .ref 1]
  refine sv_callV hΓ (fun l => ct_X11_chooser l (up2 ci 43 0 0) (cl 48) n (gX E (6 * k + 1)) (gX E (6 * k + 2)) (nzI (gX E (6 * k + 3))) (if (nzI (gX E (6 * k + 3))) = 0 then 0 else 1) h.B0 h.hld rfl (h.hrx (w3of _))) wv_L_115 vs_X11_chooser rfl m_1 rfl rfl (by decide) (by omega) (by omega) (Nat.le_of_ble_eq_true rfl) dL_law_994 rfl (fun r M' nx' p1 => ?_)
  obtain ⟨v, rfl, rfl, rfl, hF⟩ := A_chooser h (nz01 _) p1
  show SV E Γ 8 _ _ _ _ 997 (LVk k) [.int v]
  refine sv_aload_n hΓ dL_law_997 rfl 2 rfl rfl ?_
  refine sv_arg hΓ hSX 1 hk hL (by decide) dL_law_998 dL_law_999 dL_law_1001 (by decide) dL_law_1002 dL_law_1003 4 0 rfl rfl rfl ?_
  refine sv_arg hΓ hSX 2 hk hL (by decide) dL_law_1004 dL_law_1005 dL_law_1007 (by decide) dL_law_1008 dL_law_1009 4 0 rfl rfl rfl ?_
  refine sv_arg hΓ hSX 3 hk hL (by decide) dL_law_1010 dL_law_1011 dL_law_1013 (by decide) dL_law_1014 dL_law_1015 4 0 rfl rfl rfl ?_
  refine sv_nz hΓ dL_law_1016 dL_law_1019 dL_law_1020 dL_law_1023 rfl ?_
  show SV E Γ 8 _ _ _ _ 1024 (LVk k) [.int (nzI (gX E (6 * k + 3))), .int (gX E (6 * k + 2)), .int (gX E (6 * k + 1)), .ref 43, .int v]
  refine sv_callV hΓ (fun l => ct_X12_chooser l (gX E (6 * k + 1)) (gX E (6 * k + 2)) (nzI (gX E (6 * k + 3))) n h.1.2.1 h.n6 h.wf h.hrx2) wv_L_118 vs_X12_chooser rfl m_43 rfl rfl (by decide) (by omega) (by omega) (Nat.le_of_ble_eq_true rfl) dL_law_1024 rfl (fun r M' nx' p2 => ?_)
  obtain ⟨rfl, ci2, cl2, cr2, dy2, n2, rfl, h2⟩ := hF _ _ _ p2
  show SV E Γ 8 _ _ _ _ 1027 (LVk k) [.int v, .int v]
  refine sv_icmp_eq (tgt := 1595) hΓ dL_law_1027 (by decide) rfl (fun _ => ?_) (fun z => absurd rfl z)
  exact SV_w (by omega) (by omega) (K _ _ _ _ _ _ h2)
theorem law_at {E : aG} {Γ : aC} {nm : String} {ci : aI} {cl : aL} {cr : Nat → Nat → Option Nat} {dy : aM} {nx n ce sl k : Nat} (C : LC E Γ nm) (h : INV ci cl cr dy nx n) (hk : 6 * k + 6 ≤ gL E) (hce : ce + 3 ≤ 601024) (hsl : sl + 62 ≤ 7293034) (K : KK E Γ (ce + 3) (sl + 62) k) : SV E Γ 8 (mm ci cl cr dy) nx ce sl 1032 (LVk k) [] := by
  obtain ⟨hΓ, hSX, hL, hNW, hNX, hX, hXN, htr⟩ := C
  refine sv_aload_n hΓ dL_law_1032 rfl 3 rfl rfl ?_
  refine sv_arg hΓ hSX 1 hk hL (by decide) dL_law_1033 dL_law_1034 dL_law_1036 (by decide) dL_law_1037 dL_law_1038 4 0 rfl rfl rfl ?_
  refine sv_arg hΓ hSX 2 hk hL (by decide) dL_law_1039 dL_law_1040 dL_law_1042 (by decide) dL_law_1043 dL_law_1044 4 0 rfl rfl rfl ?_
  show SV E Γ 8 _ _ _ _ 1045 (LVk k) [.int (gX E (6 * k + 2)), .int (gX E (6 * k + 1)), .ref 1]
  refine sv_callV hΓ (fun l => ct_X11_at l (up2 ci 43 0 0) n (gX E (6 * k + 1)) (gX E (6 * k + 2)) h.1.1.2.2.2.1 h.n6 h.ht) wv_L_119 vs_X11_at rfl m_1 rfl rfl (by decide) (by omega) (by omega) (Nat.le_of_ble_eq_true rfl) dL_law_1045 rfl (fun r M' nx' p1 => ?_)
  obtain ⟨v, rfl, rfl, rfl, hF⟩ := A_at h p1
  show SV E Γ 8 _ _ _ _ 1048 (LVk k) [.int v]
  refine sv_aload_n hΓ dL_law_1048 rfl 2 rfl rfl ?_
  refine sv_arg hΓ hSX 1 hk hL (by decide) dL_law_1049 dL_law_1050 dL_law_1052 (by decide) dL_law_1053 dL_law_1054 4 0 rfl rfl rfl ?_
  refine sv_arg hΓ hSX 2 hk hL (by decide) dL_law_1055 dL_law_1056 dL_law_1058 (by decide) dL_law_1059 dL_law_1060 4 0 rfl rfl rfl ?_
  show SV E Γ 8 _ _ _ _ 1061 (LVk k) [.int (gX E (6 * k + 2)), .int (gX E (6 * k + 1)), .ref 43, .int v]
  refine sv_callV hΓ (fun l => ct_X12_at l (gX E (6 * k + 1)) (gX E (6 * k + 2)) n h.1.2.1 h.n6) wv_L_122 vs_X12_at rfl m_43 rfl rfl (by decide) (by omega) (by omega) (Nat.le_of_ble_eq_true rfl) dL_law_1061 rfl (fun r M' nx' p2 => ?_)
  obtain ⟨rfl, ci2, cl2, cr2, dy2, n2, rfl, h2⟩ := hF _ _ _ p2
  show SV E Γ 8 _ _ _ _ 1064 (LVk k) [.int v, .int v]
  refine sv_icmp_eq (tgt := 1595) hΓ dL_law_1064 (by decide) rfl (fun _ => ?_) (fun z => absurd rfl z)
  exact SV_w (by omega) (by omega) (K _ _ _ _ _ _ h2)
theorem law_run {E : aG} {Γ : aC} {nm : String} {ci : aI} {cl : aL} {cr : Nat → Nat → Option Nat} {dy : aM} {nx n ce sl k : Nat} (C : LC E Γ nm) (h : INV ci cl cr dy nx n) (hk : 6 * k + 6 ≤ gL E) (hce : ce + 3 ≤ 601024) (hsl : sl + 62 ≤ 7293034) (K : KK E Γ (ce + 3) (sl + 62) k) : SV E Γ 8 (mm ci cl cr dy) nx ce sl 1069 (LVk k) [] := by
  obtain ⟨hΓ, hSX, hL, hNW, hNX, hX, hXN, htr⟩ := C
  obtain ⟨g, hg⟩ := h.gg
  obtain ⟨TT, hTl, hTT⟩ := h.2.1.2.2.2.2.2.2.2.2
  refine sv_aload_n hΓ dL_law_1069 rfl 3 rfl rfl ?_
  refine sv_arg hΓ hSX 1 hk hL (by decide) dL_law_1070 dL_law_1071 dL_law_1073 (by decide) dL_law_1074 dL_law_1075 4 0 rfl rfl rfl ?_
  refine sv_nz hΓ dL_law_1076 dL_law_1079 dL_law_1080 dL_law_1083 rfl ?_
  show SV E Γ 8 _ _ _ _ 1084 (LVk k) [.int (nzI (gX E (6 * k + 1))), .ref 1]
  refine sv_callV hΓ (fun l => ct_X11_run l ci (cl 48) cl n (nzI (gX E (6 * k + 1))) g h.RG (fun i hi => h.2.1.2.2.2.2.2.1 i (by have := h.n6; omega)) hg hNW) wv_L_123 vs_X11_run rfl m_1 rfl rfl (by decide) (by omega) (by omega) (Nat.le_of_ble_eq_true rfl) dL_law_1084 rfl (fun r M' nx' p1 => ?_)
  obtain ⟨v, c1, l1, rfl, rfl, rfl, hs, h43, h52, hF⟩ := A_run h hTT hTl hg p1
  show SV E Γ 8 _ _ _ _ 1087 (LVk k) [.int v]
  refine sv_aload_n hΓ dL_law_1087 rfl 2 rfl rfl ?_
  refine sv_arg hΓ hSX 1 hk hL (by decide) dL_law_1088 dL_law_1089 dL_law_1091 (by decide) dL_law_1092 dL_law_1093 4 0 rfl rfl rfl ?_
  refine sv_nz hΓ dL_law_1094 dL_law_1097 dL_law_1098 dL_law_1101 rfl ?_
  show SV E Γ 8 _ _ _ _ 1102 (LVk k) [.int (nzI (gX E (6 * k + 1))), .ref 43, .int v]
  refine sv_callV hΓ (fun l => ct_X12_run l (nzI (gX E (6 * k + 1))) n TT (by rw [h43]; exact h.1.2.1) h.n6 (fun i hi => hs.WF (h.wf i hi)) (by rw [h43]; exact hTT) hTl (by rw [h52]; exact h.2.1.2.2.1)) wv_L_127 vs_X12_run rfl m_43 rfl rfl (by decide) (by omega) (by omega) (Nat.le_of_ble_eq_true rfl) dL_law_1102 rfl (fun r M' nx' p2 => ?_)
  obtain ⟨rfl, ci2, cl2, cr2, dy2, n2, rfl, h2⟩ := hF _ _ _ p2
  show SV E Γ 8 _ _ _ _ 1105 (LVk k) [.int v, .int v]
  refine sv_icmp_eq (tgt := 1595) hΓ dL_law_1105 (by decide) rfl (fun _ => ?_) (fun z => absurd rfl z)
  exact SV_w (by omega) (by omega) (K _ _ _ _ _ _ h2)
theorem law_told {E : aG} {Γ : aC} {nm : String} {ci : aI} {cl : aL} {cr : Nat → Nat → Option Nat} {dy : aM} {nx n ce sl k : Nat} (C : LC E Γ nm) (h : INV ci cl cr dy nx n) (hk : 6 * k + 6 ≤ gL E) (hce : ce + 3 ≤ 601024) (hsl : sl + 62 ≤ 7293034) (K : KK E Γ (ce + 3) (sl + 62) k) : SV E Γ 8 (mm ci cl cr dy) nx ce sl 1110 (LVk k) [] := by
  obtain ⟨hΓ, hSX, hL, hNW, hNX, hX, hXN, htr⟩ := C
  refine sv_aload_n hΓ dL_law_1110 rfl 3 rfl rfl ?_
  refine sv_arg hΓ hSX 1 hk hL (by decide) dL_law_1111 dL_law_1112 dL_law_1114 (by decide) dL_law_1115 dL_law_1116 4 0 rfl rfl rfl ?_
  show SV E Γ 8 _ _ _ _ 1117 (LVk k) [.int (gX E (6 * k + 1)), .ref 1]
  refine sv_callV hΓ (fun l => ct_X11_told l (gX E (6 * k + 1)) h.2.1.2.1) wv_L_128 vs_X11_told rfl m_1 rfl rfl (by decide) (by omega) (by omega) (Nat.le_of_ble_eq_true rfl) dL_law_1117 rfl (fun r M' nx' p1 => ?_)
  obtain ⟨v, rfl, rfl, rfl, hF⟩ := A_told h p1
  show SV E Γ 8 _ _ _ _ 1120 (LVk k) [.int v]
  refine sv_aload_n hΓ dL_law_1120 rfl 2 rfl rfl ?_
  refine sv_arg hΓ hSX 1 hk hL (by decide) dL_law_1121 dL_law_1122 dL_law_1124 (by decide) dL_law_1125 dL_law_1126 4 0 rfl rfl rfl ?_
  show SV E Γ 8 _ _ _ _ 1127 (LVk k) [.int (gX E (6 * k + 1)), .ref 43, .int v]
  refine sv_callV hΓ (fun l => ct_X12_told l (gX E (6 * k + 1))) wv_L_131 vs_X12_told rfl m_43 rfl rfl (by decide) (by omega) (by omega) (Nat.le_of_ble_eq_true rfl) dL_law_1127 rfl (fun r M' nx' p2 => ?_)
  obtain ⟨rfl, ci2, cl2, cr2, dy2, n2, rfl, h2⟩ := hF _ _ _ p2
  show SV E Γ 8 _ _ _ _ 1130 (LVk k) [.int v, .int v]
  refine sv_icmp_eq (tgt := 1595) hΓ dL_law_1130 (by decide) rfl (fun _ => ?_) (fun z => absurd rfl z)
  exact SV_w (by omega) (by omega) (K _ _ _ _ _ _ h2)
theorem law_out {E : aG} {Γ : aC} {nm : String} {ci : aI} {cl : aL} {cr : Nat → Nat → Option Nat} {dy : aM} {nx n ce sl k : Nat} (C : LC E Γ nm) (h : INV ci cl cr dy nx n) (hk : 6 * k + 6 ≤ gL E) (hce : ce + 3 ≤ 601024) (hsl : sl + 62 ≤ 7293034) (K : KK E Γ (ce + 3) (sl + 62) k) : SV E Γ 8 (mm ci cl cr dy) nx ce sl 1135 (LVk k) [] := by
  obtain ⟨hΓ, hSX, hL, hNW, hNX, hX, hXN, htr⟩ := C
  refine sv_aload_n hΓ dL_law_1135 rfl 3 rfl rfl ?_
  refine sv_arg hΓ hSX 1 hk hL (by decide) dL_law_1136 dL_law_1137 dL_law_1139 (by decide) dL_law_1140 dL_law_1141 4 0 rfl rfl rfl ?_
  refine sv_arg hΓ hSX 2 hk hL (by decide) dL_law_1142 dL_law_1143 dL_law_1145 (by decide) dL_law_1146 dL_law_1147 4 0 rfl rfl rfl ?_
  refine sv_aload_n hΓ dL_law_1148 rfl 1 rfl rfl ?_
  show SV E Γ 8 _ _ _ _ 1149 (LVk k) [.ref 73, .int (gX E (6 * k + 2)), .int (gX E (6 * k + 1)), .ref 1]
  refine sv_callSW hΓ (cw_L_out _ (gX E (6 * k + 1)) (gX E (6 * k + 2)) h.2.1.2.1 h.hpu hX hXN htr) ww_out rfl rfl (by decide) (by omega) (by omega) (Nat.le_of_ble_eq_true rfl) dL_law_1149 rfl (fun r M' nx' p1 => ?_)
  obtain ⟨v, l1, rfl, rfl, h1, hF⟩ := A_out h p1
  show SV E Γ 8 _ _ _ _ 1152 (LVk k) [.int v]
  refine sv_istore (lv' := (5, .int v) :: LVk k) hΓ dL_law_1152 (by decide) rfl rfl ?_
  refine sv_aload_n hΓ dL_law_1154 rfl 3 rfl rfl ?_
  refine sv_arg hΓ hSX 1 hk hL (by decide) dL_law_1155 dL_law_1156 dL_law_1158 (by decide) dL_law_1159 dL_law_1160 5 1 rfl rfl rfl ?_
  refine sv_arg hΓ hSX 2 hk hL (by decide) dL_law_1161 dL_law_1162 dL_law_1164 (by decide) dL_law_1165 dL_law_1166 5 1 rfl rfl rfl ?_
  show SV E Γ 8 _ _ _ _ 1167 ((5, .int v) :: LVk k) [.int (gX E (6 * k + 2)), .int (gX E (6 * k + 1)), .ref 43]
  refine sv_callV hΓ (fun l => ct_X12_out l (gX E (6 * k + 1)) (gX E (6 * k + 2)) (fun k hk => (h1.2.1.2.2.2.2.2.2.1 k hk).2)) wv_L_135 vs_X12_out rfl m_43 rfl rfl (by decide) (by omega) (by omega) (Nat.le_of_ble_eq_true rfl) dL_law_1167 rfl (fun r M' nx' p2 => ?_)
  obtain ⟨y, ci2, cl2, cr2, dy2, n2, rfl, rfl, h2, e0, e1⟩ := hF _ _ _ p2
  show SV E Γ 8 _ _ _ _ 1170 ((5, .int v) :: LVk k) [.long y]
  refine sv_lstore (lv' := (6, .long y) :: (5, .int v) :: LVk k) hΓ dL_law_1170 (by decide) rfl rfl ?_
  refine sv_aload_n hΓ dL_law_1172 rfl 4 rfl rfl ?_
  refine sv_callV hΓ (fun l => ct_X12_thrown l) wv_L_91 vs_X12_thrown rfl m_43 rfl rfl (by decide) (by omega) (by omega) (Nat.le_of_ble_eq_true rfl) dL_law_1173 rfl (fun r M' nx' p3 => ?_)
  obtain ⟨rfl, rfl, rfl⟩ := p3
  show SV E Γ 8 _ _ _ _ 1176 ((6, .long y) :: (5, .int v) :: LVk k) [.int (ci2 43 0)]
  refine sv_iload hΓ dL_law_1176 1 rfl rfl ?_
  refine sv_icmp_eq (tgt := 1183) hΓ dL_law_1178 (by decide) rfl (fun _ => ?_) (fun z => absurd e0 z)
  refine sv_iload hΓ dL_law_1183 1 rfl rfl ?_
  have K2 : SV E Γ 8 (mm ci2 cl2 cr2 dy2) _ (ce + 1 + 0 + 0) (sl + 6 + 0 + 0) 1199 ((6, .long y) :: (5, .int v) :: LVk k) [] := sv_goto (pc' := 1595) hΓ dL_law_1199 (by decide) (SV_lv [2, 3, 4, 5, 6] rfl (SV_w (by omega) (by omega) (K _ _ _ _ _ _ h2)))
  refine sv_if_ne (tgt := 1199) hΓ dL_law_1185 (by decide) rfl (fun _ => K2) (fun z => ?_)
  refine sv_aload_n hΓ dL_law_1188 rfl 3 rfl rfl ?_
  refine sv_iconst (v := 0) hΓ dL_law_1189 (by decide) rfl ?_
  refine al_73 hΓ 0 rfl (by decide) dL_law_1190 rfl ?_
  refine sv_lload hΓ dL_law_1191 0 rfl rfl ?_
  refine sv_lcmp hΓ dL_law_1193 rfl ?_
  exact sv_if_eq (tgt := 1199) hΓ dL_law_1194 (by decide) rfl (fun _ => K2) (fun q => absurd (lgc_eq.mpr (e1 z)) q)
theorem law_outs {E : aG} {Γ : aC} {nm : String} {ci : aI} {cl : aL} {cr : Nat → Nat → Option Nat} {dy : aM} {nx n ce sl k : Nat} (C : LC E Γ nm) (h : INV ci cl cr dy nx n) (hk : 6 * k + 6 ≤ gL E) (hce : ce + 3 ≤ 601024) (hsl : sl + 62 ≤ 7293034) (K : KK E Γ (ce + 3) (sl + 62) k) : SV E Γ 8 (mm ci cl cr dy) nx ce sl 1202 (LVk k) [] := by
  obtain ⟨hΓ, hSX, hL, hNW, hNX, hX, hXN, htr⟩ := C
  refine sv_aload_n hΓ dL_law_1202 rfl 3 rfl rfl ?_
  refine sv_arg hΓ hSX 1 hk hL (by decide) dL_law_1203 dL_law_1204 dL_law_1206 (by decide) dL_law_1207 dL_law_1208 4 0 rfl rfl rfl ?_
  show SV E Γ 8 _ _ _ _ 1209 (LVk k) [.int (gX E (6 * k + 1)), .ref 1]
  refine sv_callV hΓ (fun l => ct_X11_outs l (gX E (6 * k + 1)) h.2.1.2.1) wv_L_136 vs_X11_outs rfl m_1 rfl rfl (by decide) (by omega) (by omega) (Nat.le_of_ble_eq_true rfl) dL_law_1209 rfl (fun r M' nx' p1 => ?_)
  obtain ⟨v, rfl, rfl, rfl, hF⟩ := A_outs h p1
  show SV E Γ 8 _ _ _ _ 1212 (LVk k) [.int v]
  refine sv_aload_n hΓ dL_law_1212 rfl 2 rfl rfl ?_
  refine sv_arg hΓ hSX 1 hk hL (by decide) dL_law_1213 dL_law_1214 dL_law_1216 (by decide) dL_law_1217 dL_law_1218 4 0 rfl rfl rfl ?_
  show SV E Γ 8 _ _ _ _ 1219 (LVk k) [.int (gX E (6 * k + 1)), .ref 43, .int v]
  refine sv_callV hΓ (fun l => ct_X12_outs l (gX E (6 * k + 1))) wv_L_139 vs_X12_outs rfl m_43 rfl rfl (by decide) (by omega) (by omega) (Nat.le_of_ble_eq_true rfl) dL_law_1219 rfl (fun r M' nx' p2 => ?_)
  obtain ⟨rfl, ci2, cl2, cr2, dy2, n2, rfl, h2⟩ := hF _ _ _ p2
  show SV E Γ 8 _ _ _ _ 1222 (LVk k) [.int v, .int v]
  refine sv_icmp_eq (tgt := 1595) hΓ dL_law_1222 (by decide) rfl (fun _ => ?_) (fun z => absurd rfl z)
  exact SV_w (by omega) (by omega) (K _ _ _ _ _ _ h2)
theorem law_row {E : aG} {Γ : aC} {nm : String} {ci : aI} {cl : aL} {cr : Nat → Nat → Option Nat} {dy : aM} {nx n ce sl k : Nat} (C : LC E Γ nm) (h : INV ci cl cr dy nx n) (hk : 6 * k + 6 ≤ gL E) (hce : ce + 3 ≤ 601024) (hsl : sl + 62 ≤ 7293034) (K : KK E Γ (ce + 3) (sl + 62) k) : SV E Γ 8 (mm ci cl cr dy) nx ce sl 1227 (LVk k) [] := by
  obtain ⟨hΓ, hSX, hL, hNW, hNX, hX, hXN, htr⟩ := C
  refine sv_aload_n hΓ dL_law_1227 rfl 3 rfl rfl ?_
  refine sv_arg hΓ hSX 1 hk hL (by decide) dL_law_1228 dL_law_1229 dL_law_1231 (by decide) dL_law_1232 dL_law_1233 4 0 rfl rfl rfl ?_
  refine sv_aload_n hΓ dL_law_1234 rfl 1 rfl rfl ?_
  show SV E Γ 8 _ _ _ _ 1235 (LVk k) [.ref 73, .int (gX E (6 * k + 1)), .ref 1]
  refine sv_callSW hΓ (cw_L_row _ (gX E (6 * k + 1)) hX hXN htr) ww_row rfl rfl (by decide) (by omega) (by omega) (Nat.le_of_ble_eq_true rfl) dL_law_1235 rfl (fun r M' nx' p1 => ?_)
  obtain ⟨v, l1, rfl, rfl, h1, hF⟩ := A_row h p1
  show SV E Γ 8 _ _ _ _ 1238 (LVk k) [.int v]
  refine sv_istore (lv' := (5, .int v) :: LVk k) hΓ dL_law_1238 (by decide) rfl rfl ?_
  refine sv_aload_n hΓ dL_law_1240 rfl 3 rfl rfl ?_
  refine sv_arg hΓ hSX 1 hk hL (by decide) dL_law_1241 dL_law_1242 dL_law_1244 (by decide) dL_law_1245 dL_law_1246 5 1 rfl rfl rfl ?_
  show SV E Γ 8 _ _ _ _ 1247 ((5, .int v) :: LVk k) [.int (gX E (6 * k + 1)), .ref 43]
  refine sv_callV hΓ (fun l => ct_X12_row l (gX E (6 * k + 1))) wv_L_143 vs_X12_row rfl m_43 rfl rfl (by decide) (by omega) (by omega) (Nat.le_of_ble_eq_true rfl) dL_law_1247 rfl (fun r M' nx' p2 => ?_)
  obtain ⟨y, ci2, cl2, cr2, dy2, n2, rfl, rfl, h2, e0, e1⟩ := hF _ _ _ p2
  show SV E Γ 8 _ _ _ _ 1250 ((5, .int v) :: LVk k) [.long y]
  refine sv_lstore (lv' := (6, .long y) :: (5, .int v) :: LVk k) hΓ dL_law_1250 (by decide) rfl rfl ?_
  refine sv_aload_n hΓ dL_law_1252 rfl 4 rfl rfl ?_
  refine sv_callV hΓ (fun l => ct_X12_thrown l) wv_L_91 vs_X12_thrown rfl m_43 rfl rfl (by decide) (by omega) (by omega) (Nat.le_of_ble_eq_true rfl) dL_law_1253 rfl (fun r M' nx' p3 => ?_)
  obtain ⟨rfl, rfl, rfl⟩ := p3
  show SV E Γ 8 _ _ _ _ 1256 ((6, .long y) :: (5, .int v) :: LVk k) [.int (ci2 43 0)]
  refine sv_iload hΓ dL_law_1256 1 rfl rfl ?_
  refine sv_icmp_eq (tgt := 1263) hΓ dL_law_1258 (by decide) rfl (fun _ => ?_) (fun z => absurd e0 z)
  refine sv_iload hΓ dL_law_1263 1 rfl rfl ?_
  have K2 : SV E Γ 8 (mm ci2 cl2 cr2 dy2) _ (ce + 1 + 0 + 0) (sl + 6 + 0 + 0) 1279 ((6, .long y) :: (5, .int v) :: LVk k) [] := sv_goto (pc' := 1595) hΓ dL_law_1279 (by decide) (SV_lv [2, 3, 4, 5, 6] rfl (SV_w (by omega) (by omega) (K _ _ _ _ _ _ h2)))
  refine sv_if_ne (tgt := 1279) hΓ dL_law_1265 (by decide) rfl (fun _ => K2) (fun z => ?_)
  refine sv_aload_n hΓ dL_law_1268 rfl 3 rfl rfl ?_
  refine sv_iconst (v := 0) hΓ dL_law_1269 (by decide) rfl ?_
  refine al_73 hΓ 0 rfl (by decide) dL_law_1270 rfl ?_
  refine sv_lload hΓ dL_law_1271 0 rfl rfl ?_
  refine sv_lcmp hΓ dL_law_1273 rfl ?_
  exact sv_if_eq (tgt := 1279) hΓ dL_law_1274 (by decide) rfl (fun _ => K2) (fun q => absurd (lgc_eq.mpr (e1 z)) q)
