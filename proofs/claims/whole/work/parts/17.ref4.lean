set_option maxRecDepth 100000 in
set_option maxHeartbeats 4000000 in
/-- spanOf -/
theorem ct_X12_spanOf {E : aG} (l : Launch) (a : Nat) (w : Int64) {ci : Nat → Nat → Int32} {cl : Nat → Nat → Int64} {cr : Nat → Nat → Option Nat} {dy : aM} {nx : Nat} (ha : a < 16) (hw : WF ci a) : CT E l yX12_spanOf cX12_spanOf 15 none 1 [.ref 43, .int (nI a), .long w] (mm ci cl cr dy) nx 0 0 (fun r M' nx' => r = none ∧ ∃ cl' : Nat → Nat → Int64, M' = mm ci cl' cr dy ∧ cl' 43 29 = spLo ci (cl 48) (cl 61) (cl 62) a w ∧ cl' 43 30 = spHi ci (cl 48) (cl 61) (cl 62) a w ∧ (∀ k, ¬ k = 43 → cl' k = cl k) ∧ nx = nx') := by
  refine CT_intro (by decide) (Nat.le_of_ble_eq_true rfl) (fun Γ hΓ hQ => ?_)
  replace hΓ : CK E RX12 cX12_spanOf 15 none "spanOf" 1 0 0 Γ := hΓ
  show SV E Γ 15 (mm ci cl cr dy) nx 0 0 0 [(0, .ref 43), (1, .int (nI a)), (2, .long w)] []
  refine sv_aload_n hΓ dX12_spanOf_0 rfl 0 rfl rfl ?_
  refine g_X12_16_43 hΓ dX12_spanOf_1 rfl ?_
  refine sv_iconst (v := 3) hΓ dX12_spanOf_4 (by decide) rfl ?_
  refine sv_iload_n hΓ dX12_spanOf_5 rfl 1 rfl rfl ?_
  refine sv_imulE (v := nI (3 * a)) hΓ dX12_spanOf_6 (nx_mul rfl rfl) rfl ?_
  refine ai_46 hΓ (3 * a) rfl (by omega) dX12_spanOf_7 rfl ?_
  refine sv_istore (lv' := [(4, .int (ci 46 (3 * a))), (0, .ref 43), (1, .int (nI a)), (2, .long w)]) hΓ dX12_spanOf_8 (by decide) rfl rfl ?_
  refine sv_aload_n hΓ dX12_spanOf_10 rfl 1 rfl rfl ?_
  refine g_X12_16_43 hΓ dX12_spanOf_11 rfl ?_
  refine sv_iconst (v := 3) hΓ dX12_spanOf_14 (by decide) rfl ?_
  refine sv_iload_n hΓ dX12_spanOf_15 rfl 2 rfl rfl ?_
  refine sv_imulE (v := nI (3 * a)) hΓ dX12_spanOf_16 (nx_mul rfl rfl) rfl ?_
  refine sv_iconst (v := 1) hΓ dX12_spanOf_17 (by decide) rfl ?_
  refine sv_iaddE (v := nI (3 * a + 1)) hΓ dX12_spanOf_18 (nx_add rfl rfl) rfl ?_
  refine ai_46 hΓ (3 * a + 1) rfl (by omega) dX12_spanOf_19 rfl ?_
  refine sv_istore (lv' := [(5, .int (ci 46 (3 * a + 1))), (4, .int (ci 46 (3 * a))), (0, .ref 43), (1, .int (nI a)), (2, .long w)]) hΓ dX12_spanOf_20 (by decide) rfl rfl ?_
  refine sv_aload_n hΓ dX12_spanOf_22 rfl 2 rfl rfl ?_
  refine g_X12_16_43 hΓ dX12_spanOf_23 rfl ?_
  refine sv_iconst (v := 3) hΓ dX12_spanOf_26 (by decide) rfl ?_
  refine sv_iload_n hΓ dX12_spanOf_27 rfl 3 rfl rfl ?_
  refine sv_imulE (v := nI (3 * a)) hΓ dX12_spanOf_28 (nx_mul rfl rfl) rfl ?_
  refine sv_iconst (v := 2) hΓ dX12_spanOf_29 (by decide) rfl ?_
  refine sv_iaddE (v := nI (3 * a + 2)) hΓ dX12_spanOf_30 (nx_add rfl rfl) rfl ?_
  refine ai_46 hΓ (3 * a + 2) rfl (by omega) dX12_spanOf_31 rfl ?_
  refine sv_istore (lv' := [(6, .int (ci 46 (3 * a + 2))), (5, .int (ci 46 (3 * a + 1))), (4, .int (ci 46 (3 * a))), (0, .ref 43), (1, .int (nI a)), (2, .long w)]) hΓ dX12_spanOf_32 (by decide) rfl rfl ?_
  refine sv_aload_n hΓ dX12_spanOf_34 rfl 3 rfl rfl ?_
  refine g_X12_7_43 hΓ dX12_spanOf_35 rfl ?_
  refine sv_iload_n hΓ dX12_spanOf_38 rfl 4 rfl rfl ?_
  refine ai_44 hΓ (a) rfl (by omega) dX12_spanOf_39 rfl ?_
  refine sv_table (x := ci 44 a) (lo := 0) (hi := 10) 10 rfl (fun u1 => ?_) (fun k hk u1 => ?_)
  · refine sv_tableOut (pc' := 647) hΓ dX12_spanOf_40 u1 (by decide) ?_
    refine sv_aload_n hΓ dX12_spanOf_647 rfl 3 rfl rfl ?_
    refine sv_lload_n hΓ dX12_spanOf_648 rfl 5 rfl rfl ?_
    refine sv_lneg hΓ dX12_spanOf_649 rfl ?_
    refine p_X12_150_43 hΓ dX12_spanOf_650 rfl ?_
    refine sv_aload_n hΓ dX12_spanOf_653 rfl 3 rfl rfl ?_
    refine sv_lload_n hΓ dX12_spanOf_654 rfl 5 rfl rfl ?_
    refine sv_lconst (v := 1) hΓ dX12_spanOf_655 (by decide) rfl ?_
    refine sv_lsub hΓ dX12_spanOf_656 rfl ?_
    refine p_X12_154_43 hΓ dX12_spanOf_657 rfl ?_
    exact sv_vret hΓ hQ dX12_spanOf_660 (Nat.le_of_ble_eq_true rfl) (Nat.le_of_ble_eq_true rfl) ⟨rfl, _, rfl, by simp [up2, va_up, spLo, out_ne u1 0 (by decide), out_ne u1 1 (by decide), out_ne u1 2 (by decide), out_ne u1 3 (by decide), out_ne u1 4 (by decide), out_ne u1 5 (by decide), out_ne u1 6 (by decide), out_ne u1 7 (by decide), out_ne u1 8 (by decide), out_ne u1 9 (by decide), out_ne u1 10 (by decide)] <;> grind, by simp [up2, va_up, spHi, out_ne u1 0 (by decide), out_ne u1 1 (by decide), out_ne u1 2 (by decide), out_ne u1 3 (by decide), out_ne u1 4 (by decide), out_ne u1 5 (by decide), out_ne u1 6 (by decide), out_ne u1 7 (by decide), out_ne u1 8 (by decide), out_ne u1 9 (by decide), out_ne u1 10 (by decide)] <;> grind, fun k hk => by simp [up2, hk], rfl⟩
  · obtain rfl | rfl | rfl | rfl | rfl | rfl | rfl | rfl | rfl | rfl | rfl : k = 0 ∨ k = 1 ∨ k = 2 ∨ k = 3 ∨ k = 4 ∨ k = 5 ∨ k = 6 ∨ k = 7 ∨ k = 8 ∨ k = 9 ∨ k = 10 := by omega
    · refine sv_tableIn (off := 60) (pc' := 100) hΓ dX12_spanOf_40 (by omega) (by omega) (by rw [u1]; rfl) (by decide) ?_
      replace u1 : ci 44 a = (0 : Int32) := Int32.toInt_inj.mp (u1.trans (by decide))
      refine sv_aload_n hΓ dX12_spanOf_100 rfl 3 rfl rfl ?_
      refine sv_aload_n hΓ dX12_spanOf_101 rfl 3 rfl rfl ?_
      refine g_X12_22_43 hΓ dX12_spanOf_102 rfl ?_
      refine sv_iload_n hΓ dX12_spanOf_105 rfl 4 rfl rfl ?_
      refine al_48 hΓ (a) rfl (by omega) dX12_spanOf_106 rfl ?_
      refine p_X12_150_43 hΓ dX12_spanOf_107 rfl ?_
      refine sv_aload_n hΓ dX12_spanOf_110 rfl 3 rfl rfl ?_
      refine sv_aload_n hΓ dX12_spanOf_111 rfl 3 rfl rfl ?_
      refine g_X12_22_43 hΓ dX12_spanOf_112 rfl ?_
      refine sv_iload_n hΓ dX12_spanOf_115 rfl 4 rfl rfl ?_
      refine al_48 hΓ (a) rfl (by omega) dX12_spanOf_116 rfl ?_
      refine p_X12_154_43 hΓ dX12_spanOf_117 rfl ?_
      refine sv_goto (pc' := 660) hΓ dX12_spanOf_120 (by decide) ?_
      exact sv_vret hΓ hQ dX12_spanOf_660 (Nat.le_of_ble_eq_true rfl) (Nat.le_of_ble_eq_true rfl) ⟨rfl, _, rfl, by simp [up2, va_up, spLo, u1] <;> grind, by simp [up2, va_up, spHi, u1] <;> grind, fun k hk => by simp [up2, hk], rfl⟩
    · refine sv_tableIn (off := 607) (pc' := 647) hΓ dX12_spanOf_40 (by omega) (by omega) (by rw [u1]; rfl) (by decide) ?_
      replace u1 : ci 44 a = (1 : Int32) := Int32.toInt_inj.mp (u1.trans (by decide))
      refine sv_aload_n hΓ dX12_spanOf_647 rfl 3 rfl rfl ?_
      refine sv_lload_n hΓ dX12_spanOf_648 rfl 5 rfl rfl ?_
      refine sv_lneg hΓ dX12_spanOf_649 rfl ?_
      refine p_X12_150_43 hΓ dX12_spanOf_650 rfl ?_
      refine sv_aload_n hΓ dX12_spanOf_653 rfl 3 rfl rfl ?_
      refine sv_lload_n hΓ dX12_spanOf_654 rfl 5 rfl rfl ?_
      refine sv_lconst (v := 1) hΓ dX12_spanOf_655 (by decide) rfl ?_
      refine sv_lsub hΓ dX12_spanOf_656 rfl ?_
      refine p_X12_154_43 hΓ dX12_spanOf_657 rfl ?_
      exact sv_vret hΓ hQ dX12_spanOf_660 (Nat.le_of_ble_eq_true rfl) (Nat.le_of_ble_eq_true rfl) ⟨rfl, _, rfl, by simp [up2, va_up, spLo, u1] <;> grind, by simp [up2, va_up, spHi, u1] <;> grind, fun k hk => by simp [up2, hk], rfl⟩
    · refine sv_tableIn (off := 83) (pc' := 123) hΓ dX12_spanOf_40 (by omega) (by omega) (by rw [u1]; rfl) (by decide) ?_
      replace u1 : ci 44 a = (2 : Int32) := Int32.toInt_inj.mp (u1.trans (by decide))
      obtain ⟨x, hx6, hx⟩ := hw.x (by rw [u1]; decide) (by rw [u1]; decide)
      obtain ⟨y, hy6, hy⟩ := hw.y (by rw [u1]; decide)
      refine sv_aload_n hΓ dX12_spanOf_123 rfl 3 rfl rfl ?_
      refine sv_aload_n hΓ dX12_spanOf_124 rfl 3 rfl rfl ?_
      refine g_X12_63_43 hΓ dX12_spanOf_125 rfl ?_
      refine sv_iload hΓ dX12_spanOf_128 2 rfl rfl ?_
      refine al_61 hΓ (x) hx (by omega) dX12_spanOf_130 rfl ?_
      refine sv_aload_n hΓ dX12_spanOf_131 rfl 3 rfl rfl ?_
      refine g_X12_63_43 hΓ dX12_spanOf_132 rfl ?_
      refine sv_iload hΓ dX12_spanOf_135 1 rfl rfl ?_
      refine al_61 hΓ (y) hy (by omega) dX12_spanOf_137 rfl ?_
      refine sv_ladd hΓ dX12_spanOf_138 rfl ?_
      refine p_X12_150_43 hΓ dX12_spanOf_139 rfl ?_
      refine sv_aload_n hΓ dX12_spanOf_142 rfl 3 rfl rfl ?_
      refine sv_aload_n hΓ dX12_spanOf_143 rfl 3 rfl rfl ?_
      refine g_X12_66_43 hΓ dX12_spanOf_144 rfl ?_
      refine sv_iload hΓ dX12_spanOf_147 2 rfl rfl ?_
      refine al_62 hΓ (x) hx (by omega) dX12_spanOf_149 rfl ?_
      refine sv_aload_n hΓ dX12_spanOf_150 rfl 3 rfl rfl ?_
      refine g_X12_66_43 hΓ dX12_spanOf_151 rfl ?_
      refine sv_iload hΓ dX12_spanOf_154 1 rfl rfl ?_
      refine al_62 hΓ (y) hy (by omega) dX12_spanOf_156 rfl ?_
      refine sv_ladd hΓ dX12_spanOf_157 rfl ?_
      refine p_X12_154_43 hΓ dX12_spanOf_158 rfl ?_
      refine sv_goto (pc' := 660) hΓ dX12_spanOf_161 (by decide) ?_
      exact sv_vret hΓ hQ dX12_spanOf_660 (Nat.le_of_ble_eq_true rfl) (Nat.le_of_ble_eq_true rfl) ⟨rfl, _, rfl, by simp [up2, va_up, spLo, u1, hx, nI_clamp (show x < 2 ^ 31 by omega), hy, nI_clamp (show y < 2 ^ 31 by omega)] <;> grind, by simp [up2, va_up, spHi, u1, hx, nI_clamp (show x < 2 ^ 31 by omega), hy, nI_clamp (show y < 2 ^ 31 by omega)] <;> grind, fun k hk => by simp [up2, hk], rfl⟩
    · refine sv_tableIn (off := 124) (pc' := 164) hΓ dX12_spanOf_40 (by omega) (by omega) (by rw [u1]; rfl) (by decide) ?_
      replace u1 : ci 44 a = (3 : Int32) := Int32.toInt_inj.mp (u1.trans (by decide))
      obtain ⟨x, hx6, hx⟩ := hw.x (by rw [u1]; decide) (by rw [u1]; decide)
      obtain ⟨y, hy6, hy⟩ := hw.y (by rw [u1]; decide)
      refine sv_aload_n hΓ dX12_spanOf_164 rfl 3 rfl rfl ?_
      refine sv_aload_n hΓ dX12_spanOf_165 rfl 3 rfl rfl ?_
      refine g_X12_63_43 hΓ dX12_spanOf_166 rfl ?_
      refine sv_iload hΓ dX12_spanOf_169 2 rfl rfl ?_
      refine al_61 hΓ (x) hx (by omega) dX12_spanOf_171 rfl ?_
      refine sv_aload_n hΓ dX12_spanOf_172 rfl 3 rfl rfl ?_
      refine g_X12_66_43 hΓ dX12_spanOf_173 rfl ?_
      refine sv_iload hΓ dX12_spanOf_176 1 rfl rfl ?_
      refine al_62 hΓ (y) hy (by omega) dX12_spanOf_178 rfl ?_
      refine sv_lsub hΓ dX12_spanOf_179 rfl ?_
      refine p_X12_150_43 hΓ dX12_spanOf_180 rfl ?_
      refine sv_aload_n hΓ dX12_spanOf_183 rfl 3 rfl rfl ?_
      refine sv_aload_n hΓ dX12_spanOf_184 rfl 3 rfl rfl ?_
      refine g_X12_66_43 hΓ dX12_spanOf_185 rfl ?_
      refine sv_iload hΓ dX12_spanOf_188 2 rfl rfl ?_
      refine al_62 hΓ (x) hx (by omega) dX12_spanOf_190 rfl ?_
      refine sv_aload_n hΓ dX12_spanOf_191 rfl 3 rfl rfl ?_
      refine g_X12_63_43 hΓ dX12_spanOf_192 rfl ?_
      refine sv_iload hΓ dX12_spanOf_195 1 rfl rfl ?_
      refine al_61 hΓ (y) hy (by omega) dX12_spanOf_197 rfl ?_
      refine sv_lsub hΓ dX12_spanOf_198 rfl ?_
      refine p_X12_154_43 hΓ dX12_spanOf_199 rfl ?_
      refine sv_goto (pc' := 660) hΓ dX12_spanOf_202 (by decide) ?_
      exact sv_vret hΓ hQ dX12_spanOf_660 (Nat.le_of_ble_eq_true rfl) (Nat.le_of_ble_eq_true rfl) ⟨rfl, _, rfl, by simp [up2, va_up, spLo, u1, hx, nI_clamp (show x < 2 ^ 31 by omega), hy, nI_clamp (show y < 2 ^ 31 by omega)] <;> grind, by simp [up2, va_up, spHi, u1, hx, nI_clamp (show x < 2 ^ 31 by omega), hy, nI_clamp (show y < 2 ^ 31 by omega)] <;> grind, fun k hk => by simp [up2, hk], rfl⟩
    · refine sv_tableIn (off := 165) (pc' := 205) hΓ dX12_spanOf_40 (by omega) (by omega) (by rw [u1]; rfl) (by decide) ?_
      replace u1 : ci 44 a = (4 : Int32) := Int32.toInt_inj.mp (u1.trans (by decide))
      obtain ⟨x, hx6, hx⟩ := hw.x (by rw [u1]; decide) (by rw [u1]; decide)
      obtain ⟨y, hy6, hy⟩ := hw.y (by rw [u1]; decide)
      refine sv_aload_n hΓ dX12_spanOf_205 rfl 3 rfl rfl ?_
      refine g_X12_63_43 hΓ dX12_spanOf_206 rfl ?_
      refine sv_iload hΓ dX12_spanOf_209 2 rfl rfl ?_
      refine al_61 hΓ (x) hx (by omega) dX12_spanOf_211 rfl ?_
      refine sv_aload_n hΓ dX12_spanOf_212 rfl 3 rfl rfl ?_
      refine g_X12_63_43 hΓ dX12_spanOf_213 rfl ?_
      refine sv_iload hΓ dX12_spanOf_216 1 rfl rfl ?_
      refine al_61 hΓ (y) hy (by omega) dX12_spanOf_218 rfl ?_
      refine sv_lmul hΓ dX12_spanOf_219 rfl ?_
      refine sv_lstore (lv' := [(7, .long ((cl 61 x) * (cl 61 y))), (6, .int (ci 46 (3 * a + 2))), (5, .int (ci 46 (3 * a + 1))), (4, .int (ci 46 (3 * a))), (0, .ref 43), (1, .int (nI a)), (2, .long w)]) hΓ dX12_spanOf_220 (by decide) rfl rfl ?_
      refine sv_aload_n hΓ dX12_spanOf_222 rfl 4 rfl rfl ?_
      refine g_X12_63_43 hΓ dX12_spanOf_223 rfl ?_
      refine sv_iload hΓ dX12_spanOf_226 3 rfl rfl ?_
      refine al_61 hΓ (x) hx (by omega) dX12_spanOf_228 rfl ?_
      refine sv_aload_n hΓ dX12_spanOf_229 rfl 4 rfl rfl ?_
      refine g_X12_66_43 hΓ dX12_spanOf_230 rfl ?_
      refine sv_iload hΓ dX12_spanOf_233 2 rfl rfl ?_
      refine al_62 hΓ (y) hy (by omega) dX12_spanOf_235 rfl ?_
      refine sv_lmul hΓ dX12_spanOf_236 rfl ?_
      refine sv_lstore (lv' := [(9, .long ((cl 61 x) * (cl 62 y))), (7, .long ((cl 61 x) * (cl 61 y))), (6, .int (ci 46 (3 * a + 2))), (5, .int (ci 46 (3 * a + 1))), (4, .int (ci 46 (3 * a))), (0, .ref 43), (1, .int (nI a)), (2, .long w)]) hΓ dX12_spanOf_237 (by decide) rfl rfl ?_
      refine sv_aload_n hΓ dX12_spanOf_239 rfl 5 rfl rfl ?_
      refine g_X12_66_43 hΓ dX12_spanOf_240 rfl ?_
      refine sv_iload hΓ dX12_spanOf_243 4 rfl rfl ?_
      refine al_62 hΓ (x) hx (by omega) dX12_spanOf_245 rfl ?_
      refine sv_aload_n hΓ dX12_spanOf_246 rfl 5 rfl rfl ?_
      refine g_X12_63_43 hΓ dX12_spanOf_247 rfl ?_
      refine sv_iload hΓ dX12_spanOf_250 3 rfl rfl ?_
      refine al_61 hΓ (y) hy (by omega) dX12_spanOf_252 rfl ?_
      refine sv_lmul hΓ dX12_spanOf_253 rfl ?_
      refine sv_lstore (lv' := [(11, .long ((cl 62 x) * (cl 61 y))), (9, .long ((cl 61 x) * (cl 62 y))), (7, .long ((cl 61 x) * (cl 61 y))), (6, .int (ci 46 (3 * a + 2))), (5, .int (ci 46 (3 * a + 1))), (4, .int (ci 46 (3 * a))), (0, .ref 43), (1, .int (nI a)), (2, .long w)]) hΓ dX12_spanOf_254 (by decide) rfl rfl ?_
      refine sv_aload_n hΓ dX12_spanOf_256 rfl 6 rfl rfl ?_
      refine g_X12_66_43 hΓ dX12_spanOf_257 rfl ?_
      refine sv_iload hΓ dX12_spanOf_260 5 rfl rfl ?_
      refine al_62 hΓ (x) hx (by omega) dX12_spanOf_262 rfl ?_
      refine sv_aload_n hΓ dX12_spanOf_263 rfl 6 rfl rfl ?_
      refine g_X12_66_43 hΓ dX12_spanOf_264 rfl ?_
      refine sv_iload hΓ dX12_spanOf_267 4 rfl rfl ?_
      refine al_62 hΓ (y) hy (by omega) dX12_spanOf_269 rfl ?_
      refine sv_lmul hΓ dX12_spanOf_270 rfl ?_
      refine sv_lstore (lv' := [(13, .long ((cl 62 x) * (cl 62 y))), (11, .long ((cl 62 x) * (cl 61 y))), (9, .long ((cl 61 x) * (cl 62 y))), (7, .long ((cl 61 x) * (cl 61 y))), (6, .int (ci 46 (3 * a + 2))), (5, .int (ci 46 (3 * a + 1))), (4, .int (ci 46 (3 * a))), (0, .ref 43), (1, .int (nI a)), (2, .long w)]) hΓ dX12_spanOf_271 (by decide) rfl rfl ?_
      refine sv_aload_n hΓ dX12_spanOf_273 rfl 7 rfl rfl ?_
      refine sv_lload hΓ dX12_spanOf_274 3 rfl rfl ?_
      refine sv_lload hΓ dX12_spanOf_276 2 rfl rfl ?_
      refine sv_callS hΓ (fun l => ct_X12_lesser l ((cl 61 x) * (cl 61 y)) ((cl 61 x) * (cl 62 y)) ) wv_X12_157 tb_1160 rfl rfl (by decide) (Nat.le_of_ble_eq_true rfl) (Nat.le_of_ble_eq_true rfl) (Nat.le_of_ble_eq_true rfl) dX12_spanOf_278 rfl (fun r M' nx' p2 => ?_)
      obtain ⟨rfl, rfl, rfl⟩ := p2
      show SV E Γ 15 (mm ci cl cr dy) nx 0 0 281 [(13, .long ((cl 62 x) * (cl 62 y))), (11, .long ((cl 62 x) * (cl 61 y))), (9, .long ((cl 61 x) * (cl 62 y))), (7, .long ((cl 61 x) * (cl 61 y))), (6, .int (ci 46 (3 * a + 2))), (5, .int (ci 46 (3 * a + 1))), (4, .int (ci 46 (3 * a))), (0, .ref 43), (1, .int (nI a)), (2, .long w)] [.long (if ((cl 61 x) * (cl 62 y)) ≤ ((cl 61 x) * (cl 61 y)) then ((cl 61 x) * (cl 62 y)) else ((cl 61 x) * (cl 61 y))), .ref 43]
      refine sv_lload hΓ dX12_spanOf_281 1 rfl rfl ?_
      refine sv_lload hΓ dX12_spanOf_283 0 rfl rfl ?_
      refine sv_callS hΓ (fun l => ct_X12_lesser l ((cl 62 x) * (cl 61 y)) ((cl 62 x) * (cl 62 y)) ) wv_X12_157 tb_1160 rfl rfl (by decide) (Nat.le_of_ble_eq_true rfl) (Nat.le_of_ble_eq_true rfl) (Nat.le_of_ble_eq_true rfl) dX12_spanOf_285 rfl (fun r M' nx' p3 => ?_)
      obtain ⟨rfl, rfl, rfl⟩ := p3
      show SV E Γ 15 (mm ci cl cr dy) nx 0 0 288 [(13, .long ((cl 62 x) * (cl 62 y))), (11, .long ((cl 62 x) * (cl 61 y))), (9, .long ((cl 61 x) * (cl 62 y))), (7, .long ((cl 61 x) * (cl 61 y))), (6, .int (ci 46 (3 * a + 2))), (5, .int (ci 46 (3 * a + 1))), (4, .int (ci 46 (3 * a))), (0, .ref 43), (1, .int (nI a)), (2, .long w)] [.long (if ((cl 62 x) * (cl 62 y)) ≤ ((cl 62 x) * (cl 61 y)) then ((cl 62 x) * (cl 62 y)) else ((cl 62 x) * (cl 61 y))), .long (if ((cl 61 x) * (cl 62 y)) ≤ ((cl 61 x) * (cl 61 y)) then ((cl 61 x) * (cl 62 y)) else ((cl 61 x) * (cl 61 y))), .ref 43]
      refine sv_callS hΓ (fun l => ct_X12_lesser l (if ((cl 61 x) * (cl 62 y)) ≤ ((cl 61 x) * (cl 61 y)) then ((cl 61 x) * (cl 62 y)) else ((cl 61 x) * (cl 61 y))) (if ((cl 62 x) * (cl 62 y)) ≤ ((cl 62 x) * (cl 61 y)) then ((cl 62 x) * (cl 62 y)) else ((cl 62 x) * (cl 61 y))) ) wv_X12_157 tb_1160 rfl rfl (by decide) (Nat.le_of_ble_eq_true rfl) (Nat.le_of_ble_eq_true rfl) (Nat.le_of_ble_eq_true rfl) dX12_spanOf_288 rfl (fun r M' nx' p4 => ?_)
      obtain ⟨rfl, rfl, rfl⟩ := p4
      show SV E Γ 15 (mm ci cl cr dy) nx 0 0 291 [(13, .long ((cl 62 x) * (cl 62 y))), (11, .long ((cl 62 x) * (cl 61 y))), (9, .long ((cl 61 x) * (cl 62 y))), (7, .long ((cl 61 x) * (cl 61 y))), (6, .int (ci 46 (3 * a + 2))), (5, .int (ci 46 (3 * a + 1))), (4, .int (ci 46 (3 * a))), (0, .ref 43), (1, .int (nI a)), (2, .long w)] [.long (if (if ((cl 62 x) * (cl 62 y)) ≤ ((cl 62 x) * (cl 61 y)) then ((cl 62 x) * (cl 62 y)) else ((cl 62 x) * (cl 61 y))) ≤ (if ((cl 61 x) * (cl 62 y)) ≤ ((cl 61 x) * (cl 61 y)) then ((cl 61 x) * (cl 62 y)) else ((cl 61 x) * (cl 61 y))) then (if ((cl 62 x) * (cl 62 y)) ≤ ((cl 62 x) * (cl 61 y)) then ((cl 62 x) * (cl 62 y)) else ((cl 62 x) * (cl 61 y))) else (if ((cl 61 x) * (cl 62 y)) ≤ ((cl 61 x) * (cl 61 y)) then ((cl 61 x) * (cl 62 y)) else ((cl 61 x) * (cl 61 y)))), .ref 43]
      refine p_X12_150_43 hΓ dX12_spanOf_291 rfl ?_
      refine sv_aload_n hΓ dX12_spanOf_294 rfl 7 rfl rfl ?_
      refine sv_lload hΓ dX12_spanOf_295 3 rfl rfl ?_
      refine sv_lload hΓ dX12_spanOf_297 2 rfl rfl ?_
      refine sv_callS hΓ (fun l => ct_X12_greater l ((cl 61 x) * (cl 61 y)) ((cl 61 x) * (cl 62 y)) ) wv_X12_161 tb_1163 rfl rfl (by decide) (Nat.le_of_ble_eq_true rfl) (Nat.le_of_ble_eq_true rfl) (Nat.le_of_ble_eq_true rfl) dX12_spanOf_299 rfl (fun r M' nx' p5 => ?_)
      obtain ⟨rfl, rfl, rfl⟩ := p5
      show SV E Γ 15 (mm ci (up2 cl 43 29 (if (if ((cl 62 x) * (cl 62 y)) ≤ ((cl 62 x) * (cl 61 y)) then ((cl 62 x) * (cl 62 y)) else ((cl 62 x) * (cl 61 y))) ≤ (if ((cl 61 x) * (cl 62 y)) ≤ ((cl 61 x) * (cl 61 y)) then ((cl 61 x) * (cl 62 y)) else ((cl 61 x) * (cl 61 y))) then (if ((cl 62 x) * (cl 62 y)) ≤ ((cl 62 x) * (cl 61 y)) then ((cl 62 x) * (cl 62 y)) else ((cl 62 x) * (cl 61 y))) else (if ((cl 61 x) * (cl 62 y)) ≤ ((cl 61 x) * (cl 61 y)) then ((cl 61 x) * (cl 62 y)) else ((cl 61 x) * (cl 61 y))))) cr dy) nx 0 0 302 [(13, .long ((cl 62 x) * (cl 62 y))), (11, .long ((cl 62 x) * (cl 61 y))), (9, .long ((cl 61 x) * (cl 62 y))), (7, .long ((cl 61 x) * (cl 61 y))), (6, .int (ci 46 (3 * a + 2))), (5, .int (ci 46 (3 * a + 1))), (4, .int (ci 46 (3 * a))), (0, .ref 43), (1, .int (nI a)), (2, .long w)] [.long (if ((cl 61 x) * (cl 61 y)) ≤ ((cl 61 x) * (cl 62 y)) then ((cl 61 x) * (cl 62 y)) else ((cl 61 x) * (cl 61 y))), .ref 43]
      refine sv_lload hΓ dX12_spanOf_302 1 rfl rfl ?_
      refine sv_lload hΓ dX12_spanOf_304 0 rfl rfl ?_
      refine sv_callS hΓ (fun l => ct_X12_greater l ((cl 62 x) * (cl 61 y)) ((cl 62 x) * (cl 62 y)) ) wv_X12_161 tb_1163 rfl rfl (by decide) (Nat.le_of_ble_eq_true rfl) (Nat.le_of_ble_eq_true rfl) (Nat.le_of_ble_eq_true rfl) dX12_spanOf_306 rfl (fun r M' nx' p6 => ?_)
      obtain ⟨rfl, rfl, rfl⟩ := p6
      show SV E Γ 15 (mm ci (up2 cl 43 29 (if (if ((cl 62 x) * (cl 62 y)) ≤ ((cl 62 x) * (cl 61 y)) then ((cl 62 x) * (cl 62 y)) else ((cl 62 x) * (cl 61 y))) ≤ (if ((cl 61 x) * (cl 62 y)) ≤ ((cl 61 x) * (cl 61 y)) then ((cl 61 x) * (cl 62 y)) else ((cl 61 x) * (cl 61 y))) then (if ((cl 62 x) * (cl 62 y)) ≤ ((cl 62 x) * (cl 61 y)) then ((cl 62 x) * (cl 62 y)) else ((cl 62 x) * (cl 61 y))) else (if ((cl 61 x) * (cl 62 y)) ≤ ((cl 61 x) * (cl 61 y)) then ((cl 61 x) * (cl 62 y)) else ((cl 61 x) * (cl 61 y))))) cr dy) nx 0 0 309 [(13, .long ((cl 62 x) * (cl 62 y))), (11, .long ((cl 62 x) * (cl 61 y))), (9, .long ((cl 61 x) * (cl 62 y))), (7, .long ((cl 61 x) * (cl 61 y))), (6, .int (ci 46 (3 * a + 2))), (5, .int (ci 46 (3 * a + 1))), (4, .int (ci 46 (3 * a))), (0, .ref 43), (1, .int (nI a)), (2, .long w)] [.long (if ((cl 62 x) * (cl 61 y)) ≤ ((cl 62 x) * (cl 62 y)) then ((cl 62 x) * (cl 62 y)) else ((cl 62 x) * (cl 61 y))), .long (if ((cl 61 x) * (cl 61 y)) ≤ ((cl 61 x) * (cl 62 y)) then ((cl 61 x) * (cl 62 y)) else ((cl 61 x) * (cl 61 y))), .ref 43]
      refine sv_callS hΓ (fun l => ct_X12_greater l (if ((cl 61 x) * (cl 61 y)) ≤ ((cl 61 x) * (cl 62 y)) then ((cl 61 x) * (cl 62 y)) else ((cl 61 x) * (cl 61 y))) (if ((cl 62 x) * (cl 61 y)) ≤ ((cl 62 x) * (cl 62 y)) then ((cl 62 x) * (cl 62 y)) else ((cl 62 x) * (cl 61 y))) ) wv_X12_161 tb_1163 rfl rfl (by decide) (Nat.le_of_ble_eq_true rfl) (Nat.le_of_ble_eq_true rfl) (Nat.le_of_ble_eq_true rfl) dX12_spanOf_309 rfl (fun r M' nx' p7 => ?_)
      obtain ⟨rfl, rfl, rfl⟩ := p7
      show SV E Γ 15 (mm ci (up2 cl 43 29 (if (if ((cl 62 x) * (cl 62 y)) ≤ ((cl 62 x) * (cl 61 y)) then ((cl 62 x) * (cl 62 y)) else ((cl 62 x) * (cl 61 y))) ≤ (if ((cl 61 x) * (cl 62 y)) ≤ ((cl 61 x) * (cl 61 y)) then ((cl 61 x) * (cl 62 y)) else ((cl 61 x) * (cl 61 y))) then (if ((cl 62 x) * (cl 62 y)) ≤ ((cl 62 x) * (cl 61 y)) then ((cl 62 x) * (cl 62 y)) else ((cl 62 x) * (cl 61 y))) else (if ((cl 61 x) * (cl 62 y)) ≤ ((cl 61 x) * (cl 61 y)) then ((cl 61 x) * (cl 62 y)) else ((cl 61 x) * (cl 61 y))))) cr dy) nx 0 0 312 [(13, .long ((cl 62 x) * (cl 62 y))), (11, .long ((cl 62 x) * (cl 61 y))), (9, .long ((cl 61 x) * (cl 62 y))), (7, .long ((cl 61 x) * (cl 61 y))), (6, .int (ci 46 (3 * a + 2))), (5, .int (ci 46 (3 * a + 1))), (4, .int (ci 46 (3 * a))), (0, .ref 43), (1, .int (nI a)), (2, .long w)] [.long (if (if ((cl 61 x) * (cl 61 y)) ≤ ((cl 61 x) * (cl 62 y)) then ((cl 61 x) * (cl 62 y)) else ((cl 61 x) * (cl 61 y))) ≤ (if ((cl 62 x) * (cl 61 y)) ≤ ((cl 62 x) * (cl 62 y)) then ((cl 62 x) * (cl 62 y)) else ((cl 62 x) * (cl 61 y))) then (if ((cl 62 x) * (cl 61 y)) ≤ ((cl 62 x) * (cl 62 y)) then ((cl 62 x) * (cl 62 y)) else ((cl 62 x) * (cl 61 y))) else (if ((cl 61 x) * (cl 61 y)) ≤ ((cl 61 x) * (cl 62 y)) then ((cl 61 x) * (cl 62 y)) else ((cl 61 x) * (cl 61 y)))), .ref 43]
      refine p_X12_154_43 hΓ dX12_spanOf_312 rfl ?_
      refine sv_goto (pc' := 660) hΓ dX12_spanOf_315 (by decide) ?_
      exact sv_vret hΓ hQ dX12_spanOf_660 (Nat.le_of_ble_eq_true rfl) (Nat.le_of_ble_eq_true rfl) ⟨rfl, _, rfl, by simp [up2, va_up, spLo, u1, hx, nI_clamp (show x < 2 ^ 31 by omega), hy, nI_clamp (show y < 2 ^ 31 by omega)] <;> grind, by simp [up2, va_up, spHi, u1, hx, nI_clamp (show x < 2 ^ 31 by omega), hy, nI_clamp (show y < 2 ^ 31 by omega)] <;> grind, fun k hk => by simp [up2, hk], rfl⟩
    · refine sv_tableIn (off := 278) (pc' := 318) hΓ dX12_spanOf_40 (by omega) (by omega) (by rw [u1]; rfl) (by decide) ?_
      replace u1 : ci 44 a = (5 : Int32) := Int32.toInt_inj.mp (u1.trans (by decide))
      obtain ⟨x, hx6, hx⟩ := hw.x (by rw [u1]; decide) (by rw [u1]; decide)
      obtain ⟨y, hy6, hy⟩ := hw.y (by rw [u1]; decide)
      refine sv_aload_n hΓ dX12_spanOf_318 rfl 3 rfl rfl ?_
      refine sv_aload_n hΓ dX12_spanOf_319 rfl 3 rfl rfl ?_
      refine g_X12_63_43 hΓ dX12_spanOf_320 rfl ?_
      refine sv_iload hΓ dX12_spanOf_323 2 rfl rfl ?_
      refine al_61 hΓ (x) hx (by omega) dX12_spanOf_325 rfl ?_
      refine sv_aload_n hΓ dX12_spanOf_326 rfl 3 rfl rfl ?_
      refine g_X12_63_43 hΓ dX12_spanOf_327 rfl ?_
      refine sv_iload hΓ dX12_spanOf_330 2 rfl rfl ?_
      refine al_61 hΓ (x) hx (by omega) dX12_spanOf_332 rfl ?_
      refine sv_lneg hΓ dX12_spanOf_333 rfl ?_
      refine sv_callS hΓ (fun l => ct_X12_greater l (cl 61 x) (-(cl 61 x)) ) wv_X12_161 tb_1163 rfl rfl (by decide) (Nat.le_of_ble_eq_true rfl) (Nat.le_of_ble_eq_true rfl) (Nat.le_of_ble_eq_true rfl) dX12_spanOf_334 rfl (fun r M' nx' p8 => ?_)
      obtain ⟨rfl, rfl, rfl⟩ := p8
      show SV E Γ 15 (mm ci cl cr dy) nx 0 0 337 [(6, .int (ci 46 (3 * a + 2))), (5, .int (ci 46 (3 * a + 1))), (4, .int (ci 46 (3 * a))), (0, .ref 43), (1, .int (nI a)), (2, .long w)] [.long (if (cl 61 x) ≤ (-(cl 61 x)) then (-(cl 61 x)) else (cl 61 x)), .ref 43]
      refine sv_aload_n hΓ dX12_spanOf_337 rfl 3 rfl rfl ?_
      refine g_X12_66_43 hΓ dX12_spanOf_338 rfl ?_
      refine sv_iload hΓ dX12_spanOf_341 2 rfl rfl ?_
      refine al_62 hΓ (x) hx (by omega) dX12_spanOf_343 rfl ?_
      refine sv_aload_n hΓ dX12_spanOf_344 rfl 3 rfl rfl ?_
      refine g_X12_66_43 hΓ dX12_spanOf_345 rfl ?_
      refine sv_iload hΓ dX12_spanOf_348 2 rfl rfl ?_
      refine al_62 hΓ (x) hx (by omega) dX12_spanOf_350 rfl ?_
      refine sv_lneg hΓ dX12_spanOf_351 rfl ?_
      refine sv_callS hΓ (fun l => ct_X12_greater l (cl 62 x) (-(cl 62 x)) ) wv_X12_161 tb_1163 rfl rfl (by decide) (Nat.le_of_ble_eq_true rfl) (Nat.le_of_ble_eq_true rfl) (Nat.le_of_ble_eq_true rfl) dX12_spanOf_352 rfl (fun r M' nx' p9 => ?_)
      obtain ⟨rfl, rfl, rfl⟩ := p9
      show SV E Γ 15 (mm ci cl cr dy) nx 0 0 355 [(6, .int (ci 46 (3 * a + 2))), (5, .int (ci 46 (3 * a + 1))), (4, .int (ci 46 (3 * a))), (0, .ref 43), (1, .int (nI a)), (2, .long w)] [.long (if (cl 62 x) ≤ (-(cl 62 x)) then (-(cl 62 x)) else (cl 62 x)), .long (if (cl 61 x) ≤ (-(cl 61 x)) then (-(cl 61 x)) else (cl 61 x)), .ref 43]
      refine sv_callS hΓ (fun l => ct_X12_greater l (if (cl 61 x) ≤ (-(cl 61 x)) then (-(cl 61 x)) else (cl 61 x)) (if (cl 62 x) ≤ (-(cl 62 x)) then (-(cl 62 x)) else (cl 62 x)) ) wv_X12_161 tb_1163 rfl rfl (by decide) (Nat.le_of_ble_eq_true rfl) (Nat.le_of_ble_eq_true rfl) (Nat.le_of_ble_eq_true rfl) dX12_spanOf_355 rfl (fun r M' nx' p10 => ?_)
      obtain ⟨rfl, rfl, rfl⟩ := p10
      show SV E Γ 15 (mm ci cl cr dy) nx 0 0 358 [(6, .int (ci 46 (3 * a + 2))), (5, .int (ci 46 (3 * a + 1))), (4, .int (ci 46 (3 * a))), (0, .ref 43), (1, .int (nI a)), (2, .long w)] [.long (if (if (cl 61 x) ≤ (-(cl 61 x)) then (-(cl 61 x)) else (cl 61 x)) ≤ (if (cl 62 x) ≤ (-(cl 62 x)) then (-(cl 62 x)) else (cl 62 x)) then (if (cl 62 x) ≤ (-(cl 62 x)) then (-(cl 62 x)) else (cl 62 x)) else (if (cl 61 x) ≤ (-(cl 61 x)) then (-(cl 61 x)) else (cl 61 x))), .ref 43]
      refine p_X12_154_43 hΓ dX12_spanOf_358 rfl ?_
      refine sv_aload_n hΓ dX12_spanOf_361 rfl 3 rfl rfl ?_
      refine sv_aload_n hΓ dX12_spanOf_362 rfl 3 rfl rfl ?_
      refine g_X12_154_43 hΓ dX12_spanOf_363 rfl ?_
      refine sv_lneg hΓ dX12_spanOf_366 rfl ?_
      refine p_X12_150_43 hΓ dX12_spanOf_367 rfl ?_
      refine sv_goto (pc' := 660) hΓ dX12_spanOf_370 (by decide) ?_
      exact sv_vret hΓ hQ dX12_spanOf_660 (Nat.le_of_ble_eq_true rfl) (Nat.le_of_ble_eq_true rfl) ⟨rfl, _, rfl, by simp [up2, va_up, spLo, u1, hx, nI_clamp (show x < 2 ^ 31 by omega), hy, nI_clamp (show y < 2 ^ 31 by omega)] <;> grind, by simp [up2, va_up, spHi, u1, hx, nI_clamp (show x < 2 ^ 31 by omega), hy, nI_clamp (show y < 2 ^ 31 by omega)] <;> grind, fun k hk => by simp [up2, hk], rfl⟩
    · refine sv_tableIn (off := 333) (pc' := 373) hΓ dX12_spanOf_40 (by omega) (by omega) (by rw [u1]; rfl) (by decide) ?_
      replace u1 : ci 44 a = (6 : Int32) := Int32.toInt_inj.mp (u1.trans (by decide))
      obtain ⟨x, hx6, hx⟩ := hw.x (by rw [u1]; decide) (by rw [u1]; decide)
      obtain ⟨y, hy6, hy⟩ := hw.y (by rw [u1]; decide)
      refine sv_aload_n hΓ dX12_spanOf_373 rfl 3 rfl rfl ?_
      refine sv_aload_n hΓ dX12_spanOf_374 rfl 3 rfl rfl ?_
      refine g_X12_66_43 hΓ dX12_spanOf_375 rfl ?_
      refine sv_iload hΓ dX12_spanOf_378 2 rfl rfl ?_
      refine al_62 hΓ (x) hx (by omega) dX12_spanOf_380 rfl ?_
      refine sv_aload_n hΓ dX12_spanOf_381 rfl 3 rfl rfl ?_
      refine g_X12_63_43 hΓ dX12_spanOf_382 rfl ?_
      refine sv_iload hΓ dX12_spanOf_385 1 rfl rfl ?_
      refine al_61 hΓ (y) hy (by omega) dX12_spanOf_387 rfl ?_
      refine sv_lcmp hΓ dX12_spanOf_388 rfl ?_
      refine sv_if_ge (tgt := 396) hΓ dX12_spanOf_389 (by decide) rfl (fun u11 => ?_) (fun u11 => ?_)
      · replace u11 := lgc_ge.mp u11
        refine sv_lconst (v := 0) hΓ dX12_spanOf_396 (by decide) rfl ?_
        refine p_X12_150_43 hΓ dX12_spanOf_397 rfl ?_
        refine sv_aload_n hΓ dX12_spanOf_400 rfl 3 rfl rfl ?_
        refine sv_aload_n hΓ dX12_spanOf_401 rfl 3 rfl rfl ?_
        refine g_X12_63_43 hΓ dX12_spanOf_402 rfl ?_
        refine sv_iload hΓ dX12_spanOf_405 2 rfl rfl ?_
        refine al_61 hΓ (x) hx (by omega) dX12_spanOf_407 rfl ?_
        refine sv_aload_n hΓ dX12_spanOf_408 rfl 3 rfl rfl ?_
        refine g_X12_66_43 hΓ dX12_spanOf_409 rfl ?_
        refine sv_iload hΓ dX12_spanOf_412 1 rfl rfl ?_
        refine al_62 hΓ (y) hy (by omega) dX12_spanOf_414 rfl ?_
        refine sv_lcmp hΓ dX12_spanOf_415 rfl ?_
        refine sv_if_lt (tgt := 423) hΓ dX12_spanOf_416 (by decide) rfl (fun u12 => ?_) (fun u12 => ?_)
        · replace u12 := lgc_lt.mp u12
          replace u12 : ((cl 61 x) : Int64) < (cl 62 y) := u12
          refine sv_lconst (v := 1) hΓ dX12_spanOf_423 (by decide) rfl ?_
          refine p_X12_154_43 hΓ dX12_spanOf_424 rfl ?_
          refine sv_goto (pc' := 660) hΓ dX12_spanOf_427 (by decide) ?_
          exact sv_vret hΓ hQ dX12_spanOf_660 (Nat.le_of_ble_eq_true rfl) (Nat.le_of_ble_eq_true rfl) ⟨rfl, _, rfl, by simp [up2, va_up, spLo, u1, hx, nI_clamp (show x < 2 ^ 31 by omega), hy, nI_clamp (show y < 2 ^ 31 by omega), u11, u12] <;> grind, by simp [up2, va_up, spHi, u1, hx, nI_clamp (show x < 2 ^ 31 by omega), hy, nI_clamp (show y < 2 ^ 31 by omega), u11, u12] <;> grind, fun k hk => by simp [up2, hk], rfl⟩
        · replace u12 := mt lgc_lt.mpr u12
          replace u12 : ¬ (((cl 61 x) : Int64) < (cl 62 y)) := u12
          refine sv_lconst (v := 0) hΓ dX12_spanOf_419 (by decide) rfl ?_
          refine sv_goto (pc' := 424) hΓ dX12_spanOf_420 (by decide) ?_
          refine p_X12_154_43 hΓ dX12_spanOf_424 rfl ?_
          refine sv_goto (pc' := 660) hΓ dX12_spanOf_427 (by decide) ?_
          exact sv_vret hΓ hQ dX12_spanOf_660 (Nat.le_of_ble_eq_true rfl) (Nat.le_of_ble_eq_true rfl) ⟨rfl, _, rfl, by simp [up2, va_up, spLo, u1, hx, nI_clamp (show x < 2 ^ 31 by omega), hy, nI_clamp (show y < 2 ^ 31 by omega), u11, u12] <;> grind, by simp [up2, va_up, spHi, u1, hx, nI_clamp (show x < 2 ^ 31 by omega), hy, nI_clamp (show y < 2 ^ 31 by omega), u11, u12] <;> grind, fun k hk => by simp [up2, hk], rfl⟩
      · replace u11 := mt lgc_ge.mpr u11
        refine sv_lconst (v := 1) hΓ dX12_spanOf_392 (by decide) rfl ?_
        refine sv_goto (pc' := 397) hΓ dX12_spanOf_393 (by decide) ?_
        refine p_X12_150_43 hΓ dX12_spanOf_397 rfl ?_
        refine sv_aload_n hΓ dX12_spanOf_400 rfl 3 rfl rfl ?_
        refine sv_aload_n hΓ dX12_spanOf_401 rfl 3 rfl rfl ?_
        refine g_X12_63_43 hΓ dX12_spanOf_402 rfl ?_
        refine sv_iload hΓ dX12_spanOf_405 2 rfl rfl ?_
        refine al_61 hΓ (x) hx (by omega) dX12_spanOf_407 rfl ?_
        refine sv_aload_n hΓ dX12_spanOf_408 rfl 3 rfl rfl ?_
        refine g_X12_66_43 hΓ dX12_spanOf_409 rfl ?_
        refine sv_iload hΓ dX12_spanOf_412 1 rfl rfl ?_
        refine al_62 hΓ (y) hy (by omega) dX12_spanOf_414 rfl ?_
        refine sv_lcmp hΓ dX12_spanOf_415 rfl ?_
        refine sv_if_lt (tgt := 423) hΓ dX12_spanOf_416 (by decide) rfl (fun u13 => ?_) (fun u13 => ?_)
        · replace u13 := lgc_lt.mp u13
          replace u13 : ((cl 61 x) : Int64) < (cl 62 y) := u13
          refine sv_lconst (v := 1) hΓ dX12_spanOf_423 (by decide) rfl ?_
          refine p_X12_154_43 hΓ dX12_spanOf_424 rfl ?_
          refine sv_goto (pc' := 660) hΓ dX12_spanOf_427 (by decide) ?_
          exact sv_vret hΓ hQ dX12_spanOf_660 (Nat.le_of_ble_eq_true rfl) (Nat.le_of_ble_eq_true rfl) ⟨rfl, _, rfl, by simp [up2, va_up, spLo, u1, hx, nI_clamp (show x < 2 ^ 31 by omega), hy, nI_clamp (show y < 2 ^ 31 by omega), u11, u13] <;> grind, by simp [up2, va_up, spHi, u1, hx, nI_clamp (show x < 2 ^ 31 by omega), hy, nI_clamp (show y < 2 ^ 31 by omega), u11, u13] <;> grind, fun k hk => by simp [up2, hk], rfl⟩
        · replace u13 := mt lgc_lt.mpr u13
          replace u13 : ¬ (((cl 61 x) : Int64) < (cl 62 y)) := u13
          refine sv_lconst (v := 0) hΓ dX12_spanOf_419 (by decide) rfl ?_
          refine sv_goto (pc' := 424) hΓ dX12_spanOf_420 (by decide) ?_
          refine p_X12_154_43 hΓ dX12_spanOf_424 rfl ?_
          refine sv_goto (pc' := 660) hΓ dX12_spanOf_427 (by decide) ?_
          exact sv_vret hΓ hQ dX12_spanOf_660 (Nat.le_of_ble_eq_true rfl) (Nat.le_of_ble_eq_true rfl) ⟨rfl, _, rfl, by simp [up2, va_up, spLo, u1, hx, nI_clamp (show x < 2 ^ 31 by omega), hy, nI_clamp (show y < 2 ^ 31 by omega), u11, u13] <;> grind, by simp [up2, va_up, spHi, u1, hx, nI_clamp (show x < 2 ^ 31 by omega), hy, nI_clamp (show y < 2 ^ 31 by omega), u11, u13] <;> grind, fun k hk => by simp [up2, hk], rfl⟩
    · refine sv_tableIn (off := 390) (pc' := 430) hΓ dX12_spanOf_40 (by omega) (by omega) (by rw [u1]; rfl) (by decide) ?_
      replace u1 : ci 44 a = (7 : Int32) := Int32.toInt_inj.mp (u1.trans (by decide))
      obtain ⟨x, hx6, hx⟩ := hw.x (by rw [u1]; decide) (by rw [u1]; decide)
      obtain ⟨y, hy6, hy⟩ := hw.y (by rw [u1]; decide)
      obtain ⟨z, hz6, hz⟩ := hw.z u1
      refine sv_aload_n hΓ dX12_spanOf_430 rfl 3 rfl rfl ?_
      refine g_X12_63_43 hΓ dX12_spanOf_431 rfl ?_
      refine sv_iload hΓ dX12_spanOf_434 2 rfl rfl ?_
      refine al_61 hΓ (x) hx (by omega) dX12_spanOf_436 rfl ?_
      refine sv_lconst (v := 0) hΓ dX12_spanOf_437 (by decide) rfl ?_
      refine sv_lcmp hΓ dX12_spanOf_438 rfl ?_
      refine sv_if_ne (tgt := 458) hΓ dX12_spanOf_439 (by decide) rfl (fun u14 => ?_) (fun u14 => ?_)
      · replace u14 := lgc_ne.mp u14
        refine sv_iconst (v := 0) hΓ dX12_spanOf_458 (by decide) rfl ?_
        refine sv_istore (lv' := [(7, .int 0), (6, .int (ci 46 (3 * a + 2))), (5, .int (ci 46 (3 * a + 1))), (4, .int (ci 46 (3 * a))), (0, .ref 43), (1, .int (nI a)), (2, .long w)]) hΓ dX12_spanOf_459 (by decide) rfl rfl ?_
        refine sv_aload_n hΓ dX12_spanOf_461 rfl 4 rfl rfl ?_
        refine g_X12_63_43 hΓ dX12_spanOf_462 rfl ?_
        refine sv_iload hΓ dX12_spanOf_465 3 rfl rfl ?_
        refine al_61 hΓ (x) hx (by omega) dX12_spanOf_467 rfl ?_
        refine sv_lconst (v := 0) hΓ dX12_spanOf_468 (by decide) rfl ?_
        refine sv_lcmp hΓ dX12_spanOf_469 rfl ?_
        refine sv_if_gt (tgt := 485) hΓ dX12_spanOf_470 (by decide) rfl (fun u15 => ?_) (fun u15 => ?_)
        · replace u15 := lgc_gt.mp u15
          refine sv_iconst (v := 1) hΓ dX12_spanOf_485 (by decide) rfl ?_
          refine sv_goto (pc' := 490) hΓ dX12_spanOf_486 (by decide) ?_
          refine sv_istore (lv' := [(8, .int 1), (7, .int 0), (6, .int (ci 46 (3 * a + 2))), (5, .int (ci 46 (3 * a + 1))), (4, .int (ci 46 (3 * a))), (0, .ref 43), (1, .int (nI a)), (2, .long w)]) hΓ dX12_spanOf_490 (by decide) rfl rfl ?_
          refine sv_aload_n hΓ dX12_spanOf_492 rfl 5 rfl rfl ?_
          refine sv_iload hΓ dX12_spanOf_493 1 rfl rfl ?_
          refine sv_if_eq (tgt := 508) hΓ dX12_spanOf_495 (by decide) rfl (fun u16 => ?_) (fun u16 => absurd (by decide) u16)
          refine sv_iload hΓ dX12_spanOf_508 0 rfl rfl ?_
          refine sv_if_eq (tgt := 523) hΓ dX12_spanOf_510 (by decide) rfl (fun u17 => absurd u17 (by decide)) (fun u17 => ?_)
          refine sv_aload_n hΓ dX12_spanOf_513 rfl 5 rfl rfl ?_
          refine g_X12_63_43 hΓ dX12_spanOf_514 rfl ?_
          refine sv_iload hΓ dX12_spanOf_517 3 rfl rfl ?_
          refine al_61 hΓ (y) hy (by omega) dX12_spanOf_519 rfl ?_
          refine sv_goto (pc' := 540) hΓ dX12_spanOf_520 (by decide) ?_
          refine p_X12_150_43 hΓ dX12_spanOf_540 rfl ?_
          refine sv_aload_n hΓ dX12_spanOf_543 rfl 5 rfl rfl ?_
          refine sv_iload hΓ dX12_spanOf_544 1 rfl rfl ?_
          refine sv_if_eq (tgt := 559) hΓ dX12_spanOf_546 (by decide) rfl (fun u18 => ?_) (fun u18 => absurd (by decide) u18)
          replace u18 : (0 : Int32) = 0 := u18
          refine sv_iload hΓ dX12_spanOf_559 0 rfl rfl ?_
          refine sv_if_eq (tgt := 574) hΓ dX12_spanOf_561 (by decide) rfl (fun u19 => absurd u19 (by decide)) (fun u19 => ?_)
          replace u19 : ¬ ((1 : Int32) = 0) := u19
          refine sv_aload_n hΓ dX12_spanOf_564 rfl 5 rfl rfl ?_
          refine g_X12_66_43 hΓ dX12_spanOf_565 rfl ?_
          refine sv_iload hΓ dX12_spanOf_568 3 rfl rfl ?_
          refine al_62 hΓ (y) hy (by omega) dX12_spanOf_570 rfl ?_
          refine sv_goto (pc' := 591) hΓ dX12_spanOf_571 (by decide) ?_
          refine p_X12_154_43 hΓ dX12_spanOf_591 rfl ?_
          refine sv_goto (pc' := 660) hΓ dX12_spanOf_594 (by decide) ?_
          exact sv_vret hΓ hQ dX12_spanOf_660 (Nat.le_of_ble_eq_true rfl) (Nat.le_of_ble_eq_true rfl) ⟨rfl, _, rfl, by simp [up2, va_up, spLo, u1, hx, nI_clamp (show x < 2 ^ 31 by omega), hy, nI_clamp (show y < 2 ^ 31 by omega), hz, nI_clamp (show z < 2 ^ 31 by omega), u14, u15] <;> grind, by simp [up2, va_up, spHi, u1, hx, nI_clamp (show x < 2 ^ 31 by omega), hy, nI_clamp (show y < 2 ^ 31 by omega), hz, nI_clamp (show z < 2 ^ 31 by omega), u14, u15] <;> grind, fun k hk => by simp [up2, hk], rfl⟩
        · replace u15 := mt lgc_gt.mpr u15
          refine sv_aload_n hΓ dX12_spanOf_473 rfl 4 rfl rfl ?_
          refine g_X12_66_43 hΓ dX12_spanOf_474 rfl ?_
          refine sv_iload hΓ dX12_spanOf_477 3 rfl rfl ?_
          refine al_62 hΓ (x) hx (by omega) dX12_spanOf_479 rfl ?_
          refine sv_lconst (v := 0) hΓ dX12_spanOf_480 (by decide) rfl ?_
          refine sv_lcmp hΓ dX12_spanOf_481 rfl ?_
          refine sv_if_ge (tgt := 489) hΓ dX12_spanOf_482 (by decide) rfl (fun u20 => ?_) (fun u20 => ?_)
          · replace u20 := lgc_ge.mp u20
            refine sv_iconst (v := 0) hΓ dX12_spanOf_489 (by decide) rfl ?_
            refine sv_istore (lv' := [(8, .int 0), (7, .int 0), (6, .int (ci 46 (3 * a + 2))), (5, .int (ci 46 (3 * a + 1))), (4, .int (ci 46 (3 * a))), (0, .ref 43), (1, .int (nI a)), (2, .long w)]) hΓ dX12_spanOf_490 (by decide) rfl rfl ?_
            refine sv_aload_n hΓ dX12_spanOf_492 rfl 5 rfl rfl ?_
            refine sv_iload hΓ dX12_spanOf_493 1 rfl rfl ?_
            refine sv_if_eq (tgt := 508) hΓ dX12_spanOf_495 (by decide) rfl (fun u21 => ?_) (fun u21 => absurd (by decide) u21)
            refine sv_iload hΓ dX12_spanOf_508 0 rfl rfl ?_
            refine sv_if_eq (tgt := 523) hΓ dX12_spanOf_510 (by decide) rfl (fun u22 => ?_) (fun u22 => absurd (by decide) u22)
            refine sv_aload_n hΓ dX12_spanOf_523 rfl 5 rfl rfl ?_
            refine g_X12_63_43 hΓ dX12_spanOf_524 rfl ?_
            refine sv_iload hΓ dX12_spanOf_527 3 rfl rfl ?_
            refine al_61 hΓ (y) hy (by omega) dX12_spanOf_529 rfl ?_
            refine sv_aload_n hΓ dX12_spanOf_530 rfl 5 rfl rfl ?_
            refine g_X12_63_43 hΓ dX12_spanOf_531 rfl ?_
            refine sv_iload hΓ dX12_spanOf_534 2 rfl rfl ?_
            refine al_61 hΓ (z) hz (by omega) dX12_spanOf_536 rfl ?_
            refine sv_callS hΓ (fun l => ct_X12_lesser l (cl 61 y) (cl 61 z) ) wv_X12_157 tb_1160 rfl rfl (by decide) (Nat.le_of_ble_eq_true rfl) (Nat.le_of_ble_eq_true rfl) (Nat.le_of_ble_eq_true rfl) dX12_spanOf_537 rfl (fun r M' nx' p23 => ?_)
            obtain ⟨rfl, rfl, rfl⟩ := p23
            show SV E Γ 15 (mm ci cl cr dy) nx 0 0 540 [(8, .int 0), (7, .int 0), (6, .int (ci 46 (3 * a + 2))), (5, .int (ci 46 (3 * a + 1))), (4, .int (ci 46 (3 * a))), (0, .ref 43), (1, .int (nI a)), (2, .long w)] [.long (if (cl 61 z) ≤ (cl 61 y) then (cl 61 z) else (cl 61 y)), .ref 43]
            refine p_X12_150_43 hΓ dX12_spanOf_540 rfl ?_
            refine sv_aload_n hΓ dX12_spanOf_543 rfl 5 rfl rfl ?_
            refine sv_iload hΓ dX12_spanOf_544 1 rfl rfl ?_
            refine sv_if_eq (tgt := 559) hΓ dX12_spanOf_546 (by decide) rfl (fun u24 => ?_) (fun u24 => absurd (by decide) u24)
            replace u24 : (0 : Int32) = 0 := u24
            refine sv_iload hΓ dX12_spanOf_559 0 rfl rfl ?_
            refine sv_if_eq (tgt := 574) hΓ dX12_spanOf_561 (by decide) rfl (fun u25 => ?_) (fun u25 => absurd (by decide) u25)
            replace u25 : (0 : Int32) = 0 := u25
            refine sv_aload_n hΓ dX12_spanOf_574 rfl 5 rfl rfl ?_
            refine g_X12_66_43 hΓ dX12_spanOf_575 rfl ?_
            refine sv_iload hΓ dX12_spanOf_578 3 rfl rfl ?_
            refine al_62 hΓ (y) hy (by omega) dX12_spanOf_580 rfl ?_
            refine sv_aload_n hΓ dX12_spanOf_581 rfl 5 rfl rfl ?_
            refine g_X12_66_43 hΓ dX12_spanOf_582 rfl ?_
            refine sv_iload hΓ dX12_spanOf_585 2 rfl rfl ?_
            refine al_62 hΓ (z) hz (by omega) dX12_spanOf_587 rfl ?_
            refine sv_callS hΓ (fun l => ct_X12_greater l (cl 62 y) (cl 62 z) ) wv_X12_161 tb_1163 rfl rfl (by decide) (Nat.le_of_ble_eq_true rfl) (Nat.le_of_ble_eq_true rfl) (Nat.le_of_ble_eq_true rfl) dX12_spanOf_588 rfl (fun r M' nx' p26 => ?_)
            obtain ⟨rfl, rfl, rfl⟩ := p26
            show SV E Γ 15 (mm ci (up2 cl 43 29 (if (cl 61 z) ≤ (cl 61 y) then (cl 61 z) else (cl 61 y))) cr dy) nx 0 0 591 [(8, .int 0), (7, .int 0), (6, .int (ci 46 (3 * a + 2))), (5, .int (ci 46 (3 * a + 1))), (4, .int (ci 46 (3 * a))), (0, .ref 43), (1, .int (nI a)), (2, .long w)] [.long (if (cl 62 y) ≤ (cl 62 z) then (cl 62 z) else (cl 62 y)), .ref 43]
            refine p_X12_154_43 hΓ dX12_spanOf_591 rfl ?_
            refine sv_goto (pc' := 660) hΓ dX12_spanOf_594 (by decide) ?_
            exact sv_vret hΓ hQ dX12_spanOf_660 (Nat.le_of_ble_eq_true rfl) (Nat.le_of_ble_eq_true rfl) ⟨rfl, _, rfl, by simp [up2, va_up, spLo, u1, hx, nI_clamp (show x < 2 ^ 31 by omega), hy, nI_clamp (show y < 2 ^ 31 by omega), hz, nI_clamp (show z < 2 ^ 31 by omega), u14, u15, u20] <;> grind, by simp [up2, va_up, spHi, u1, hx, nI_clamp (show x < 2 ^ 31 by omega), hy, nI_clamp (show y < 2 ^ 31 by omega), hz, nI_clamp (show z < 2 ^ 31 by omega), u14, u15, u20] <;> grind, fun k hk => by simp [up2, hk], rfl⟩
          · replace u20 := mt lgc_ge.mpr u20
            refine sv_iconst (v := 1) hΓ dX12_spanOf_485 (by decide) rfl ?_
            refine sv_goto (pc' := 490) hΓ dX12_spanOf_486 (by decide) ?_
            refine sv_istore (lv' := [(8, .int 1), (7, .int 0), (6, .int (ci 46 (3 * a + 2))), (5, .int (ci 46 (3 * a + 1))), (4, .int (ci 46 (3 * a))), (0, .ref 43), (1, .int (nI a)), (2, .long w)]) hΓ dX12_spanOf_490 (by decide) rfl rfl ?_
            refine sv_aload_n hΓ dX12_spanOf_492 rfl 5 rfl rfl ?_
            refine sv_iload hΓ dX12_spanOf_493 1 rfl rfl ?_
            refine sv_if_eq (tgt := 508) hΓ dX12_spanOf_495 (by decide) rfl (fun u27 => ?_) (fun u27 => absurd (by decide) u27)
            refine sv_iload hΓ dX12_spanOf_508 0 rfl rfl ?_
            refine sv_if_eq (tgt := 523) hΓ dX12_spanOf_510 (by decide) rfl (fun u28 => absurd u28 (by decide)) (fun u28 => ?_)
            refine sv_aload_n hΓ dX12_spanOf_513 rfl 5 rfl rfl ?_
            refine g_X12_63_43 hΓ dX12_spanOf_514 rfl ?_
            refine sv_iload hΓ dX12_spanOf_517 3 rfl rfl ?_
            refine al_61 hΓ (y) hy (by omega) dX12_spanOf_519 rfl ?_
            refine sv_goto (pc' := 540) hΓ dX12_spanOf_520 (by decide) ?_
            refine p_X12_150_43 hΓ dX12_spanOf_540 rfl ?_
            refine sv_aload_n hΓ dX12_spanOf_543 rfl 5 rfl rfl ?_
            refine sv_iload hΓ dX12_spanOf_544 1 rfl rfl ?_
            refine sv_if_eq (tgt := 559) hΓ dX12_spanOf_546 (by decide) rfl (fun u29 => ?_) (fun u29 => absurd (by decide) u29)
            replace u29 : (0 : Int32) = 0 := u29
            refine sv_iload hΓ dX12_spanOf_559 0 rfl rfl ?_
            refine sv_if_eq (tgt := 574) hΓ dX12_spanOf_561 (by decide) rfl (fun u30 => absurd u30 (by decide)) (fun u30 => ?_)
            replace u30 : ¬ ((1 : Int32) = 0) := u30
            refine sv_aload_n hΓ dX12_spanOf_564 rfl 5 rfl rfl ?_
            refine g_X12_66_43 hΓ dX12_spanOf_565 rfl ?_
            refine sv_iload hΓ dX12_spanOf_568 3 rfl rfl ?_
            refine al_62 hΓ (y) hy (by omega) dX12_spanOf_570 rfl ?_
            refine sv_goto (pc' := 591) hΓ dX12_spanOf_571 (by decide) ?_
            refine p_X12_154_43 hΓ dX12_spanOf_591 rfl ?_
            refine sv_goto (pc' := 660) hΓ dX12_spanOf_594 (by decide) ?_
            exact sv_vret hΓ hQ dX12_spanOf_660 (Nat.le_of_ble_eq_true rfl) (Nat.le_of_ble_eq_true rfl) ⟨rfl, _, rfl, by simp [up2, va_up, spLo, u1, hx, nI_clamp (show x < 2 ^ 31 by omega), hy, nI_clamp (show y < 2 ^ 31 by omega), hz, nI_clamp (show z < 2 ^ 31 by omega), u14, u15, u20] <;> grind, by simp [up2, va_up, spHi, u1, hx, nI_clamp (show x < 2 ^ 31 by omega), hy, nI_clamp (show y < 2 ^ 31 by omega), hz, nI_clamp (show z < 2 ^ 31 by omega), u14, u15, u20] <;> grind, fun k hk => by simp [up2, hk], rfl⟩
      · replace u14 := lgc_eq.mp u14
        refine sv_aload_n hΓ dX12_spanOf_442 rfl 3 rfl rfl ?_
        refine g_X12_66_43 hΓ dX12_spanOf_443 rfl ?_
        refine sv_iload hΓ dX12_spanOf_446 2 rfl rfl ?_
        refine al_62 hΓ (x) hx (by omega) dX12_spanOf_448 rfl ?_
        refine sv_lconst (v := 0) hΓ dX12_spanOf_449 (by decide) rfl ?_
        refine sv_lcmp hΓ dX12_spanOf_450 rfl ?_
        refine sv_if_ne (tgt := 458) hΓ dX12_spanOf_451 (by decide) rfl (fun u31 => ?_) (fun u31 => ?_)
        · replace u31 := lgc_ne.mp u31
          refine sv_iconst (v := 0) hΓ dX12_spanOf_458 (by decide) rfl ?_
          refine sv_istore (lv' := [(7, .int 0), (6, .int (ci 46 (3 * a + 2))), (5, .int (ci 46 (3 * a + 1))), (4, .int (ci 46 (3 * a))), (0, .ref 43), (1, .int (nI a)), (2, .long w)]) hΓ dX12_spanOf_459 (by decide) rfl rfl ?_
          refine sv_aload_n hΓ dX12_spanOf_461 rfl 4 rfl rfl ?_
          refine g_X12_63_43 hΓ dX12_spanOf_462 rfl ?_
          refine sv_iload hΓ dX12_spanOf_465 3 rfl rfl ?_
          refine al_61 hΓ (x) hx (by omega) dX12_spanOf_467 rfl ?_
          refine sv_lconst (v := 0) hΓ dX12_spanOf_468 (by decide) rfl ?_
          refine sv_lcmp hΓ dX12_spanOf_469 rfl ?_
          refine sv_if_gt (tgt := 485) hΓ dX12_spanOf_470 (by decide) rfl (fun u32 => ?_) (fun u32 => ?_)
          · replace u32 := lgc_gt.mp u32
            refine sv_iconst (v := 1) hΓ dX12_spanOf_485 (by decide) rfl ?_
            refine sv_goto (pc' := 490) hΓ dX12_spanOf_486 (by decide) ?_
            refine sv_istore (lv' := [(8, .int 1), (7, .int 0), (6, .int (ci 46 (3 * a + 2))), (5, .int (ci 46 (3 * a + 1))), (4, .int (ci 46 (3 * a))), (0, .ref 43), (1, .int (nI a)), (2, .long w)]) hΓ dX12_spanOf_490 (by decide) rfl rfl ?_
            refine sv_aload_n hΓ dX12_spanOf_492 rfl 5 rfl rfl ?_
            refine sv_iload hΓ dX12_spanOf_493 1 rfl rfl ?_
            refine sv_if_eq (tgt := 508) hΓ dX12_spanOf_495 (by decide) rfl (fun u33 => ?_) (fun u33 => absurd (by decide) u33)
            refine sv_iload hΓ dX12_spanOf_508 0 rfl rfl ?_
            refine sv_if_eq (tgt := 523) hΓ dX12_spanOf_510 (by decide) rfl (fun u34 => absurd u34 (by decide)) (fun u34 => ?_)
            refine sv_aload_n hΓ dX12_spanOf_513 rfl 5 rfl rfl ?_
            refine g_X12_63_43 hΓ dX12_spanOf_514 rfl ?_
            refine sv_iload hΓ dX12_spanOf_517 3 rfl rfl ?_
            refine al_61 hΓ (y) hy (by omega) dX12_spanOf_519 rfl ?_
            refine sv_goto (pc' := 540) hΓ dX12_spanOf_520 (by decide) ?_
            refine p_X12_150_43 hΓ dX12_spanOf_540 rfl ?_
            refine sv_aload_n hΓ dX12_spanOf_543 rfl 5 rfl rfl ?_
            refine sv_iload hΓ dX12_spanOf_544 1 rfl rfl ?_
            refine sv_if_eq (tgt := 559) hΓ dX12_spanOf_546 (by decide) rfl (fun u35 => ?_) (fun u35 => absurd (by decide) u35)
            replace u35 : (0 : Int32) = 0 := u35
            refine sv_iload hΓ dX12_spanOf_559 0 rfl rfl ?_
            refine sv_if_eq (tgt := 574) hΓ dX12_spanOf_561 (by decide) rfl (fun u36 => absurd u36 (by decide)) (fun u36 => ?_)
            replace u36 : ¬ ((1 : Int32) = 0) := u36
            refine sv_aload_n hΓ dX12_spanOf_564 rfl 5 rfl rfl ?_
            refine g_X12_66_43 hΓ dX12_spanOf_565 rfl ?_
            refine sv_iload hΓ dX12_spanOf_568 3 rfl rfl ?_
            refine al_62 hΓ (y) hy (by omega) dX12_spanOf_570 rfl ?_
            refine sv_goto (pc' := 591) hΓ dX12_spanOf_571 (by decide) ?_
            refine p_X12_154_43 hΓ dX12_spanOf_591 rfl ?_
            refine sv_goto (pc' := 660) hΓ dX12_spanOf_594 (by decide) ?_
            exact sv_vret hΓ hQ dX12_spanOf_660 (Nat.le_of_ble_eq_true rfl) (Nat.le_of_ble_eq_true rfl) ⟨rfl, _, rfl, by simp [up2, va_up, spLo, u1, hx, nI_clamp (show x < 2 ^ 31 by omega), hy, nI_clamp (show y < 2 ^ 31 by omega), hz, nI_clamp (show z < 2 ^ 31 by omega), u14, u31, u32] <;> grind, by simp [up2, va_up, spHi, u1, hx, nI_clamp (show x < 2 ^ 31 by omega), hy, nI_clamp (show y < 2 ^ 31 by omega), hz, nI_clamp (show z < 2 ^ 31 by omega), u14, u31, u32] <;> grind, fun k hk => by simp [up2, hk], rfl⟩
          · replace u32 := mt lgc_gt.mpr u32
            refine sv_aload_n hΓ dX12_spanOf_473 rfl 4 rfl rfl ?_
            refine g_X12_66_43 hΓ dX12_spanOf_474 rfl ?_
            refine sv_iload hΓ dX12_spanOf_477 3 rfl rfl ?_
            refine al_62 hΓ (x) hx (by omega) dX12_spanOf_479 rfl ?_
            refine sv_lconst (v := 0) hΓ dX12_spanOf_480 (by decide) rfl ?_
            refine sv_lcmp hΓ dX12_spanOf_481 rfl ?_
            refine sv_if_ge (tgt := 489) hΓ dX12_spanOf_482 (by decide) rfl (fun u37 => ?_) (fun u37 => ?_)
            · replace u37 := lgc_ge.mp u37
              refine sv_iconst (v := 0) hΓ dX12_spanOf_489 (by decide) rfl ?_
              refine sv_istore (lv' := [(8, .int 0), (7, .int 0), (6, .int (ci 46 (3 * a + 2))), (5, .int (ci 46 (3 * a + 1))), (4, .int (ci 46 (3 * a))), (0, .ref 43), (1, .int (nI a)), (2, .long w)]) hΓ dX12_spanOf_490 (by decide) rfl rfl ?_
              refine sv_aload_n hΓ dX12_spanOf_492 rfl 5 rfl rfl ?_
              refine sv_iload hΓ dX12_spanOf_493 1 rfl rfl ?_
              refine sv_if_eq (tgt := 508) hΓ dX12_spanOf_495 (by decide) rfl (fun u38 => ?_) (fun u38 => absurd (by decide) u38)
              refine sv_iload hΓ dX12_spanOf_508 0 rfl rfl ?_
              refine sv_if_eq (tgt := 523) hΓ dX12_spanOf_510 (by decide) rfl (fun u39 => ?_) (fun u39 => absurd (by decide) u39)
              refine sv_aload_n hΓ dX12_spanOf_523 rfl 5 rfl rfl ?_
              refine g_X12_63_43 hΓ dX12_spanOf_524 rfl ?_
              refine sv_iload hΓ dX12_spanOf_527 3 rfl rfl ?_
              refine al_61 hΓ (y) hy (by omega) dX12_spanOf_529 rfl ?_
              refine sv_aload_n hΓ dX12_spanOf_530 rfl 5 rfl rfl ?_
              refine g_X12_63_43 hΓ dX12_spanOf_531 rfl ?_
              refine sv_iload hΓ dX12_spanOf_534 2 rfl rfl ?_
              refine al_61 hΓ (z) hz (by omega) dX12_spanOf_536 rfl ?_
              refine sv_callS hΓ (fun l => ct_X12_lesser l (cl 61 y) (cl 61 z) ) wv_X12_157 tb_1160 rfl rfl (by decide) (Nat.le_of_ble_eq_true rfl) (Nat.le_of_ble_eq_true rfl) (Nat.le_of_ble_eq_true rfl) dX12_spanOf_537 rfl (fun r M' nx' p40 => ?_)
              obtain ⟨rfl, rfl, rfl⟩ := p40
              show SV E Γ 15 (mm ci cl cr dy) nx 0 0 540 [(8, .int 0), (7, .int 0), (6, .int (ci 46 (3 * a + 2))), (5, .int (ci 46 (3 * a + 1))), (4, .int (ci 46 (3 * a))), (0, .ref 43), (1, .int (nI a)), (2, .long w)] [.long (if (cl 61 z) ≤ (cl 61 y) then (cl 61 z) else (cl 61 y)), .ref 43]
              refine p_X12_150_43 hΓ dX12_spanOf_540 rfl ?_
              refine sv_aload_n hΓ dX12_spanOf_543 rfl 5 rfl rfl ?_
              refine sv_iload hΓ dX12_spanOf_544 1 rfl rfl ?_
              refine sv_if_eq (tgt := 559) hΓ dX12_spanOf_546 (by decide) rfl (fun u41 => ?_) (fun u41 => absurd (by decide) u41)
              replace u41 : (0 : Int32) = 0 := u41
              refine sv_iload hΓ dX12_spanOf_559 0 rfl rfl ?_
              refine sv_if_eq (tgt := 574) hΓ dX12_spanOf_561 (by decide) rfl (fun u42 => ?_) (fun u42 => absurd (by decide) u42)
              replace u42 : (0 : Int32) = 0 := u42
              refine sv_aload_n hΓ dX12_spanOf_574 rfl 5 rfl rfl ?_
              refine g_X12_66_43 hΓ dX12_spanOf_575 rfl ?_
              refine sv_iload hΓ dX12_spanOf_578 3 rfl rfl ?_
              refine al_62 hΓ (y) hy (by omega) dX12_spanOf_580 rfl ?_
              refine sv_aload_n hΓ dX12_spanOf_581 rfl 5 rfl rfl ?_
              refine g_X12_66_43 hΓ dX12_spanOf_582 rfl ?_
              refine sv_iload hΓ dX12_spanOf_585 2 rfl rfl ?_
              refine al_62 hΓ (z) hz (by omega) dX12_spanOf_587 rfl ?_
              refine sv_callS hΓ (fun l => ct_X12_greater l (cl 62 y) (cl 62 z) ) wv_X12_161 tb_1163 rfl rfl (by decide) (Nat.le_of_ble_eq_true rfl) (Nat.le_of_ble_eq_true rfl) (Nat.le_of_ble_eq_true rfl) dX12_spanOf_588 rfl (fun r M' nx' p43 => ?_)
              obtain ⟨rfl, rfl, rfl⟩ := p43
              show SV E Γ 15 (mm ci (up2 cl 43 29 (if (cl 61 z) ≤ (cl 61 y) then (cl 61 z) else (cl 61 y))) cr dy) nx 0 0 591 [(8, .int 0), (7, .int 0), (6, .int (ci 46 (3 * a + 2))), (5, .int (ci 46 (3 * a + 1))), (4, .int (ci 46 (3 * a))), (0, .ref 43), (1, .int (nI a)), (2, .long w)] [.long (if (cl 62 y) ≤ (cl 62 z) then (cl 62 z) else (cl 62 y)), .ref 43]
              refine p_X12_154_43 hΓ dX12_spanOf_591 rfl ?_
              refine sv_goto (pc' := 660) hΓ dX12_spanOf_594 (by decide) ?_
              exact sv_vret hΓ hQ dX12_spanOf_660 (Nat.le_of_ble_eq_true rfl) (Nat.le_of_ble_eq_true rfl) ⟨rfl, _, rfl, by simp [up2, va_up, spLo, u1, hx, nI_clamp (show x < 2 ^ 31 by omega), hy, nI_clamp (show y < 2 ^ 31 by omega), hz, nI_clamp (show z < 2 ^ 31 by omega), u14, u31, u32, u37] <;> grind, by simp [up2, va_up, spHi, u1, hx, nI_clamp (show x < 2 ^ 31 by omega), hy, nI_clamp (show y < 2 ^ 31 by omega), hz, nI_clamp (show z < 2 ^ 31 by omega), u14, u31, u32, u37] <;> grind, fun k hk => by simp [up2, hk], rfl⟩
            · replace u37 := mt lgc_ge.mpr u37
              refine sv_iconst (v := 1) hΓ dX12_spanOf_485 (by decide) rfl ?_
              refine sv_goto (pc' := 490) hΓ dX12_spanOf_486 (by decide) ?_
              refine sv_istore (lv' := [(8, .int 1), (7, .int 0), (6, .int (ci 46 (3 * a + 2))), (5, .int (ci 46 (3 * a + 1))), (4, .int (ci 46 (3 * a))), (0, .ref 43), (1, .int (nI a)), (2, .long w)]) hΓ dX12_spanOf_490 (by decide) rfl rfl ?_
              refine sv_aload_n hΓ dX12_spanOf_492 rfl 5 rfl rfl ?_
              refine sv_iload hΓ dX12_spanOf_493 1 rfl rfl ?_
              refine sv_if_eq (tgt := 508) hΓ dX12_spanOf_495 (by decide) rfl (fun u44 => ?_) (fun u44 => absurd (by decide) u44)
              refine sv_iload hΓ dX12_spanOf_508 0 rfl rfl ?_
              refine sv_if_eq (tgt := 523) hΓ dX12_spanOf_510 (by decide) rfl (fun u45 => absurd u45 (by decide)) (fun u45 => ?_)
              refine sv_aload_n hΓ dX12_spanOf_513 rfl 5 rfl rfl ?_
              refine g_X12_63_43 hΓ dX12_spanOf_514 rfl ?_
              refine sv_iload hΓ dX12_spanOf_517 3 rfl rfl ?_
              refine al_61 hΓ (y) hy (by omega) dX12_spanOf_519 rfl ?_
              refine sv_goto (pc' := 540) hΓ dX12_spanOf_520 (by decide) ?_
              refine p_X12_150_43 hΓ dX12_spanOf_540 rfl ?_
              refine sv_aload_n hΓ dX12_spanOf_543 rfl 5 rfl rfl ?_
              refine sv_iload hΓ dX12_spanOf_544 1 rfl rfl ?_
              refine sv_if_eq (tgt := 559) hΓ dX12_spanOf_546 (by decide) rfl (fun u46 => ?_) (fun u46 => absurd (by decide) u46)
              replace u46 : (0 : Int32) = 0 := u46
              refine sv_iload hΓ dX12_spanOf_559 0 rfl rfl ?_
              refine sv_if_eq (tgt := 574) hΓ dX12_spanOf_561 (by decide) rfl (fun u47 => absurd u47 (by decide)) (fun u47 => ?_)
              replace u47 : ¬ ((1 : Int32) = 0) := u47
              refine sv_aload_n hΓ dX12_spanOf_564 rfl 5 rfl rfl ?_
              refine g_X12_66_43 hΓ dX12_spanOf_565 rfl ?_
              refine sv_iload hΓ dX12_spanOf_568 3 rfl rfl ?_
              refine al_62 hΓ (y) hy (by omega) dX12_spanOf_570 rfl ?_
              refine sv_goto (pc' := 591) hΓ dX12_spanOf_571 (by decide) ?_
              refine p_X12_154_43 hΓ dX12_spanOf_591 rfl ?_
              refine sv_goto (pc' := 660) hΓ dX12_spanOf_594 (by decide) ?_
              exact sv_vret hΓ hQ dX12_spanOf_660 (Nat.le_of_ble_eq_true rfl) (Nat.le_of_ble_eq_true rfl) ⟨rfl, _, rfl, by simp [up2, va_up, spLo, u1, hx, nI_clamp (show x < 2 ^ 31 by omega), hy, nI_clamp (show y < 2 ^ 31 by omega), hz, nI_clamp (show z < 2 ^ 31 by omega), u14, u31, u32, u37] <;> grind, by simp [up2, va_up, spHi, u1, hx, nI_clamp (show x < 2 ^ 31 by omega), hy, nI_clamp (show y < 2 ^ 31 by omega), hz, nI_clamp (show z < 2 ^ 31 by omega), u14, u31, u32, u37] <;> grind, fun k hk => by simp [up2, hk], rfl⟩
        · replace u31 := lgc_eq.mp u31
          refine sv_iconst (v := 1) hΓ dX12_spanOf_454 (by decide) rfl ?_
          refine sv_goto (pc' := 459) hΓ dX12_spanOf_455 (by decide) ?_
          refine sv_istore (lv' := [(7, .int 1), (6, .int (ci 46 (3 * a + 2))), (5, .int (ci 46 (3 * a + 1))), (4, .int (ci 46 (3 * a))), (0, .ref 43), (1, .int (nI a)), (2, .long w)]) hΓ dX12_spanOf_459 (by decide) rfl rfl ?_
          refine sv_aload_n hΓ dX12_spanOf_461 rfl 4 rfl rfl ?_
          refine g_X12_63_43 hΓ dX12_spanOf_462 rfl ?_
          refine sv_iload hΓ dX12_spanOf_465 3 rfl rfl ?_
          refine al_61 hΓ (x) hx (by omega) dX12_spanOf_467 rfl ?_
          refine sv_lconst (v := 0) hΓ dX12_spanOf_468 (by decide) rfl ?_
          refine sv_lcmp hΓ dX12_spanOf_469 rfl ?_
          refine sv_if_gt (tgt := 485) hΓ dX12_spanOf_470 (by decide) rfl (fun u48 => ?_) (fun u48 => ?_)
          · replace u48 := lgc_gt.mp u48
            refine sv_iconst (v := 1) hΓ dX12_spanOf_485 (by decide) rfl ?_
            refine sv_goto (pc' := 490) hΓ dX12_spanOf_486 (by decide) ?_
            refine sv_istore (lv' := [(8, .int 1), (7, .int 1), (6, .int (ci 46 (3 * a + 2))), (5, .int (ci 46 (3 * a + 1))), (4, .int (ci 46 (3 * a))), (0, .ref 43), (1, .int (nI a)), (2, .long w)]) hΓ dX12_spanOf_490 (by decide) rfl rfl ?_
            refine sv_aload_n hΓ dX12_spanOf_492 rfl 5 rfl rfl ?_
            refine sv_iload hΓ dX12_spanOf_493 1 rfl rfl ?_
            refine sv_if_eq (tgt := 508) hΓ dX12_spanOf_495 (by decide) rfl (fun u49 => absurd u49 (by decide)) (fun u49 => ?_)
            refine sv_aload_n hΓ dX12_spanOf_498 rfl 5 rfl rfl ?_
            refine g_X12_63_43 hΓ dX12_spanOf_499 rfl ?_
            refine sv_iload hΓ dX12_spanOf_502 2 rfl rfl ?_
            refine al_61 hΓ (z) hz (by omega) dX12_spanOf_504 rfl ?_
            refine sv_goto (pc' := 540) hΓ dX12_spanOf_505 (by decide) ?_
            refine p_X12_150_43 hΓ dX12_spanOf_540 rfl ?_
            refine sv_aload_n hΓ dX12_spanOf_543 rfl 5 rfl rfl ?_
            refine sv_iload hΓ dX12_spanOf_544 1 rfl rfl ?_
            refine sv_if_eq (tgt := 559) hΓ dX12_spanOf_546 (by decide) rfl (fun u50 => absurd u50 (by decide)) (fun u50 => ?_)
            replace u50 : ¬ ((1 : Int32) = 0) := u50
            refine sv_aload_n hΓ dX12_spanOf_549 rfl 5 rfl rfl ?_
            refine g_X12_66_43 hΓ dX12_spanOf_550 rfl ?_
            refine sv_iload hΓ dX12_spanOf_553 2 rfl rfl ?_
            refine al_62 hΓ (z) hz (by omega) dX12_spanOf_555 rfl ?_
            refine sv_goto (pc' := 591) hΓ dX12_spanOf_556 (by decide) ?_
            refine p_X12_154_43 hΓ dX12_spanOf_591 rfl ?_
            refine sv_goto (pc' := 660) hΓ dX12_spanOf_594 (by decide) ?_
            exact sv_vret hΓ hQ dX12_spanOf_660 (Nat.le_of_ble_eq_true rfl) (Nat.le_of_ble_eq_true rfl) ⟨rfl, _, rfl, by simp [up2, va_up, spLo, u1, hx, nI_clamp (show x < 2 ^ 31 by omega), hy, nI_clamp (show y < 2 ^ 31 by omega), hz, nI_clamp (show z < 2 ^ 31 by omega), u14, u31, u48] <;> grind, by simp [up2, va_up, spHi, u1, hx, nI_clamp (show x < 2 ^ 31 by omega), hy, nI_clamp (show y < 2 ^ 31 by omega), hz, nI_clamp (show z < 2 ^ 31 by omega), u14, u31, u48] <;> grind, fun k hk => by simp [up2, hk], rfl⟩
          · replace u48 := mt lgc_gt.mpr u48
            refine sv_aload_n hΓ dX12_spanOf_473 rfl 4 rfl rfl ?_
            refine g_X12_66_43 hΓ dX12_spanOf_474 rfl ?_
            refine sv_iload hΓ dX12_spanOf_477 3 rfl rfl ?_
            refine al_62 hΓ (x) hx (by omega) dX12_spanOf_479 rfl ?_
            refine sv_lconst (v := 0) hΓ dX12_spanOf_480 (by decide) rfl ?_
            refine sv_lcmp hΓ dX12_spanOf_481 rfl ?_
            refine sv_if_ge (tgt := 489) hΓ dX12_spanOf_482 (by decide) rfl (fun u51 => ?_) (fun u51 => ?_)
            · replace u51 := lgc_ge.mp u51
              refine sv_iconst (v := 0) hΓ dX12_spanOf_489 (by decide) rfl ?_
              refine sv_istore (lv' := [(8, .int 0), (7, .int 1), (6, .int (ci 46 (3 * a + 2))), (5, .int (ci 46 (3 * a + 1))), (4, .int (ci 46 (3 * a))), (0, .ref 43), (1, .int (nI a)), (2, .long w)]) hΓ dX12_spanOf_490 (by decide) rfl rfl ?_
              refine sv_aload_n hΓ dX12_spanOf_492 rfl 5 rfl rfl ?_
              refine sv_iload hΓ dX12_spanOf_493 1 rfl rfl ?_
              refine sv_if_eq (tgt := 508) hΓ dX12_spanOf_495 (by decide) rfl (fun u52 => absurd u52 (by decide)) (fun u52 => ?_)
              refine sv_aload_n hΓ dX12_spanOf_498 rfl 5 rfl rfl ?_
              refine g_X12_63_43 hΓ dX12_spanOf_499 rfl ?_
              refine sv_iload hΓ dX12_spanOf_502 2 rfl rfl ?_
              refine al_61 hΓ (z) hz (by omega) dX12_spanOf_504 rfl ?_
              refine sv_goto (pc' := 540) hΓ dX12_spanOf_505 (by decide) ?_
              refine p_X12_150_43 hΓ dX12_spanOf_540 rfl ?_
              refine sv_aload_n hΓ dX12_spanOf_543 rfl 5 rfl rfl ?_
              refine sv_iload hΓ dX12_spanOf_544 1 rfl rfl ?_
              refine sv_if_eq (tgt := 559) hΓ dX12_spanOf_546 (by decide) rfl (fun u53 => absurd u53 (by decide)) (fun u53 => ?_)
              replace u53 : ¬ ((1 : Int32) = 0) := u53
              refine sv_aload_n hΓ dX12_spanOf_549 rfl 5 rfl rfl ?_
              refine g_X12_66_43 hΓ dX12_spanOf_550 rfl ?_
              refine sv_iload hΓ dX12_spanOf_553 2 rfl rfl ?_
              refine al_62 hΓ (z) hz (by omega) dX12_spanOf_555 rfl ?_
              refine sv_goto (pc' := 591) hΓ dX12_spanOf_556 (by decide) ?_
              refine p_X12_154_43 hΓ dX12_spanOf_591 rfl ?_
              refine sv_goto (pc' := 660) hΓ dX12_spanOf_594 (by decide) ?_
              exact sv_vret hΓ hQ dX12_spanOf_660 (Nat.le_of_ble_eq_true rfl) (Nat.le_of_ble_eq_true rfl) ⟨rfl, _, rfl, by simp [up2, va_up, spLo, u1, hx, nI_clamp (show x < 2 ^ 31 by omega), hy, nI_clamp (show y < 2 ^ 31 by omega), hz, nI_clamp (show z < 2 ^ 31 by omega), u14, u31, u48, u51] <;> grind, by simp [up2, va_up, spHi, u1, hx, nI_clamp (show x < 2 ^ 31 by omega), hy, nI_clamp (show y < 2 ^ 31 by omega), hz, nI_clamp (show z < 2 ^ 31 by omega), u14, u31, u48, u51] <;> grind, fun k hk => by simp [up2, hk], rfl⟩
            · replace u51 := mt lgc_ge.mpr u51
              refine sv_iconst (v := 1) hΓ dX12_spanOf_485 (by decide) rfl ?_
              refine sv_goto (pc' := 490) hΓ dX12_spanOf_486 (by decide) ?_
              refine sv_istore (lv' := [(8, .int 1), (7, .int 1), (6, .int (ci 46 (3 * a + 2))), (5, .int (ci 46 (3 * a + 1))), (4, .int (ci 46 (3 * a))), (0, .ref 43), (1, .int (nI a)), (2, .long w)]) hΓ dX12_spanOf_490 (by decide) rfl rfl ?_
              refine sv_aload_n hΓ dX12_spanOf_492 rfl 5 rfl rfl ?_
              refine sv_iload hΓ dX12_spanOf_493 1 rfl rfl ?_
              refine sv_if_eq (tgt := 508) hΓ dX12_spanOf_495 (by decide) rfl (fun u54 => absurd u54 (by decide)) (fun u54 => ?_)
              refine sv_aload_n hΓ dX12_spanOf_498 rfl 5 rfl rfl ?_
              refine g_X12_63_43 hΓ dX12_spanOf_499 rfl ?_
              refine sv_iload hΓ dX12_spanOf_502 2 rfl rfl ?_
              refine al_61 hΓ (z) hz (by omega) dX12_spanOf_504 rfl ?_
              refine sv_goto (pc' := 540) hΓ dX12_spanOf_505 (by decide) ?_
              refine p_X12_150_43 hΓ dX12_spanOf_540 rfl ?_
              refine sv_aload_n hΓ dX12_spanOf_543 rfl 5 rfl rfl ?_
              refine sv_iload hΓ dX12_spanOf_544 1 rfl rfl ?_
              refine sv_if_eq (tgt := 559) hΓ dX12_spanOf_546 (by decide) rfl (fun u55 => absurd u55 (by decide)) (fun u55 => ?_)
              replace u55 : ¬ ((1 : Int32) = 0) := u55
              refine sv_aload_n hΓ dX12_spanOf_549 rfl 5 rfl rfl ?_
              refine g_X12_66_43 hΓ dX12_spanOf_550 rfl ?_
              refine sv_iload hΓ dX12_spanOf_553 2 rfl rfl ?_
              refine al_62 hΓ (z) hz (by omega) dX12_spanOf_555 rfl ?_
              refine sv_goto (pc' := 591) hΓ dX12_spanOf_556 (by decide) ?_
              refine p_X12_154_43 hΓ dX12_spanOf_591 rfl ?_
              refine sv_goto (pc' := 660) hΓ dX12_spanOf_594 (by decide) ?_
              exact sv_vret hΓ hQ dX12_spanOf_660 (Nat.le_of_ble_eq_true rfl) (Nat.le_of_ble_eq_true rfl) ⟨rfl, _, rfl, by simp [up2, va_up, spLo, u1, hx, nI_clamp (show x < 2 ^ 31 by omega), hy, nI_clamp (show y < 2 ^ 31 by omega), hz, nI_clamp (show z < 2 ^ 31 by omega), u14, u31, u48, u51] <;> grind, by simp [up2, va_up, spHi, u1, hx, nI_clamp (show x < 2 ^ 31 by omega), hy, nI_clamp (show y < 2 ^ 31 by omega), hz, nI_clamp (show z < 2 ^ 31 by omega), u14, u31, u48, u51] <;> grind, fun k hk => by simp [up2, hk], rfl⟩
    · refine sv_tableIn (off := 607) (pc' := 647) hΓ dX12_spanOf_40 (by omega) (by omega) (by rw [u1]; rfl) (by decide) ?_
      replace u1 : ci 44 a = (8 : Int32) := Int32.toInt_inj.mp (u1.trans (by decide))
      refine sv_aload_n hΓ dX12_spanOf_647 rfl 3 rfl rfl ?_
      refine sv_lload_n hΓ dX12_spanOf_648 rfl 5 rfl rfl ?_
      refine sv_lneg hΓ dX12_spanOf_649 rfl ?_
      refine p_X12_150_43 hΓ dX12_spanOf_650 rfl ?_
      refine sv_aload_n hΓ dX12_spanOf_653 rfl 3 rfl rfl ?_
      refine sv_lload_n hΓ dX12_spanOf_654 rfl 5 rfl rfl ?_
      refine sv_lconst (v := 1) hΓ dX12_spanOf_655 (by decide) rfl ?_
      refine sv_lsub hΓ dX12_spanOf_656 rfl ?_
      refine p_X12_154_43 hΓ dX12_spanOf_657 rfl ?_
      exact sv_vret hΓ hQ dX12_spanOf_660 (Nat.le_of_ble_eq_true rfl) (Nat.le_of_ble_eq_true rfl) ⟨rfl, _, rfl, by simp [up2, va_up, spLo, u1] <;> grind, by simp [up2, va_up, spHi, u1] <;> grind, fun k hk => by simp [up2, hk], rfl⟩
    · refine sv_tableIn (off := 557) (pc' := 597) hΓ dX12_spanOf_40 (by omega) (by omega) (by rw [u1]; rfl) (by decide) ?_
      replace u1 : ci 44 a = (9 : Int32) := Int32.toInt_inj.mp (u1.trans (by decide))
      obtain ⟨y, hy6, hy⟩ := hw.y (by rw [u1]; decide)
      refine sv_aload_n hΓ dX12_spanOf_597 rfl 3 rfl rfl ?_
      refine sv_aload_n hΓ dX12_spanOf_598 rfl 3 rfl rfl ?_
      refine g_X12_63_43 hΓ dX12_spanOf_599 rfl ?_
      refine sv_iload hΓ dX12_spanOf_602 1 rfl rfl ?_
      refine al_61 hΓ (y) hy (by omega) dX12_spanOf_604 rfl ?_
      refine p_X12_150_43 hΓ dX12_spanOf_605 rfl ?_
      refine sv_aload_n hΓ dX12_spanOf_608 rfl 3 rfl rfl ?_
      refine sv_aload_n hΓ dX12_spanOf_609 rfl 3 rfl rfl ?_
      refine g_X12_66_43 hΓ dX12_spanOf_610 rfl ?_
      refine sv_iload hΓ dX12_spanOf_613 1 rfl rfl ?_
      refine al_62 hΓ (y) hy (by omega) dX12_spanOf_615 rfl ?_
      refine p_X12_154_43 hΓ dX12_spanOf_616 rfl ?_
      refine sv_goto (pc' := 660) hΓ dX12_spanOf_619 (by decide) ?_
      exact sv_vret hΓ hQ dX12_spanOf_660 (Nat.le_of_ble_eq_true rfl) (Nat.le_of_ble_eq_true rfl) ⟨rfl, _, rfl, by simp [up2, va_up, spLo, u1, hy, nI_clamp (show y < 2 ^ 31 by omega)] <;> grind, by simp [up2, va_up, spHi, u1, hy, nI_clamp (show y < 2 ^ 31 by omega)] <;> grind, fun k hk => by simp [up2, hk], rfl⟩
    · refine sv_tableIn (off := 582) (pc' := 622) hΓ dX12_spanOf_40 (by omega) (by omega) (by rw [u1]; rfl) (by decide) ?_
      replace u1 : ci 44 a = (10 : Int32) := Int32.toInt_inj.mp (u1.trans (by decide))
      obtain ⟨x, hx6, hx⟩ := hw.x (by rw [u1]; decide) (by rw [u1]; decide)
      refine sv_aload_n hΓ dX12_spanOf_622 rfl 3 rfl rfl ?_
      refine sv_aload_n hΓ dX12_spanOf_623 rfl 3 rfl rfl ?_
      refine g_X12_63_43 hΓ dX12_spanOf_624 rfl ?_
      refine sv_iload hΓ dX12_spanOf_627 2 rfl rfl ?_
      refine al_61 hΓ (x) hx (by omega) dX12_spanOf_629 rfl ?_
      refine p_X12_150_43 hΓ dX12_spanOf_630 rfl ?_
      refine sv_aload_n hΓ dX12_spanOf_633 rfl 3 rfl rfl ?_
      refine sv_aload_n hΓ dX12_spanOf_634 rfl 3 rfl rfl ?_
      refine g_X12_66_43 hΓ dX12_spanOf_635 rfl ?_
      refine sv_iload hΓ dX12_spanOf_638 2 rfl rfl ?_
      refine al_62 hΓ (x) hx (by omega) dX12_spanOf_640 rfl ?_
      refine p_X12_154_43 hΓ dX12_spanOf_641 rfl ?_
      refine sv_goto (pc' := 660) hΓ dX12_spanOf_644 (by decide) ?_
      exact sv_vret hΓ hQ dX12_spanOf_660 (Nat.le_of_ble_eq_true rfl) (Nat.le_of_ble_eq_true rfl) ⟨rfl, _, rfl, by simp [up2, va_up, spLo, u1, hx, nI_clamp (show x < 2 ^ 31 by omega)] <;> grind, by simp [up2, va_up, spHi, u1, hx, nI_clamp (show x < 2 ^ 31 by omega)] <;> grind, fun k hk => by simp [up2, hk], rfl⟩
set_option maxRecDepth 100000 in
set_option maxHeartbeats 4000000 in
/-- findSpans -/
theorem ct_X12_findSpans {E : aG} (l : Launch) (n : Nat) {ci : Nat → Nat → Int32} {cl : Nat → Nat → Int64} {cr : Nat → Nat → Option Nat} {dy : aM} {nx : Nat} (hn : ci 43 1 = nI n) (hn6 : n ≤ 16) (hwf : ∀ i, i < n → WF ci i) : CT E l yX12_findSpans cX12_findSpans 5 none 2 [.ref 43] (mm ci cl cr dy) nx 0 0 (fun r M' nx' => r = none ∧ ∃ cl' : Nat → Nat → Int64, M' = mm ci cl' cr dy ∧ FSI ci cl cl' n ∧ nx = nx') := by
  refine CT_intro (by decide) (Nat.le_of_ble_eq_true rfl) (fun Γ hΓ hQ => ?_)
  replace hΓ : CK E RX12 cX12_findSpans 5 none "findSpans" 2 0 0 Γ := hΓ
  show SV E Γ 5 (mm ci cl cr dy) nx 0 0 0 [(0, .ref 43)] []
  refine sv_iconst (v := 0) hΓ dX12_findSpans_0 (by decide) rfl ?_
  refine sv_istore_n (lv' := [(1, .int 0), (0, .ref 43)]) hΓ dX12_findSpans_1 rfl (by decide) rfl rfl ?_
  have LP2 : ∀ kq a : Nat, a + kq = n → ∀ cl' : Nat → Nat → Int64, FSI ci cl cl' a → SV E Γ 5 (mm ci cl' cr dy) nx 0 0 2 [(1, .int (nI a)), (0, .ref 43)] [] := by
    intro kq
    induction kq with
    | zero =>
      intro a ha
      have ea : a = n := by omega
      intro cl' hI
      refine sv_iload_n hΓ dX12_findSpans_2 rfl 0 rfl rfl ?_
      refine sv_aload_n hΓ dX12_findSpans_3 rfl 1 rfl rfl ?_
      refine g_X12_103_43 hΓ dX12_findSpans_4 rfl ?_
      refine sv_icmp_ge (tgt := 100) hΓ dX12_findSpans_7 (by decide) rfl (fun u1 => ?_) (fun u1 => absurd (by rw [hn]; exact nI_le (by omega) (by omega)) u1)
      replace u1 : (ci 43 1) ≤ ((nI a) : Int32) := u1
      exact sv_vret hΓ hQ dX12_findSpans_100 (Nat.le_of_ble_eq_true rfl) (Nat.le_of_ble_eq_true rfl) ⟨rfl, cl', rfl, by rw [← ea]; exact hI, rfl⟩
    | succ kq ih =>
      intro a ha
      intro cl' hI
      refine sv_iload_n hΓ dX12_findSpans_2 rfl 0 rfl rfl ?_
      refine sv_aload_n hΓ dX12_findSpans_3 rfl 1 rfl rfl ?_
      refine g_X12_103_43 hΓ dX12_findSpans_4 rfl ?_
      refine sv_icmp_ge (tgt := 100) hΓ dX12_findSpans_7 (by decide) rfl (fun u2 => absurd u2 (by rw [hn]; exact nI_ge (by omega) (by omega))) (fun u2 => ?_)
      replace u2 : ¬ ((ci 43 1) ≤ ((nI a) : Int32)) := u2
      refine sv_lconst (v := 1) hΓ dX12_findSpans_10 (by decide) rfl ?_
      refine sv_aload_n hΓ dX12_findSpans_11 rfl 1 rfl rfl ?_
      refine g_X12_13_43 hΓ dX12_findSpans_12 rfl ?_
      refine sv_iload_n hΓ dX12_findSpans_15 rfl 0 rfl rfl ?_
      refine ai_45 hΓ (a) rfl (by omega) dX12_findSpans_16 rfl ?_
      refine sv_iconst (v := 1) hΓ dX12_findSpans_17 (by decide) rfl ?_
      refine sv_isub hΓ dX12_findSpans_18 rfl ?_
      refine sv_lshl hΓ dX12_findSpans_19 rfl rfl ?_
      refine sv_lstore_n (lv' := [(2, .long (1 <<< (((ci 45 a) - 1 : Int32).toInt64 &&& 63))), (1, .int (nI a)), (0, .ref 43)]) hΓ dX12_findSpans_20 rfl (by decide) rfl rfl ?_
      refine sv_aload_n hΓ dX12_findSpans_21 rfl 2 rfl rfl ?_
      refine sv_iload_n hΓ dX12_findSpans_22 rfl 1 rfl rfl ?_
      refine sv_lload_n hΓ dX12_findSpans_23 rfl 0 rfl rfl ?_
      refine sv_callV hΓ (fun l => ct_X12_spanOf l a (1 <<< (((ci 45 a) - 1 : Int32).toInt64 &&& 63)) (by omega) (hwf a (by omega))) wv_X12_164 vs_X12_spanOf rfl m_43 rfl rfl (by decide) (Nat.le_of_ble_eq_true rfl) (Nat.le_of_ble_eq_true rfl) (Nat.le_of_ble_eq_true rfl) dX12_findSpans_24 rfl (fun r M' nx' p3 => ?_)
      obtain ⟨rfl, cq, rfl, q1, q2, q3, rfl⟩ := p3
      show SV E Γ 5 (mm ci cq cr dy) nx 0 0 27 [(2, .long (1 <<< (((ci 45 a) - 1 : Int32).toInt64 &&& 63))), (1, .int (nI a)), (0, .ref 43)] []
      refine sv_aload_n hΓ dX12_findSpans_27 rfl 2 rfl rfl ?_
      refine g_X12_150_43 hΓ dX12_findSpans_28 rfl ?_
      refine sv_lload_n hΓ dX12_findSpans_31 rfl 0 rfl rfl ?_
      refine sv_lneg hΓ dX12_findSpans_32 rfl ?_
      refine sv_lcmp hΓ dX12_findSpans_33 rfl ?_
      refine sv_if_lt (tgt := 50) hΓ dX12_findSpans_34 (by decide) rfl (fun u4 => ?_) (fun u4 => ?_)
      · replace u4 := lgc_lt.mp u4
        replace u4 : ((cq 43 29) : Int64) < (-(1 <<< (((ci 45 a) - 1 : Int32).toInt64 &&& 63))) := u4
        refine sv_iconst (v := 0) hΓ dX12_findSpans_50 (by decide) rfl ?_
        refine sv_istore (lv' := [(4, .int 0), (2, .long (1 <<< (((ci 45 a) - 1 : Int32).toInt64 &&& 63))), (1, .int (nI a)), (0, .ref 43)]) hΓ dX12_findSpans_51 (by decide) rfl rfl ?_
        refine sv_aload_n hΓ dX12_findSpans_53 rfl 3 rfl rfl ?_
        refine g_X12_63_43 hΓ dX12_findSpans_54 rfl ?_
        refine sv_iload_n hΓ dX12_findSpans_57 rfl 2 rfl rfl ?_
        refine sv_iload hΓ dX12_findSpans_58 0 rfl rfl ?_
        refine sv_if_eq (tgt := 70) hΓ dX12_findSpans_60 (by decide) rfl (fun u5 => ?_) (fun u5 => absurd (by decide) u5)
        replace u5 : (0 : Int32) = 0 := u5
        refine sv_lload_n hΓ dX12_findSpans_70 rfl 1 rfl rfl ?_
        refine sv_lneg hΓ dX12_findSpans_71 rfl ?_
        refine at_61 hΓ (a) rfl (by omega) dX12_findSpans_72 rfl ?_
        refine sv_aload_n hΓ dX12_findSpans_73 rfl 3 rfl rfl ?_
        refine g_X12_66_43 hΓ dX12_findSpans_74 rfl ?_
        refine sv_iload_n hΓ dX12_findSpans_77 rfl 2 rfl rfl ?_
        refine sv_iload hΓ dX12_findSpans_78 0 rfl rfl ?_
        refine sv_if_eq (tgt := 90) hΓ dX12_findSpans_80 (by decide) rfl (fun u6 => ?_) (fun u6 => absurd (by decide) u6)
        replace u6 : (0 : Int32) = 0 := u6
        refine sv_lload_n hΓ dX12_findSpans_90 rfl 1 rfl rfl ?_
        refine sv_lconst (v := 1) hΓ dX12_findSpans_91 (by decide) rfl ?_
        refine sv_lsub hΓ dX12_findSpans_92 rfl ?_
        refine at_62 hΓ (a) rfl (by omega) dX12_findSpans_93 rfl ?_
        refine sv_iinc (v := nI (a + 1)) (lv' := [(1, .int (nI (a + 1))), (4, .int 0), (2, .long (1 <<< (((ci 45 a) - 1 : Int32).toInt64 &&& 63))), (0, .ref 43)]) hΓ dX12_findSpans_94 2 rfl (nx_inc rfl) (by decide) rfl rfl ?_
        refine sv_goto (pc' := 2) hΓ dX12_findSpans_97 (by decide) ?_
        exact SV_lv [0, 3] rfl (ih (a + 1) (by omega) _ (FSI_s (hwf a (by omega)) (by omega) hI q1 q2 q3 ⟨(if_neg (fun f => f.1 u4)).symm, (if_neg (fun f => f.1 u4)).symm⟩))
      · replace u4 := mt lgc_lt.mpr u4
        replace u4 : ¬ (((cq 43 29) : Int64) < (-(1 <<< (((ci 45 a) - 1 : Int32).toInt64 &&& 63)))) := u4
        refine sv_aload_n hΓ dX12_findSpans_37 rfl 2 rfl rfl ?_
        refine g_X12_154_43 hΓ dX12_findSpans_38 rfl ?_
        refine sv_lload_n hΓ dX12_findSpans_41 rfl 0 rfl rfl ?_
        refine sv_lcmp hΓ dX12_findSpans_42 rfl ?_
        refine sv_if_ge (tgt := 50) hΓ dX12_findSpans_43 (by decide) rfl (fun u7 => ?_) (fun u7 => ?_)
        · replace u7 := lgc_ge.mp u7
          replace u7 : (1 <<< (((ci 45 a) - 1 : Int32).toInt64 &&& 63)) ≤ ((cq 43 30) : Int64) := u7
          refine sv_iconst (v := 0) hΓ dX12_findSpans_50 (by decide) rfl ?_
          refine sv_istore (lv' := [(4, .int 0), (2, .long (1 <<< (((ci 45 a) - 1 : Int32).toInt64 &&& 63))), (1, .int (nI a)), (0, .ref 43)]) hΓ dX12_findSpans_51 (by decide) rfl rfl ?_
          refine sv_aload_n hΓ dX12_findSpans_53 rfl 3 rfl rfl ?_
          refine g_X12_63_43 hΓ dX12_findSpans_54 rfl ?_
          refine sv_iload_n hΓ dX12_findSpans_57 rfl 2 rfl rfl ?_
          refine sv_iload hΓ dX12_findSpans_58 0 rfl rfl ?_
          refine sv_if_eq (tgt := 70) hΓ dX12_findSpans_60 (by decide) rfl (fun u8 => ?_) (fun u8 => absurd (by decide) u8)
          replace u8 : (0 : Int32) = 0 := u8
          refine sv_lload_n hΓ dX12_findSpans_70 rfl 1 rfl rfl ?_
          refine sv_lneg hΓ dX12_findSpans_71 rfl ?_
          refine at_61 hΓ (a) rfl (by omega) dX12_findSpans_72 rfl ?_
          refine sv_aload_n hΓ dX12_findSpans_73 rfl 3 rfl rfl ?_
          refine g_X12_66_43 hΓ dX12_findSpans_74 rfl ?_
          refine sv_iload_n hΓ dX12_findSpans_77 rfl 2 rfl rfl ?_
          refine sv_iload hΓ dX12_findSpans_78 0 rfl rfl ?_
          refine sv_if_eq (tgt := 90) hΓ dX12_findSpans_80 (by decide) rfl (fun u9 => ?_) (fun u9 => absurd (by decide) u9)
          replace u9 : (0 : Int32) = 0 := u9
          refine sv_lload_n hΓ dX12_findSpans_90 rfl 1 rfl rfl ?_
          refine sv_lconst (v := 1) hΓ dX12_findSpans_91 (by decide) rfl ?_
          refine sv_lsub hΓ dX12_findSpans_92 rfl ?_
          refine at_62 hΓ (a) rfl (by omega) dX12_findSpans_93 rfl ?_
          refine sv_iinc (v := nI (a + 1)) (lv' := [(1, .int (nI (a + 1))), (4, .int 0), (2, .long (1 <<< (((ci 45 a) - 1 : Int32).toInt64 &&& 63))), (0, .ref 43)]) hΓ dX12_findSpans_94 2 rfl (nx_inc rfl) (by decide) rfl rfl ?_
          refine sv_goto (pc' := 2) hΓ dX12_findSpans_97 (by decide) ?_
          exact SV_lv [0, 3] rfl (ih (a + 1) (by omega) _ (FSI_s (hwf a (by omega)) (by omega) hI q1 q2 q3 ⟨(if_neg (fun f => f.2 u7)).symm, (if_neg (fun f => f.2 u7)).symm⟩))
        · replace u7 := mt lgc_ge.mpr u7
          replace u7 : ¬ ((1 <<< (((ci 45 a) - 1 : Int32).toInt64 &&& 63)) ≤ ((cq 43 30) : Int64)) := u7
          refine sv_iconst (v := 1) hΓ dX12_findSpans_46 (by decide) rfl ?_
          refine sv_goto (pc' := 51) hΓ dX12_findSpans_47 (by decide) ?_
          refine sv_istore (lv' := [(4, .int 1), (2, .long (1 <<< (((ci 45 a) - 1 : Int32).toInt64 &&& 63))), (1, .int (nI a)), (0, .ref 43)]) hΓ dX12_findSpans_51 (by decide) rfl rfl ?_
          refine sv_aload_n hΓ dX12_findSpans_53 rfl 3 rfl rfl ?_
          refine g_X12_63_43 hΓ dX12_findSpans_54 rfl ?_
          refine sv_iload_n hΓ dX12_findSpans_57 rfl 2 rfl rfl ?_
          refine sv_iload hΓ dX12_findSpans_58 0 rfl rfl ?_
          refine sv_if_eq (tgt := 70) hΓ dX12_findSpans_60 (by decide) rfl (fun u10 => absurd u10 (by decide)) (fun u10 => ?_)
          replace u10 : ¬ ((1 : Int32) = 0) := u10
          refine sv_aload_n hΓ dX12_findSpans_63 rfl 3 rfl rfl ?_
          refine g_X12_150_43 hΓ dX12_findSpans_64 rfl ?_
          refine sv_goto (pc' := 72) hΓ dX12_findSpans_67 (by decide) ?_
          refine at_61 hΓ (a) rfl (by omega) dX12_findSpans_72 rfl ?_
          refine sv_aload_n hΓ dX12_findSpans_73 rfl 3 rfl rfl ?_
          refine g_X12_66_43 hΓ dX12_findSpans_74 rfl ?_
          refine sv_iload_n hΓ dX12_findSpans_77 rfl 2 rfl rfl ?_
          refine sv_iload hΓ dX12_findSpans_78 0 rfl rfl ?_
          refine sv_if_eq (tgt := 90) hΓ dX12_findSpans_80 (by decide) rfl (fun u11 => absurd u11 (by decide)) (fun u11 => ?_)
          replace u11 : ¬ ((1 : Int32) = 0) := u11
          refine sv_aload_n hΓ dX12_findSpans_83 rfl 3 rfl rfl ?_
          refine g_X12_154_43 hΓ dX12_findSpans_84 rfl ?_
          refine sv_goto (pc' := 93) hΓ dX12_findSpans_87 (by decide) ?_
          refine at_62 hΓ (a) rfl (by omega) dX12_findSpans_93 rfl ?_
          refine sv_iinc (v := nI (a + 1)) (lv' := [(1, .int (nI (a + 1))), (4, .int 1), (2, .long (1 <<< (((ci 45 a) - 1 : Int32).toInt64 &&& 63))), (0, .ref 43)]) hΓ dX12_findSpans_94 2 rfl (nx_inc rfl) (by decide) rfl rfl ?_
          refine sv_goto (pc' := 2) hΓ dX12_findSpans_97 (by decide) ?_
          exact SV_lv [0, 3] rfl (ih (a + 1) (by omega) _ (FSI_s (hwf a (by omega)) (by omega) hI q1 q2 q3 ⟨(if_pos ⟨u4, u7⟩).symm, (if_pos ⟨u4, u7⟩).symm⟩))
  exact SV_lv [0, 1] rfl (LP2 n 0 (by omega) cl FSI_0)
