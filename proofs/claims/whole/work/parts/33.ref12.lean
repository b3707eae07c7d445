set_option maxRecDepth 100000 in
set_option maxHeartbeats 4000000 in
/-- run -/
theorem ct_X12_run {E : aG} (l : Launch) (z : Int32) (n : Nat) (TT : Nat) {ci : Nat → Nat → Int32} {cl : Nat → Nat → Int64} {cr : Nat → Nat → Option Nat} {dy : aM} {nx : Nat} (hn : ci 43 1 = nI n) (hn6 : n ≤ 16) (hwf : ∀ i, i < n → WF ci i) (h16 : ci 43 16 = nI TT) (h17 : TT ≤ 1000) (hfd : ∀ p, p < 4 → ∃ f, f ≤ 20 ∧ ci 52 p = nI f) : CT E l yX12_run cX12_run 6 (some .int) 3 [.ref 43, .int z] (mm ci cl cr dy) nx 0 0 (fun r M' nx' => (n = 0 ∧ r = some (.int (-2)) ∧ M' = mm (up2 ci 43 0 0) cl cr dy ∧ nx = nx') ∨ (¬ n = 0 ∧ ¬ z = 0 ∧ (up2 ci 43 0 0) 43 13 = 0 ∧ r = some (.int (-3)) ∧ M' = mm (up2 ci 43 0 0) cl cr dy ∧ nx = nx') ∨ (¬ n = 0 ∧ (z = 0 ∨ ¬ (up2 ci 43 0 0) 43 13 = 0) ∧ ∃ cc ll, rno z n (rs0 (up2 ci 43 0 0) cl) (tl z (up2 ci 43 0 0) + 1) = (cc, ll) ∧ r = some (.int (cc 43 20)) ∧ M' = mm (up2 (up2 cc 43 23 (rlF z cc)) 43 19 1) ll cr dy ∧ nx = nx')) := by
  refine CT_intro (by decide) (Nat.le_of_ble_eq_true rfl) (fun Γ hΓ hQ => ?_)
  replace hΓ : CK E RX12 cX12_run 6 (some .int) "run" 3 0 0 Γ := hΓ
  show SV E Γ 6 (mm ci cl cr dy) nx 0 0 0 [(0, .ref 43), (1, .int z)] []
  refine sv_aload_n hΓ dX12_run_0 rfl 0 rfl rfl ?_
  refine sv_iconst (v := 0) hΓ dX12_run_1 (by decide) rfl ?_
  refine p_X12_99_43 hΓ dX12_run_2 rfl ?_
  generalize hc0 : up2 ci 43 0 0 = c0 at hQ ⊢
  replace hn : c0 43 1 = nI n := by rw [← hc0]; exact hn
  replace hwf : ∀ i, i < n → WF c0 i := by rw [← hc0]; exact hwf
  replace h16 : c0 43 16 = nI TT := by rw [← hc0]; exact h16
  replace hfd : ∀ p, p < 4 → ∃ f, f ≤ 20 ∧ c0 52 p = nI f := by rw [← hc0]; exact hfd
  refine sv_aload_n hΓ dX12_run_5 rfl 0 rfl rfl ?_
  refine g_X12_103_43 hΓ dX12_run_6 rfl ?_
  refine sv_if_ne (tgt := 15) hΓ dX12_run_9 (by decide) rfl (fun u1 => ?_) (fun u1 => ?_)
  · replace u1 : ¬ ((c0 43 1) : Int32) = 0 := u1
    replace u1 : ¬ n = 0 := fun e => u1 (by rw [hn, e]; rfl)
    have hn0 := u1
    have J29 : (z = 0 ∨ ¬ c0 43 13 = 0) → SV E Γ 6 (mm c0 cl cr dy) nx 0 0 29 [(0, .ref 43), (1, .int z)] [] := by
      intro hzl
      refine sv_iconst (v := 0) hΓ dX12_run_29 (by decide) rfl ?_
      refine sv_istore_n (lv' := [(2, .int 0), (0, .ref 43), (1, .int z)]) hΓ dX12_run_30 rfl (by decide) rfl rfl ?_
      have LP31 : ∀ kq p : Nat, p + kq = 4 → SV E Γ 6 (mm (tpC c0 p) cl cr dy) nx 0 0 31 [(2, .int (nI p)), (0, .ref 43), (1, .int z)] [] := by
        intro kq
        induction kq with
        | zero =>
          intro p ha
          have ea : p = 4 := by omega
          obtain rfl : 4 = p := by omega
          refine sv_iload_n hΓ dX12_run_31 rfl 0 rfl rfl ?_
          refine sv_iconst (v := 4) hΓ dX12_run_32 (by decide) rfl ?_
          refine sv_icmp_ge (tgt := 56) hΓ dX12_run_33 (by decide) rfl (fun u2 => ?_) (fun u2 => absurd (nI_le (a := 4) (by omega) (by omega)) u2)
          replace u2 : 4 ≤ ((nI 4) : Int32) := u2
          refine sv_iconst (v := 0) hΓ dX12_run_56 (by decide) rfl ?_
          refine sv_istore_n (lv' := [(2, .int 0), (0, .ref 43), (1, .int z)]) hΓ dX12_run_57 rfl (by decide) rfl rfl ?_
          have LP58 : ∀ kq i : Nat, i + kq = 16 → SV E Γ 6 (mm (tpC c0 4) (rcL cl i) cr dy) nx 0 0 58 [(2, .int (nI i)), (0, .ref 43), (1, .int z)] [] := by
            intro kq
            induction kq with
            | zero =>
              intro i ha
              have ea : i = 16 := by omega
              obtain rfl : 16 = i := by omega
              refine sv_iload_n hΓ dX12_run_58 rfl 0 rfl rfl ?_
              refine sv_bipush (v := 16) hΓ dX12_run_59 (by decide) rfl ?_
              refine sv_icmp_ge (tgt := 82) hΓ dX12_run_61 (by decide) rfl (fun u3 => ?_) (fun u3 => absurd (nI_le (a := 16) (by omega) (by omega)) u3)
              replace u3 : 16 ≤ ((nI 16) : Int32) := u3
              refine sv_aload_n hΓ dX12_run_82 rfl 1 rfl rfl ?_
              refine sv_iconst (v := 0) hΓ dX12_run_83 (by decide) rfl ?_
              refine p_X12_257_43 hΓ dX12_run_84 rfl ?_
              refine sv_aload_n hΓ dX12_run_87 rfl 1 rfl rfl ?_
              refine sv_bipush (v := (-2)) hΓ dX12_run_88 (by decide) rfl ?_
              refine p_X12_260_43 hΓ dX12_run_90 rfl ?_
              refine sv_aload_n hΓ dX12_run_93 rfl 1 rfl rfl ?_
              refine sv_iconst (v := 0) hΓ dX12_run_94 (by decide) rfl ?_
              refine p_X12_247_43 hΓ dX12_run_95 rfl ?_
              refine sv_iload_n hΓ dX12_run_98 rfl 2 rfl rfl ?_
              refine sv_if_eq (tgt := 109) hΓ dX12_run_99 (by decide) rfl (fun u4 => ?_) (fun u4 => ?_)
              · replace u4 : (z : Int32) = 0 := u4
                refine sv_iconst (v := 0) hΓ dX12_run_109 (by decide) rfl ?_
                obtain ⟨T, hT1, hTl, hTz⟩ : ∃ T, T ≤ 1000 ∧ tl z c0 = T ∧ (z = 0 → T = 0) := ⟨tl z c0, tl_le h16 h17, rfl, fun e => if_pos e⟩
                have e0 : nI T = (0 : Int32) := by rw [← hTl, tl, if_pos u4]; rfl
                refine (show SV E Γ 6 (mm (up2 (up2 (up2 (tpC c0 4) 43 20 0) 43 21 ((-2))) 43 22 0) (rcL cl 16) cr dy) nx 0 0 110 [(2, .int (nI 16)), (0, .ref 43), (1, .int z)] [.int (nI T)] → SV E Γ 6 (mm (up2 (up2 (up2 (tpC c0 4) 43 20 0) 43 21 ((-2))) 43 22 0) (rcL cl 16) cr dy) nx 0 0 110 [(2, .int (nI 16)), (0, .ref 43), (1, .int z)] [.int 0] from fun h => by rw [e0] at h; exact h) ?_
                have HWF : ∀ i, i < n → WF (rs0 c0 cl).1 i := fun i hi => rs0_WF (hwf i hi)
                have HO : ∀ t, t ≤ 1001 → (z = 0 → t ≤ 1) → RV (rs0 c0 cl).1 n (cb (bgd z ((rs0 c0 cl).1 55) t 0) n) (rno z n (rs0 c0 cl) t) := fun t h1 h2 => RV_no HWF (rs0_RV hfd) t (by omega) h2
                have HV : ∀ t a, t ≤ 1000 → a ≤ n → (z = 0 → t = 0) → RV (rs0 c0 cl).1 n (cb (bgd z ((rs0 c0 cl).1 55) t a) n) (rni z (nI t) (rno z n (rs0 c0 cl) t) a) := fun t a h1 h2 h3 => RV_ni HWF h3 (HO t (by omega) (fun e => by have := h3 e; omega)) a h2
                have HN1 : ∀ t a, t ≤ 1000 → a ≤ n → (z = 0 → t = 0) → (rni z (nI t) (rno z n (rs0 c0 cl) t) a).1 43 1 = nI n := fun t a h1 h2 h3 => by rw [(HV t a h1 h2 h3).2.1 1 (by decide) (by decide) (by decide)]; exact (congrFun (tpC_k c0 (by decide) (by decide) 4) 1).trans hn
                refine sv_istore_n (lv' := [(2, .int (nI T)), (0, .ref 43), (1, .int z)]) hΓ dX12_run_110 rfl (by decide) rfl rfl ?_
                refine sv_iconst (v := 0) hΓ dX12_run_111 (by decide) rfl ?_
                refine sv_istore_n (lv' := [(3, .int 0), (2, .int (nI T)), (0, .ref 43), (1, .int z)]) hΓ dX12_run_112 rfl (by decide) rfl rfl ?_
                have LP113 : ∀ kq t : Nat, t + kq = T + 1 → SV E Γ 6 (mm ((rno z n (rs0 c0 cl) t).1) ((rno z n (rs0 c0 cl) t).2) cr dy) nx 0 0 113 [(3, .int (nI t)), (2, .int (nI T)), (0, .ref 43), (1, .int z)] [] := by
                  intro kq
                  induction kq with
                  | zero =>
                    intro t ha
                    have ea : t = T + 1 := by omega
                    refine sv_iload_n hΓ dX12_run_113 rfl 0 rfl rfl ?_
                    refine sv_iload_n hΓ dX12_run_114 rfl 1 rfl rfl ?_
                    refine sv_icmp_gt (tgt := 201) hΓ dX12_run_115 (by decide) rfl (fun u5 => ?_) (fun u5 => absurd (nI_lt (by omega) (by omega)) u5)
                    replace u5 : (nI T) < ((nI t) : Int32) := u5
                    obtain ⟨cc, ll, hcl⟩ : ∃ cc ll, rno z n (rs0 c0 cl) (T + 1) = (cc, ll) := ⟨_, _, rfl⟩
                    have hV := HO (T + 1) (by omega) (fun e => by have := hTz e; omega)
                    rw [hcl] at hV
                    rw [show t = T + 1 by omega, hcl]
                    show SV E Γ 6 (mm cc ll cr dy) nx 0 0 201 [(3, .int (nI (T + 1))), (2, .int (nI T)), (0, .ref 43), (1, .int z)] []
                    refine sv_aload_n hΓ dX12_run_201 rfl 2 rfl rfl ?_
                    refine sv_iload_n hΓ dX12_run_202 rfl 3 rfl rfl ?_
                    refine sv_if_ne (tgt := 210) hΓ dX12_run_203 (by decide) rfl (fun u6 => ?_) (fun u6 => ?_)
                    · replace u6 : ¬ (z : Int32) = 0 := u6
                      refine sv_aload_n hΓ dX12_run_210 rfl 2 rfl rfl ?_
                      refine g_X12_260_43 hΓ dX12_run_211 rfl ?_
                      refine sv_if_ge (tgt := 224) hΓ dX12_run_214 (by decide) rfl (fun u7 => ?_) (fun u7 => ?_)
                      · replace u7 : 0 ≤ ((cc 43 21) : Int32) := u7
                        obtain ⟨f, hf, ef⟩ := RV_f hV u7
                        refine sv_aload_n hΓ dX12_run_224 rfl 2 rfl rfl ?_
                        refine g_X12_45_43 hΓ dX12_run_225 rfl ?_
                        refine sv_aload_n hΓ dX12_run_228 rfl 2 rfl rfl ?_
                        refine g_X12_260_43 hΓ dX12_run_229 rfl ?_
                        refine ai_55 hΓ (f) ef (by omega) dX12_run_232 rfl ?_
                        refine p_X12_266_43 hΓ dX12_run_233 rfl ?_
                        refine sv_aload_n hΓ dX12_run_236 rfl 2 rfl rfl ?_
                        refine sv_iconst (v := 1) hΓ dX12_run_237 (by decide) rfl ?_
                        refine p_X12_110_43 hΓ ⟨rfl, rfl⟩ dX12_run_238 rfl ?_
                        refine sv_aload_n hΓ dX12_run_241 rfl 2 rfl rfl ?_
                        refine g_X12_257_43 hΓ dX12_run_242 rfl ?_
                        exact sv_iret hΓ hQ dX12_run_245 (Nat.le_of_ble_eq_true rfl) (Nat.le_of_ble_eq_true rfl) (Or.inr (Or.inr ⟨hn0, hzl, cc, ll, by rw [hTl]; exact hcl, rfl, by rw [show rlF z cc = _ from (if_neg u6).trans (if_pos u7)]; rw [ef, nI_clamp (by omega)], rfl⟩))
                      · replace u7 : ¬ (0 ≤ ((cc 43 21) : Int32)) := u7
                        refine sv_aload_n hΓ dX12_run_217 rfl 2 rfl rfl ?_
                        refine g_X12_210_43 hΓ dX12_run_218 rfl ?_
                        refine sv_goto (pc' := 233) hΓ dX12_run_221 (by decide) ?_
                        refine p_X12_266_43 hΓ dX12_run_233 rfl ?_
                        refine sv_aload_n hΓ dX12_run_236 rfl 2 rfl rfl ?_
                        refine sv_iconst (v := 1) hΓ dX12_run_237 (by decide) rfl ?_
                        refine p_X12_110_43 hΓ ⟨rfl, rfl⟩ dX12_run_238 rfl ?_
                        refine sv_aload_n hΓ dX12_run_241 rfl 2 rfl rfl ?_
                        refine g_X12_257_43 hΓ dX12_run_242 rfl ?_
                        exact sv_iret hΓ hQ dX12_run_245 (Nat.le_of_ble_eq_true rfl) (Nat.le_of_ble_eq_true rfl) (Or.inr (Or.inr ⟨hn0, hzl, cc, ll, by rw [hTl]; exact hcl, rfl, by rw [show rlF z cc = _ from (if_neg u6).trans (if_neg u7)], rfl⟩))
                    · replace u6 : (z : Int32) = 0 := u6
                      refine sv_iconst (v := 0) hΓ dX12_run_206 (by decide) rfl ?_
                      refine sv_goto (pc' := 233) hΓ dX12_run_207 (by decide) ?_
                      refine p_X12_266_43 hΓ dX12_run_233 rfl ?_
                      refine sv_aload_n hΓ dX12_run_236 rfl 2 rfl rfl ?_
                      refine sv_iconst (v := 1) hΓ dX12_run_237 (by decide) rfl ?_
                      refine p_X12_110_43 hΓ ⟨rfl, rfl⟩ dX12_run_238 rfl ?_
                      refine sv_aload_n hΓ dX12_run_241 rfl 2 rfl rfl ?_
                      refine g_X12_257_43 hΓ dX12_run_242 rfl ?_
                      exact sv_iret hΓ hQ dX12_run_245 (Nat.le_of_ble_eq_true rfl) (Nat.le_of_ble_eq_true rfl) (Or.inr (Or.inr ⟨hn0, hzl, cc, ll, by rw [hTl]; exact hcl, rfl, by rw [show rlF z cc = _ from if_pos u6], rfl⟩))
                  | succ kq ih =>
                    intro t ha
                    have htz : z = 0 → t = 0 := fun e => by have := hTz e; omega
                    refine sv_iload_n hΓ dX12_run_113 rfl 0 rfl rfl ?_
                    refine sv_iload_n hΓ dX12_run_114 rfl 1 rfl rfl ?_
                    refine sv_icmp_gt (tgt := 201) hΓ dX12_run_115 (by decide) rfl (fun u8 => absurd u8 (nI_nlt (by omega) (by omega))) (fun u8 => ?_)
                    replace u8 : ¬ ((nI T) < ((nI t) : Int32)) := u8
                    refine sv_iconst (v := 0) hΓ dX12_run_118 (by decide) rfl ?_
                    refine sv_istore (lv' := [(4, .int 0), (3, .int (nI t)), (2, .int (nI T)), (0, .ref 43), (1, .int z)]) hΓ dX12_run_119 (by decide) rfl rfl ?_
                    have LP121 : ∀ kq a : Nat, a + kq = n → SV E Γ 6 (mm ((rni z (nI t) (rno z n (rs0 c0 cl) t) a).1) ((rni z (nI t) (rno z n (rs0 c0 cl) t) a).2) cr dy) nx 0 0 121 [(4, .int (nI a)), (3, .int (nI t)), (2, .int (nI T)), (0, .ref 43), (1, .int z)] [] := by
                      intro kq
                      induction kq with
                      | zero =>
                        intro a ha
                        have ea : a = n := by omega
                        obtain rfl : n = a := by omega
                        refine sv_iload hΓ dX12_run_121 0 rfl rfl ?_
                        refine sv_aload_n hΓ dX12_run_123 rfl 3 rfl rfl ?_
                        refine g_X12_103_43 hΓ dX12_run_124 rfl ?_
                        refine sv_icmp_ge (tgt := 195) hΓ dX12_run_127 (by decide) rfl (fun u9 => ?_) (fun u9 => absurd (by rw [HN1 t _ (by omega) (by omega) htz]; exact nI_le (by omega) (by omega)) u9)
                        replace u9 : (((rni z (nI t) (rno z n (rs0 c0 cl) t) n).1) 43 1) ≤ ((nI n) : Int32) := u9
                        refine sv_iinc (v := nI (t + 1)) (lv' := [(3, .int (nI (t + 1))), (4, .int (nI n)), (2, .int (nI T)), (0, .ref 43), (1, .int z)]) hΓ dX12_run_195 1 rfl (nx_inc rfl) (by decide) rfl rfl ?_
                        refine sv_goto (pc' := 113) hΓ dX12_run_198 (by decide) ?_
                        have q := ih (t + 1) (by omega)
                        exact SV_lv [0, 2, 3, 4] rfl q
                      | succ kq ih =>
                        intro a ha
                        refine sv_iload hΓ dX12_run_121 0 rfl rfl ?_
                        refine sv_aload_n hΓ dX12_run_123 rfl 3 rfl rfl ?_
                        refine g_X12_103_43 hΓ dX12_run_124 rfl ?_
                        refine sv_icmp_ge (tgt := 195) hΓ dX12_run_127 (by decide) rfl (fun u10 => absurd u10 (by rw [HN1 t _ (by omega) (by omega) htz]; exact nI_ge (by omega) (by omega))) (fun u10 => ?_)
                        replace u10 : ¬ ((((rni z (nI t) (rno z n (rs0 c0 cl) t) a).1) 43 1) ≤ ((nI a) : Int32)) := u10
                        obtain ⟨cc, ll, hcl⟩ : ∃ cc ll, (rni z (nI t) (rno z n (rs0 c0 cl) t) a) = (cc, ll) := ⟨_, _, rfl⟩
                        have hV := HV t a (by omega) (by omega) htz
                        rw [hcl] at hV
                        rw [hcl]
                        show SV E Γ 6 (mm cc ll cr dy) nx 0 0 130 [(4, .int (nI a)), (3, .int (nI t)), (2, .int (nI T)), (0, .ref 43), (1, .int z)] []
                        refine sv_iload_n hΓ dX12_run_130 rfl 4 rfl rfl ?_
                        refine sv_if_eq (tgt := 145) hΓ dX12_run_131 (by decide) rfl (fun u11 => ?_) (fun u11 => ?_)
                        · replace u11 : (z : Int32) = 0 := u11
                          refine sv_aload_n hΓ dX12_run_145 rfl 3 rfl rfl ?_
                          refine g_X12_260_43 hΓ dX12_run_146 rfl ?_
                          refine sv_if_lt (tgt := 164) hΓ dX12_run_149 (by decide) rfl (fun u12 => ?_) (fun u12 => ?_)
                          · replace u12 : ((cc 43 21) : Int32) < 0 := u12
                            have hP := RV_pre hV (bgd_16 hn6 (by omega) htz (fun e => absurd u11 e)) (HWF a (by omega))
                            have hWa := RV_wf hV (HWF a (by omega))
                            refine sv_aload_n hΓ dX12_run_164 rfl 3 rfl rfl ?_
                            refine sv_iload hΓ dX12_run_165 0 rfl rfl ?_
                            refine sv_callV hΓ (fun l => ct_X12_begin l a (by omega) hWa hP) wv_X12_263 vs_X12_begin rfl m_43 rfl rfl (by decide) (Nat.le_of_ble_eq_true rfl) (Nat.le_of_ble_eq_true rfl) (Nat.le_of_ble_eq_true rfl) dX12_run_167 rfl (fun r M' nx' p13 => ?_)
                            obtain ⟨rfl, rfl, rfl⟩ := p13
                            show SV E Γ 6 (mm (bgI (up2 cc 43 22 (cc 43 22 + 1)) ll a) (bgL (up2 cc 43 22 (cc 43 22 + 1)) ll a) cr dy) nx 0 0 170 [(4, .int (nI a)), (3, .int (nI t)), (2, .int (nI T)), (0, .ref 43), (1, .int z)] [.int (bgR (up2 cc 43 22 (cc 43 22 + 1)) ll a)]
                            refine sv_istore (lv' := [(5, .int (bgR (up2 cc 43 22 (cc 43 22 + 1)) ll a)), (4, .int (nI a)), (3, .int (nI t)), (2, .int (nI T)), (0, .ref 43), (1, .int z)]) hΓ dX12_run_170 (by decide) rfl rfl ?_
                            refine sv_iload hΓ dX12_run_172 0 rfl rfl ?_
                            refine sv_if_le (tgt := 189) hΓ dX12_run_174 (by decide) rfl (fun u14 => ?_) (fun u14 => ?_)
                            · replace u14 : ((bgR (up2 cc 43 22 (cc 43 22 + 1)) ll a) : Int32) ≤ 0 := u14
                              refine sv_iinc (v := nI (a + 1)) (lv' := [(4, .int (nI (a + 1))), (5, .int (bgR (up2 cc 43 22 (cc 43 22 + 1)) ll a)), (3, .int (nI t)), (2, .int (nI T)), (0, .ref 43), (1, .int z)]) hΓ dX12_run_189 1 rfl (nx_inc rfl) (by decide) rfl rfl ?_
                              refine sv_goto (pc' := 121) hΓ dX12_run_192 (by decide) ?_
                              have q := ih (a + 1) (by omega)
                              rw [show rni z (nI t) (rno z n (rs0 c0 cl) t) (a + 1) = (bgI (up2 cc 43 22 (cc 43 22 + 1)) ll a, bgL (up2 cc 43 22 (cc 43 22 + 1)) ll a) from by show rnS z (nI t) (rni z (nI t) (rno z n (rs0 c0 cl) t) a) a = _; rw [hcl]; simp only [rnS, stp, bgn]; rw [if_pos u11, if_pos u12, if_pos u14]] at q
                              exact SV_lv [0, 2, 3, 4, 5] rfl q
                            · replace u14 : ¬ (((bgR (up2 cc 43 22 (cc 43 22 + 1)) ll a) : Int32) ≤ 0) := u14
                              refine sv_aload_n hΓ dX12_run_177 rfl 4 rfl rfl ?_
                              refine sv_iload hΓ dX12_run_178 0 rfl rfl ?_
                              refine p_X12_257_43 hΓ dX12_run_180 rfl ?_
                              refine sv_aload_n hΓ dX12_run_183 rfl 4 rfl rfl ?_
                              refine sv_iload hΓ dX12_run_184 1 rfl rfl ?_
                              refine p_X12_260_43 hΓ dX12_run_186 rfl ?_
                              refine sv_iinc (v := nI (a + 1)) (lv' := [(4, .int (nI (a + 1))), (5, .int (bgR (up2 cc 43 22 (cc 43 22 + 1)) ll a)), (3, .int (nI t)), (2, .int (nI T)), (0, .ref 43), (1, .int z)]) hΓ dX12_run_189 1 rfl (nx_inc rfl) (by decide) rfl rfl ?_
                              refine sv_goto (pc' := 121) hΓ dX12_run_192 (by decide) ?_
                              have q := ih (a + 1) (by omega)
                              rw [show rni z (nI t) (rno z n (rs0 c0 cl) t) (a + 1) = (up2 (up2 (bgI (up2 cc 43 22 (cc 43 22 + 1)) ll a) 43 20 (bgR (up2 cc 43 22 (cc 43 22 + 1)) ll a)) 43 21 (nI a), bgL (up2 cc 43 22 (cc 43 22 + 1)) ll a) from by show rnS z (nI t) (rni z (nI t) (rno z n (rs0 c0 cl) t) a) a = _; rw [hcl]; simp only [rnS, stp, bgn]; rw [if_pos u11, if_pos u12, if_neg u14]] at q
                              exact SV_lv [0, 2, 3, 4, 5] rfl q
                          · replace u12 : ¬ (((cc 43 21) : Int32) < 0) := u12
                            refine sv_iload hΓ dX12_run_152 0 rfl rfl ?_
                            refine sv_aload_n hΓ dX12_run_154 rfl 3 rfl rfl ?_
                            refine g_X12_260_43 hΓ dX12_run_155 rfl ?_
                            refine sv_icmp_le (tgt := 164) hΓ dX12_run_158 (by decide) rfl (fun u15 => ?_) (fun u15 => ?_)
                            · replace u15 : ((nI a) : Int32) ≤ (cc 43 21) := u15
                              have hP := RV_pre hV (bgd_16 hn6 (by omega) htz (fun e => absurd u11 e)) (HWF a (by omega))
                              have hWa := RV_wf hV (HWF a (by omega))
                              refine sv_aload_n hΓ dX12_run_164 rfl 3 rfl rfl ?_
                              refine sv_iload hΓ dX12_run_165 0 rfl rfl ?_
                              refine sv_callV hΓ (fun l => ct_X12_begin l a (by omega) hWa hP) wv_X12_263 vs_X12_begin rfl m_43 rfl rfl (by decide) (Nat.le_of_ble_eq_true rfl) (Nat.le_of_ble_eq_true rfl) (Nat.le_of_ble_eq_true rfl) dX12_run_167 rfl (fun r M' nx' p16 => ?_)
                              obtain ⟨rfl, rfl, rfl⟩ := p16
                              show SV E Γ 6 (mm (bgI (up2 cc 43 22 (cc 43 22 + 1)) ll a) (bgL (up2 cc 43 22 (cc 43 22 + 1)) ll a) cr dy) nx 0 0 170 [(4, .int (nI a)), (3, .int (nI t)), (2, .int (nI T)), (0, .ref 43), (1, .int z)] [.int (bgR (up2 cc 43 22 (cc 43 22 + 1)) ll a)]
                              refine sv_istore (lv' := [(5, .int (bgR (up2 cc 43 22 (cc 43 22 + 1)) ll a)), (4, .int (nI a)), (3, .int (nI t)), (2, .int (nI T)), (0, .ref 43), (1, .int z)]) hΓ dX12_run_170 (by decide) rfl rfl ?_
                              refine sv_iload hΓ dX12_run_172 0 rfl rfl ?_
                              refine sv_if_le (tgt := 189) hΓ dX12_run_174 (by decide) rfl (fun u17 => ?_) (fun u17 => ?_)
                              · replace u17 : ((bgR (up2 cc 43 22 (cc 43 22 + 1)) ll a) : Int32) ≤ 0 := u17
                                refine sv_iinc (v := nI (a + 1)) (lv' := [(4, .int (nI (a + 1))), (5, .int (bgR (up2 cc 43 22 (cc 43 22 + 1)) ll a)), (3, .int (nI t)), (2, .int (nI T)), (0, .ref 43), (1, .int z)]) hΓ dX12_run_189 1 rfl (nx_inc rfl) (by decide) rfl rfl ?_
                                refine sv_goto (pc' := 121) hΓ dX12_run_192 (by decide) ?_
                                have q := ih (a + 1) (by omega)
                                rw [show rni z (nI t) (rno z n (rs0 c0 cl) t) (a + 1) = (bgI (up2 cc 43 22 (cc 43 22 + 1)) ll a, bgL (up2 cc 43 22 (cc 43 22 + 1)) ll a) from by show rnS z (nI t) (rni z (nI t) (rno z n (rs0 c0 cl) t) a) a = _; rw [hcl]; simp only [rnS, stp, bgn]; rw [if_pos u11, if_neg u12, if_pos u15, if_pos u17]] at q
                                exact SV_lv [0, 2, 3, 4, 5] rfl q
                              · replace u17 : ¬ (((bgR (up2 cc 43 22 (cc 43 22 + 1)) ll a) : Int32) ≤ 0) := u17
                                refine sv_aload_n hΓ dX12_run_177 rfl 4 rfl rfl ?_
                                refine sv_iload hΓ dX12_run_178 0 rfl rfl ?_
                                refine p_X12_257_43 hΓ dX12_run_180 rfl ?_
                                refine sv_aload_n hΓ dX12_run_183 rfl 4 rfl rfl ?_
                                refine sv_iload hΓ dX12_run_184 1 rfl rfl ?_
                                refine p_X12_260_43 hΓ dX12_run_186 rfl ?_
                                refine sv_iinc (v := nI (a + 1)) (lv' := [(4, .int (nI (a + 1))), (5, .int (bgR (up2 cc 43 22 (cc 43 22 + 1)) ll a)), (3, .int (nI t)), (2, .int (nI T)), (0, .ref 43), (1, .int z)]) hΓ dX12_run_189 1 rfl (nx_inc rfl) (by decide) rfl rfl ?_
                                refine sv_goto (pc' := 121) hΓ dX12_run_192 (by decide) ?_
                                have q := ih (a + 1) (by omega)
                                rw [show rni z (nI t) (rno z n (rs0 c0 cl) t) (a + 1) = (up2 (up2 (bgI (up2 cc 43 22 (cc 43 22 + 1)) ll a) 43 20 (bgR (up2 cc 43 22 (cc 43 22 + 1)) ll a)) 43 21 (nI a), bgL (up2 cc 43 22 (cc 43 22 + 1)) ll a) from by show rnS z (nI t) (rni z (nI t) (rno z n (rs0 c0 cl) t) a) a = _; rw [hcl]; simp only [rnS, stp, bgn]; rw [if_pos u11, if_neg u12, if_pos u15, if_neg u17]] at q
                                exact SV_lv [0, 2, 3, 4, 5] rfl q
                            · replace u15 : ¬ (((nI a) : Int32) ≤ (cc 43 21)) := u15
                              refine sv_goto (pc' := 189) hΓ dX12_run_161 (by decide) ?_
                              refine sv_iinc (v := nI (a + 1)) (lv' := [(4, .int (nI (a + 1))), (3, .int (nI t)), (2, .int (nI T)), (0, .ref 43), (1, .int z)]) hΓ dX12_run_189 0 rfl (nx_inc rfl) (by decide) rfl rfl ?_
                              refine sv_goto (pc' := 121) hΓ dX12_run_192 (by decide) ?_
                              have q := ih (a + 1) (by omega)
                              rw [show rni z (nI t) (rno z n (rs0 c0 cl) t) (a + 1) = (cc, ll) from by show rnS z (nI t) (rni z (nI t) (rno z n (rs0 c0 cl) t) a) a = _; rw [hcl]; simp only [rnS, stp, bgn]; rw [if_pos u11, if_neg u12, if_neg u15]] at q
                              exact SV_lv [0, 1, 2, 3, 4] rfl q
                        · replace u11 : ¬ ((z : Int32) = 0) := u11
                          refine sv_aload_n hΓ dX12_run_134 rfl 3 rfl rfl ?_
                          refine g_X12_45_43 hΓ dX12_run_135 rfl ?_
                          refine sv_iload hΓ dX12_run_138 0 rfl rfl ?_
                          refine ai_55 hΓ (a) rfl (by omega) dX12_run_140 rfl ?_
                          refine sv_iload_n hΓ dX12_run_141 rfl 1 rfl rfl ?_
                          refine sv_icmp_ne (tgt := 189) hΓ dX12_run_142 (by decide) rfl (fun u18 => ?_) (fun u18 => ?_)
                          · replace u18 : ¬ ((cc 55 a) : Int32) = (nI t) := u18
                            refine sv_iinc (v := nI (a + 1)) (lv' := [(4, .int (nI (a + 1))), (3, .int (nI t)), (2, .int (nI T)), (0, .ref 43), (1, .int z)]) hΓ dX12_run_189 0 rfl (nx_inc rfl) (by decide) rfl rfl ?_
                            refine sv_goto (pc' := 121) hΓ dX12_run_192 (by decide) ?_
                            have q := ih (a + 1) (by omega)
                            rw [show rni z (nI t) (rno z n (rs0 c0 cl) t) (a + 1) = (cc, ll) from by show rnS z (nI t) (rni z (nI t) (rno z n (rs0 c0 cl) t) a) a = _; rw [hcl]; simp only [rnS, stp, bgn]; rw [if_neg u11, if_neg u18]] at q
                            exact SV_lv [0, 1, 2, 3, 4] rfl q
                          · replace u18 : ((cc 55 a) : Int32) = (nI t) := u18
                            refine sv_aload_n hΓ dX12_run_145 rfl 3 rfl rfl ?_
                            refine g_X12_260_43 hΓ dX12_run_146 rfl ?_
                            refine sv_if_lt (tgt := 164) hΓ dX12_run_149 (by decide) rfl (fun u19 => ?_) (fun u19 => ?_)
                            · replace u19 : ((cc 43 21) : Int32) < 0 := u19
                              have hP := RV_pre hV (bgd_16 hn6 (by omega) htz (fun _ => (congrFun (hV.1 55 (by decide) (by decide) (by decide)).symm a).trans u18)) (HWF a (by omega))
                              have hWa := RV_wf hV (HWF a (by omega))
                              refine sv_aload_n hΓ dX12_run_164 rfl 3 rfl rfl ?_
                              refine sv_iload hΓ dX12_run_165 0 rfl rfl ?_
                              refine sv_callV hΓ (fun l => ct_X12_begin l a (by omega) hWa hP) wv_X12_263 vs_X12_begin rfl m_43 rfl rfl (by decide) (Nat.le_of_ble_eq_true rfl) (Nat.le_of_ble_eq_true rfl) (Nat.le_of_ble_eq_true rfl) dX12_run_167 rfl (fun r M' nx' p20 => ?_)
                              obtain ⟨rfl, rfl, rfl⟩ := p20
                              show SV E Γ 6 (mm (bgI (up2 cc 43 22 (cc 43 22 + 1)) ll a) (bgL (up2 cc 43 22 (cc 43 22 + 1)) ll a) cr dy) nx 0 0 170 [(4, .int (nI a)), (3, .int (nI t)), (2, .int (nI T)), (0, .ref 43), (1, .int z)] [.int (bgR (up2 cc 43 22 (cc 43 22 + 1)) ll a)]
                              refine sv_istore (lv' := [(5, .int (bgR (up2 cc 43 22 (cc 43 22 + 1)) ll a)), (4, .int (nI a)), (3, .int (nI t)), (2, .int (nI T)), (0, .ref 43), (1, .int z)]) hΓ dX12_run_170 (by decide) rfl rfl ?_
                              refine sv_iload hΓ dX12_run_172 0 rfl rfl ?_
                              refine sv_if_le (tgt := 189) hΓ dX12_run_174 (by decide) rfl (fun u21 => ?_) (fun u21 => ?_)
                              · replace u21 : ((bgR (up2 cc 43 22 (cc 43 22 + 1)) ll a) : Int32) ≤ 0 := u21
                                refine sv_iinc (v := nI (a + 1)) (lv' := [(4, .int (nI (a + 1))), (5, .int (bgR (up2 cc 43 22 (cc 43 22 + 1)) ll a)), (3, .int (nI t)), (2, .int (nI T)), (0, .ref 43), (1, .int z)]) hΓ dX12_run_189 1 rfl (nx_inc rfl) (by decide) rfl rfl ?_
                                refine sv_goto (pc' := 121) hΓ dX12_run_192 (by decide) ?_
                                have q := ih (a + 1) (by omega)
                                rw [show rni z (nI t) (rno z n (rs0 c0 cl) t) (a + 1) = (bgI (up2 cc 43 22 (cc 43 22 + 1)) ll a, bgL (up2 cc 43 22 (cc 43 22 + 1)) ll a) from by show rnS z (nI t) (rni z (nI t) (rno z n (rs0 c0 cl) t) a) a = _; rw [hcl]; simp only [rnS, stp, bgn]; rw [if_neg u11, if_pos u18, if_pos u19, if_pos u21]] at q
                                exact SV_lv [0, 2, 3, 4, 5] rfl q
                              · replace u21 : ¬ (((bgR (up2 cc 43 22 (cc 43 22 + 1)) ll a) : Int32) ≤ 0) := u21
                                refine sv_aload_n hΓ dX12_run_177 rfl 4 rfl rfl ?_
                                refine sv_iload hΓ dX12_run_178 0 rfl rfl ?_
                                refine p_X12_257_43 hΓ dX12_run_180 rfl ?_
                                refine sv_aload_n hΓ dX12_run_183 rfl 4 rfl rfl ?_
                                refine sv_iload hΓ dX12_run_184 1 rfl rfl ?_
                                refine p_X12_260_43 hΓ dX12_run_186 rfl ?_
                                refine sv_iinc (v := nI (a + 1)) (lv' := [(4, .int (nI (a + 1))), (5, .int (bgR (up2 cc 43 22 (cc 43 22 + 1)) ll a)), (3, .int (nI t)), (2, .int (nI T)), (0, .ref 43), (1, .int z)]) hΓ dX12_run_189 1 rfl (nx_inc rfl) (by decide) rfl rfl ?_
                                refine sv_goto (pc' := 121) hΓ dX12_run_192 (by decide) ?_
                                have q := ih (a + 1) (by omega)
                                rw [show rni z (nI t) (rno z n (rs0 c0 cl) t) (a + 1) = (up2 (up2 (bgI (up2 cc 43 22 (cc 43 22 + 1)) ll a) 43 20 (bgR (up2 cc 43 22 (cc 43 22 + 1)) ll a)) 43 21 (nI a), bgL (up2 cc 43 22 (cc 43 22 + 1)) ll a) from by show rnS z (nI t) (rni z (nI t) (rno z n (rs0 c0 cl) t) a) a = _; rw [hcl]; simp only [rnS, stp, bgn]; rw [if_neg u11, if_pos u18, if_pos u19, if_neg u21]] at q
                                exact SV_lv [0, 2, 3, 4, 5] rfl q
                            · replace u19 : ¬ (((cc 43 21) : Int32) < 0) := u19
                              refine sv_iload hΓ dX12_run_152 0 rfl rfl ?_
                              refine sv_aload_n hΓ dX12_run_154 rfl 3 rfl rfl ?_
                              refine g_X12_260_43 hΓ dX12_run_155 rfl ?_
                              refine sv_icmp_le (tgt := 164) hΓ dX12_run_158 (by decide) rfl (fun u22 => ?_) (fun u22 => ?_)
                              · replace u22 : ((nI a) : Int32) ≤ (cc 43 21) := u22
                                have hP := RV_pre hV (bgd_16 hn6 (by omega) htz (fun _ => (congrFun (hV.1 55 (by decide) (by decide) (by decide)).symm a).trans u18)) (HWF a (by omega))
                                have hWa := RV_wf hV (HWF a (by omega))
                                refine sv_aload_n hΓ dX12_run_164 rfl 3 rfl rfl ?_
                                refine sv_iload hΓ dX12_run_165 0 rfl rfl ?_
                                refine sv_callV hΓ (fun l => ct_X12_begin l a (by omega) hWa hP) wv_X12_263 vs_X12_begin rfl m_43 rfl rfl (by decide) (Nat.le_of_ble_eq_true rfl) (Nat.le_of_ble_eq_true rfl) (Nat.le_of_ble_eq_true rfl) dX12_run_167 rfl (fun r M' nx' p23 => ?_)
                                obtain ⟨rfl, rfl, rfl⟩ := p23
                                show SV E Γ 6 (mm (bgI (up2 cc 43 22 (cc 43 22 + 1)) ll a) (bgL (up2 cc 43 22 (cc 43 22 + 1)) ll a) cr dy) nx 0 0 170 [(4, .int (nI a)), (3, .int (nI t)), (2, .int (nI T)), (0, .ref 43), (1, .int z)] [.int (bgR (up2 cc 43 22 (cc 43 22 + 1)) ll a)]
                                refine sv_istore (lv' := [(5, .int (bgR (up2 cc 43 22 (cc 43 22 + 1)) ll a)), (4, .int (nI a)), (3, .int (nI t)), (2, .int (nI T)), (0, .ref 43), (1, .int z)]) hΓ dX12_run_170 (by decide) rfl rfl ?_
                                refine sv_iload hΓ dX12_run_172 0 rfl rfl ?_
                                refine sv_if_le (tgt := 189) hΓ dX12_run_174 (by decide) rfl (fun u24 => ?_) (fun u24 => ?_)
                                · replace u24 : ((bgR (up2 cc 43 22 (cc 43 22 + 1)) ll a) : Int32) ≤ 0 := u24
                                  refine sv_iinc (v := nI (a + 1)) (lv' := [(4, .int (nI (a + 1))), (5, .int (bgR (up2 cc 43 22 (cc 43 22 + 1)) ll a)), (3, .int (nI t)), (2, .int (nI T)), (0, .ref 43), (1, .int z)]) hΓ dX12_run_189 1 rfl (nx_inc rfl) (by decide) rfl rfl ?_
                                  refine sv_goto (pc' := 121) hΓ dX12_run_192 (by decide) ?_
                                  have q := ih (a + 1) (by omega)
                                  rw [show rni z (nI t) (rno z n (rs0 c0 cl) t) (a + 1) = (bgI (up2 cc 43 22 (cc 43 22 + 1)) ll a, bgL (up2 cc 43 22 (cc 43 22 + 1)) ll a) from by show rnS z (nI t) (rni z (nI t) (rno z n (rs0 c0 cl) t) a) a = _; rw [hcl]; simp only [rnS, stp, bgn]; rw [if_neg u11, if_pos u18, if_neg u19, if_pos u22, if_pos u24]] at q
                                  exact SV_lv [0, 2, 3, 4, 5] rfl q
                                · replace u24 : ¬ (((bgR (up2 cc 43 22 (cc 43 22 + 1)) ll a) : Int32) ≤ 0) := u24
                                  refine sv_aload_n hΓ dX12_run_177 rfl 4 rfl rfl ?_
                                  refine sv_iload hΓ dX12_run_178 0 rfl rfl ?_
                                  refine p_X12_257_43 hΓ dX12_run_180 rfl ?_
                                  refine sv_aload_n hΓ dX12_run_183 rfl 4 rfl rfl ?_
                                  refine sv_iload hΓ dX12_run_184 1 rfl rfl ?_
                                  refine p_X12_260_43 hΓ dX12_run_186 rfl ?_
                                  refine sv_iinc (v := nI (a + 1)) (lv' := [(4, .int (nI (a + 1))), (5, .int (bgR (up2 cc 43 22 (cc 43 22 + 1)) ll a)), (3, .int (nI t)), (2, .int (nI T)), (0, .ref 43), (1, .int z)]) hΓ dX12_run_189 1 rfl (nx_inc rfl) (by decide) rfl rfl ?_
                                  refine sv_goto (pc' := 121) hΓ dX12_run_192 (by decide) ?_
                                  have q := ih (a + 1) (by omega)
                                  rw [show rni z (nI t) (rno z n (rs0 c0 cl) t) (a + 1) = (up2 (up2 (bgI (up2 cc 43 22 (cc 43 22 + 1)) ll a) 43 20 (bgR (up2 cc 43 22 (cc 43 22 + 1)) ll a)) 43 21 (nI a), bgL (up2 cc 43 22 (cc 43 22 + 1)) ll a) from by show rnS z (nI t) (rni z (nI t) (rno z n (rs0 c0 cl) t) a) a = _; rw [hcl]; simp only [rnS, stp, bgn]; rw [if_neg u11, if_pos u18, if_neg u19, if_pos u22, if_neg u24]] at q
                                  exact SV_lv [0, 2, 3, 4, 5] rfl q
                              · replace u22 : ¬ (((nI a) : Int32) ≤ (cc 43 21)) := u22
                                refine sv_goto (pc' := 189) hΓ dX12_run_161 (by decide) ?_
                                refine sv_iinc (v := nI (a + 1)) (lv' := [(4, .int (nI (a + 1))), (3, .int (nI t)), (2, .int (nI T)), (0, .ref 43), (1, .int z)]) hΓ dX12_run_189 0 rfl (nx_inc rfl) (by decide) rfl rfl ?_
                                refine sv_goto (pc' := 121) hΓ dX12_run_192 (by decide) ?_
                                have q := ih (a + 1) (by omega)
                                rw [show rni z (nI t) (rno z n (rs0 c0 cl) t) (a + 1) = (cc, ll) from by show rnS z (nI t) (rni z (nI t) (rno z n (rs0 c0 cl) t) a) a = _; rw [hcl]; simp only [rnS, stp, bgn]; rw [if_neg u11, if_pos u18, if_neg u19, if_neg u22]] at q
                                exact SV_lv [0, 1, 2, 3, 4] rfl q
                    exact SV_lv [0, 1, 2, 3, 4] rfl (LP121 n 0 (by omega))
                exact SV_lv [0, 1, 2, 3] rfl (LP113 (T + 1) 0 (by omega))
              · replace u4 : ¬ ((z : Int32) = 0) := u4
                refine sv_aload_n hΓ dX12_run_102 rfl 1 rfl rfl ?_
                refine g_X12_210_43 hΓ dX12_run_103 rfl ?_
                refine sv_goto (pc' := 110) hΓ dX12_run_106 (by decide) ?_
                obtain ⟨T, hT1, hTl, hTz⟩ : ∃ T, T ≤ 1000 ∧ tl z c0 = T ∧ (z = 0 → T = 0) := ⟨tl z c0, tl_le h16 h17, rfl, fun e => if_pos e⟩
                have e0 : nI T = (up2 (up2 (up2 (tpC c0 4) 43 20 0) 43 21 ((-2))) 43 22 0) 43 16 := by rw [← hTl, tl, if_neg u4]; exact ((congrFun (tpC_k c0 (by decide) (by decide) 4) 16).trans (h16.trans (by rw [h16, nI_clamp (by omega)]))).symm
                refine (show SV E Γ 6 (mm (up2 (up2 (up2 (tpC c0 4) 43 20 0) 43 21 ((-2))) 43 22 0) (rcL cl 16) cr dy) nx 0 0 110 [(2, .int (nI 16)), (0, .ref 43), (1, .int z)] [.int (nI T)] → SV E Γ 6 (mm (up2 (up2 (up2 (tpC c0 4) 43 20 0) 43 21 ((-2))) 43 22 0) (rcL cl 16) cr dy) nx 0 0 110 [(2, .int (nI 16)), (0, .ref 43), (1, .int z)] [.int ((up2 (up2 (up2 (tpC c0 4) 43 20 0) 43 21 ((-2))) 43 22 0) 43 16)] from fun h => by rw [e0] at h; exact h) ?_
                have HWF : ∀ i, i < n → WF (rs0 c0 cl).1 i := fun i hi => rs0_WF (hwf i hi)
                have HO : ∀ t, t ≤ 1001 → (z = 0 → t ≤ 1) → RV (rs0 c0 cl).1 n (cb (bgd z ((rs0 c0 cl).1 55) t 0) n) (rno z n (rs0 c0 cl) t) := fun t h1 h2 => RV_no HWF (rs0_RV hfd) t (by omega) h2
                have HV : ∀ t a, t ≤ 1000 → a ≤ n → (z = 0 → t = 0) → RV (rs0 c0 cl).1 n (cb (bgd z ((rs0 c0 cl).1 55) t a) n) (rni z (nI t) (rno z n (rs0 c0 cl) t) a) := fun t a h1 h2 h3 => RV_ni HWF h3 (HO t (by omega) (fun e => by have := h3 e; omega)) a h2
                have HN1 : ∀ t a, t ≤ 1000 → a ≤ n → (z = 0 → t = 0) → (rni z (nI t) (rno z n (rs0 c0 cl) t) a).1 43 1 = nI n := fun t a h1 h2 h3 => by rw [(HV t a h1 h2 h3).2.1 1 (by decide) (by decide) (by decide)]; exact (congrFun (tpC_k c0 (by decide) (by decide) 4) 1).trans hn
                refine sv_istore_n (lv' := [(2, .int (nI T)), (0, .ref 43), (1, .int z)]) hΓ dX12_run_110 rfl (by decide) rfl rfl ?_
                refine sv_iconst (v := 0) hΓ dX12_run_111 (by decide) rfl ?_
                refine sv_istore_n (lv' := [(3, .int 0), (2, .int (nI T)), (0, .ref 43), (1, .int z)]) hΓ dX12_run_112 rfl (by decide) rfl rfl ?_
                have LP113 : ∀ kq t : Nat, t + kq = T + 1 → SV E Γ 6 (mm ((rno z n (rs0 c0 cl) t).1) ((rno z n (rs0 c0 cl) t).2) cr dy) nx 0 0 113 [(3, .int (nI t)), (2, .int (nI T)), (0, .ref 43), (1, .int z)] [] := by
                  intro kq
                  induction kq with
                  | zero =>
                    intro t ha
                    have ea : t = T + 1 := by omega
                    refine sv_iload_n hΓ dX12_run_113 rfl 0 rfl rfl ?_
                    refine sv_iload_n hΓ dX12_run_114 rfl 1 rfl rfl ?_
                    refine sv_icmp_gt (tgt := 201) hΓ dX12_run_115 (by decide) rfl (fun u25 => ?_) (fun u25 => absurd (nI_lt (by omega) (by omega)) u25)
                    replace u25 : (nI T) < ((nI t) : Int32) := u25
                    obtain ⟨cc, ll, hcl⟩ : ∃ cc ll, rno z n (rs0 c0 cl) (T + 1) = (cc, ll) := ⟨_, _, rfl⟩
                    have hV := HO (T + 1) (by omega) (fun e => by have := hTz e; omega)
                    rw [hcl] at hV
                    rw [show t = T + 1 by omega, hcl]
                    show SV E Γ 6 (mm cc ll cr dy) nx 0 0 201 [(3, .int (nI (T + 1))), (2, .int (nI T)), (0, .ref 43), (1, .int z)] []
                    refine sv_aload_n hΓ dX12_run_201 rfl 2 rfl rfl ?_
                    refine sv_iload_n hΓ dX12_run_202 rfl 3 rfl rfl ?_
                    refine sv_if_ne (tgt := 210) hΓ dX12_run_203 (by decide) rfl (fun u26 => ?_) (fun u26 => ?_)
                    · replace u26 : ¬ (z : Int32) = 0 := u26
                      refine sv_aload_n hΓ dX12_run_210 rfl 2 rfl rfl ?_
                      refine g_X12_260_43 hΓ dX12_run_211 rfl ?_
                      refine sv_if_ge (tgt := 224) hΓ dX12_run_214 (by decide) rfl (fun u27 => ?_) (fun u27 => ?_)
                      · replace u27 : 0 ≤ ((cc 43 21) : Int32) := u27
                        obtain ⟨f, hf, ef⟩ := RV_f hV u27
                        refine sv_aload_n hΓ dX12_run_224 rfl 2 rfl rfl ?_
                        refine g_X12_45_43 hΓ dX12_run_225 rfl ?_
                        refine sv_aload_n hΓ dX12_run_228 rfl 2 rfl rfl ?_
                        refine g_X12_260_43 hΓ dX12_run_229 rfl ?_
                        refine ai_55 hΓ (f) ef (by omega) dX12_run_232 rfl ?_
                        refine p_X12_266_43 hΓ dX12_run_233 rfl ?_
                        refine sv_aload_n hΓ dX12_run_236 rfl 2 rfl rfl ?_
                        refine sv_iconst (v := 1) hΓ dX12_run_237 (by decide) rfl ?_
                        refine p_X12_110_43 hΓ ⟨rfl, rfl⟩ dX12_run_238 rfl ?_
                        refine sv_aload_n hΓ dX12_run_241 rfl 2 rfl rfl ?_
                        refine g_X12_257_43 hΓ dX12_run_242 rfl ?_
                        exact sv_iret hΓ hQ dX12_run_245 (Nat.le_of_ble_eq_true rfl) (Nat.le_of_ble_eq_true rfl) (Or.inr (Or.inr ⟨hn0, hzl, cc, ll, by rw [hTl]; exact hcl, rfl, by rw [show rlF z cc = _ from (if_neg u26).trans (if_pos u27)]; rw [ef, nI_clamp (by omega)], rfl⟩))
                      · replace u27 : ¬ (0 ≤ ((cc 43 21) : Int32)) := u27
                        refine sv_aload_n hΓ dX12_run_217 rfl 2 rfl rfl ?_
                        refine g_X12_210_43 hΓ dX12_run_218 rfl ?_
                        refine sv_goto (pc' := 233) hΓ dX12_run_221 (by decide) ?_
                        refine p_X12_266_43 hΓ dX12_run_233 rfl ?_
                        refine sv_aload_n hΓ dX12_run_236 rfl 2 rfl rfl ?_
                        refine sv_iconst (v := 1) hΓ dX12_run_237 (by decide) rfl ?_
                        refine p_X12_110_43 hΓ ⟨rfl, rfl⟩ dX12_run_238 rfl ?_
                        refine sv_aload_n hΓ dX12_run_241 rfl 2 rfl rfl ?_
                        refine g_X12_257_43 hΓ dX12_run_242 rfl ?_
                        exact sv_iret hΓ hQ dX12_run_245 (Nat.le_of_ble_eq_true rfl) (Nat.le_of_ble_eq_true rfl) (Or.inr (Or.inr ⟨hn0, hzl, cc, ll, by rw [hTl]; exact hcl, rfl, by rw [show rlF z cc = _ from (if_neg u26).trans (if_neg u27)], rfl⟩))
                    · replace u26 : (z : Int32) = 0 := u26
                      refine sv_iconst (v := 0) hΓ dX12_run_206 (by decide) rfl ?_
                      refine sv_goto (pc' := 233) hΓ dX12_run_207 (by decide) ?_
                      refine p_X12_266_43 hΓ dX12_run_233 rfl ?_
                      refine sv_aload_n hΓ dX12_run_236 rfl 2 rfl rfl ?_
                      refine sv_iconst (v := 1) hΓ dX12_run_237 (by decide) rfl ?_
                      refine p_X12_110_43 hΓ ⟨rfl, rfl⟩ dX12_run_238 rfl ?_
                      refine sv_aload_n hΓ dX12_run_241 rfl 2 rfl rfl ?_
                      refine g_X12_257_43 hΓ dX12_run_242 rfl ?_
                      exact sv_iret hΓ hQ dX12_run_245 (Nat.le_of_ble_eq_true rfl) (Nat.le_of_ble_eq_true rfl) (Or.inr (Or.inr ⟨hn0, hzl, cc, ll, by rw [hTl]; exact hcl, rfl, by rw [show rlF z cc = _ from if_pos u26], rfl⟩))
                  | succ kq ih =>
                    intro t ha
                    have htz : z = 0 → t = 0 := fun e => by have := hTz e; omega
                    refine sv_iload_n hΓ dX12_run_113 rfl 0 rfl rfl ?_
                    refine sv_iload_n hΓ dX12_run_114 rfl 1 rfl rfl ?_
                    refine sv_icmp_gt (tgt := 201) hΓ dX12_run_115 (by decide) rfl (fun u28 => absurd u28 (nI_nlt (by omega) (by omega))) (fun u28 => ?_)
                    replace u28 : ¬ ((nI T) < ((nI t) : Int32)) := u28
                    refine sv_iconst (v := 0) hΓ dX12_run_118 (by decide) rfl ?_
                    refine sv_istore (lv' := [(4, .int 0), (3, .int (nI t)), (2, .int (nI T)), (0, .ref 43), (1, .int z)]) hΓ dX12_run_119 (by decide) rfl rfl ?_
                    have LP121 : ∀ kq a : Nat, a + kq = n → SV E Γ 6 (mm ((rni z (nI t) (rno z n (rs0 c0 cl) t) a).1) ((rni z (nI t) (rno z n (rs0 c0 cl) t) a).2) cr dy) nx 0 0 121 [(4, .int (nI a)), (3, .int (nI t)), (2, .int (nI T)), (0, .ref 43), (1, .int z)] [] := by
                      intro kq
                      induction kq with
                      | zero =>
                        intro a ha
                        have ea : a = n := by omega
                        obtain rfl : n = a := by omega
                        refine sv_iload hΓ dX12_run_121 0 rfl rfl ?_
                        refine sv_aload_n hΓ dX12_run_123 rfl 3 rfl rfl ?_
                        refine g_X12_103_43 hΓ dX12_run_124 rfl ?_
                        refine sv_icmp_ge (tgt := 195) hΓ dX12_run_127 (by decide) rfl (fun u29 => ?_) (fun u29 => absurd (by rw [HN1 t _ (by omega) (by omega) htz]; exact nI_le (by omega) (by omega)) u29)
                        replace u29 : (((rni z (nI t) (rno z n (rs0 c0 cl) t) n).1) 43 1) ≤ ((nI n) : Int32) := u29
                        refine sv_iinc (v := nI (t + 1)) (lv' := [(3, .int (nI (t + 1))), (4, .int (nI n)), (2, .int (nI T)), (0, .ref 43), (1, .int z)]) hΓ dX12_run_195 1 rfl (nx_inc rfl) (by decide) rfl rfl ?_
                        refine sv_goto (pc' := 113) hΓ dX12_run_198 (by decide) ?_
                        have q := ih (t + 1) (by omega)
                        exact SV_lv [0, 2, 3, 4] rfl q
                      | succ kq ih =>
                        intro a ha
                        refine sv_iload hΓ dX12_run_121 0 rfl rfl ?_
                        refine sv_aload_n hΓ dX12_run_123 rfl 3 rfl rfl ?_
                        refine g_X12_103_43 hΓ dX12_run_124 rfl ?_
                        refine sv_icmp_ge (tgt := 195) hΓ dX12_run_127 (by decide) rfl (fun u30 => absurd u30 (by rw [HN1 t _ (by omega) (by omega) htz]; exact nI_ge (by omega) (by omega))) (fun u30 => ?_)
                        replace u30 : ¬ ((((rni z (nI t) (rno z n (rs0 c0 cl) t) a).1) 43 1) ≤ ((nI a) : Int32)) := u30
                        obtain ⟨cc, ll, hcl⟩ : ∃ cc ll, (rni z (nI t) (rno z n (rs0 c0 cl) t) a) = (cc, ll) := ⟨_, _, rfl⟩
                        have hV := HV t a (by omega) (by omega) htz
                        rw [hcl] at hV
                        rw [hcl]
                        show SV E Γ 6 (mm cc ll cr dy) nx 0 0 130 [(4, .int (nI a)), (3, .int (nI t)), (2, .int (nI T)), (0, .ref 43), (1, .int z)] []
                        refine sv_iload_n hΓ dX12_run_130 rfl 4 rfl rfl ?_
                        refine sv_if_eq (tgt := 145) hΓ dX12_run_131 (by decide) rfl (fun u31 => ?_) (fun u31 => ?_)
                        · replace u31 : (z : Int32) = 0 := u31
                          refine sv_aload_n hΓ dX12_run_145 rfl 3 rfl rfl ?_
                          refine g_X12_260_43 hΓ dX12_run_146 rfl ?_
                          refine sv_if_lt (tgt := 164) hΓ dX12_run_149 (by decide) rfl (fun u32 => ?_) (fun u32 => ?_)
                          · replace u32 : ((cc 43 21) : Int32) < 0 := u32
                            have hP := RV_pre hV (bgd_16 hn6 (by omega) htz (fun e => absurd u31 e)) (HWF a (by omega))
                            have hWa := RV_wf hV (HWF a (by omega))
                            refine sv_aload_n hΓ dX12_run_164 rfl 3 rfl rfl ?_
                            refine sv_iload hΓ dX12_run_165 0 rfl rfl ?_
                            refine sv_callV hΓ (fun l => ct_X12_begin l a (by omega) hWa hP) wv_X12_263 vs_X12_begin rfl m_43 rfl rfl (by decide) (Nat.le_of_ble_eq_true rfl) (Nat.le_of_ble_eq_true rfl) (Nat.le_of_ble_eq_true rfl) dX12_run_167 rfl (fun r M' nx' p33 => ?_)
                            obtain ⟨rfl, rfl, rfl⟩ := p33
                            show SV E Γ 6 (mm (bgI (up2 cc 43 22 (cc 43 22 + 1)) ll a) (bgL (up2 cc 43 22 (cc 43 22 + 1)) ll a) cr dy) nx 0 0 170 [(4, .int (nI a)), (3, .int (nI t)), (2, .int (nI T)), (0, .ref 43), (1, .int z)] [.int (bgR (up2 cc 43 22 (cc 43 22 + 1)) ll a)]
                            refine sv_istore (lv' := [(5, .int (bgR (up2 cc 43 22 (cc 43 22 + 1)) ll a)), (4, .int (nI a)), (3, .int (nI t)), (2, .int (nI T)), (0, .ref 43), (1, .int z)]) hΓ dX12_run_170 (by decide) rfl rfl ?_
                            refine sv_iload hΓ dX12_run_172 0 rfl rfl ?_
                            refine sv_if_le (tgt := 189) hΓ dX12_run_174 (by decide) rfl (fun u34 => ?_) (fun u34 => ?_)
                            · replace u34 : ((bgR (up2 cc 43 22 (cc 43 22 + 1)) ll a) : Int32) ≤ 0 := u34
                              refine sv_iinc (v := nI (a + 1)) (lv' := [(4, .int (nI (a + 1))), (5, .int (bgR (up2 cc 43 22 (cc 43 22 + 1)) ll a)), (3, .int (nI t)), (2, .int (nI T)), (0, .ref 43), (1, .int z)]) hΓ dX12_run_189 1 rfl (nx_inc rfl) (by decide) rfl rfl ?_
                              refine sv_goto (pc' := 121) hΓ dX12_run_192 (by decide) ?_
                              have q := ih (a + 1) (by omega)
                              rw [show rni z (nI t) (rno z n (rs0 c0 cl) t) (a + 1) = (bgI (up2 cc 43 22 (cc 43 22 + 1)) ll a, bgL (up2 cc 43 22 (cc 43 22 + 1)) ll a) from by show rnS z (nI t) (rni z (nI t) (rno z n (rs0 c0 cl) t) a) a = _; rw [hcl]; simp only [rnS, stp, bgn]; rw [if_pos u31, if_pos u32, if_pos u34]] at q
                              exact SV_lv [0, 2, 3, 4, 5] rfl q
                            · replace u34 : ¬ (((bgR (up2 cc 43 22 (cc 43 22 + 1)) ll a) : Int32) ≤ 0) := u34
                              refine sv_aload_n hΓ dX12_run_177 rfl 4 rfl rfl ?_
                              refine sv_iload hΓ dX12_run_178 0 rfl rfl ?_
                              refine p_X12_257_43 hΓ dX12_run_180 rfl ?_
                              refine sv_aload_n hΓ dX12_run_183 rfl 4 rfl rfl ?_
                              refine sv_iload hΓ dX12_run_184 1 rfl rfl ?_
                              refine p_X12_260_43 hΓ dX12_run_186 rfl ?_
                              refine sv_iinc (v := nI (a + 1)) (lv' := [(4, .int (nI (a + 1))), (5, .int (bgR (up2 cc 43 22 (cc 43 22 + 1)) ll a)), (3, .int (nI t)), (2, .int (nI T)), (0, .ref 43), (1, .int z)]) hΓ dX12_run_189 1 rfl (nx_inc rfl) (by decide) rfl rfl ?_
                              refine sv_goto (pc' := 121) hΓ dX12_run_192 (by decide) ?_
                              have q := ih (a + 1) (by omega)
                              rw [show rni z (nI t) (rno z n (rs0 c0 cl) t) (a + 1) = (up2 (up2 (bgI (up2 cc 43 22 (cc 43 22 + 1)) ll a) 43 20 (bgR (up2 cc 43 22 (cc 43 22 + 1)) ll a)) 43 21 (nI a), bgL (up2 cc 43 22 (cc 43 22 + 1)) ll a) from by show rnS z (nI t) (rni z (nI t) (rno z n (rs0 c0 cl) t) a) a = _; rw [hcl]; simp only [rnS, stp, bgn]; rw [if_pos u31, if_pos u32, if_neg u34]] at q
                              exact SV_lv [0, 2, 3, 4, 5] rfl q
                          · replace u32 : ¬ (((cc 43 21) : Int32) < 0) := u32
                            refine sv_iload hΓ dX12_run_152 0 rfl rfl ?_
                            refine sv_aload_n hΓ dX12_run_154 rfl 3 rfl rfl ?_
                            refine g_X12_260_43 hΓ dX12_run_155 rfl ?_
                            refine sv_icmp_le (tgt := 164) hΓ dX12_run_158 (by decide) rfl (fun u35 => ?_) (fun u35 => ?_)
                            · replace u35 : ((nI a) : Int32) ≤ (cc 43 21) := u35
                              have hP := RV_pre hV (bgd_16 hn6 (by omega) htz (fun e => absurd u31 e)) (HWF a (by omega))
                              have hWa := RV_wf hV (HWF a (by omega))
                              refine sv_aload_n hΓ dX12_run_164 rfl 3 rfl rfl ?_
                              refine sv_iload hΓ dX12_run_165 0 rfl rfl ?_
                              refine sv_callV hΓ (fun l => ct_X12_begin l a (by omega) hWa hP) wv_X12_263 vs_X12_begin rfl m_43 rfl rfl (by decide) (Nat.le_of_ble_eq_true rfl) (Nat.le_of_ble_eq_true rfl) (Nat.le_of_ble_eq_true rfl) dX12_run_167 rfl (fun r M' nx' p36 => ?_)
                              obtain ⟨rfl, rfl, rfl⟩ := p36
                              show SV E Γ 6 (mm (bgI (up2 cc 43 22 (cc 43 22 + 1)) ll a) (bgL (up2 cc 43 22 (cc 43 22 + 1)) ll a) cr dy) nx 0 0 170 [(4, .int (nI a)), (3, .int (nI t)), (2, .int (nI T)), (0, .ref 43), (1, .int z)] [.int (bgR (up2 cc 43 22 (cc 43 22 + 1)) ll a)]
                              refine sv_istore (lv' := [(5, .int (bgR (up2 cc 43 22 (cc 43 22 + 1)) ll a)), (4, .int (nI a)), (3, .int (nI t)), (2, .int (nI T)), (0, .ref 43), (1, .int z)]) hΓ dX12_run_170 (by decide) rfl rfl ?_
                              refine sv_iload hΓ dX12_run_172 0 rfl rfl ?_
                              refine sv_if_le (tgt := 189) hΓ dX12_run_174 (by decide) rfl (fun u37 => ?_) (fun u37 => ?_)
                              · replace u37 : ((bgR (up2 cc 43 22 (cc 43 22 + 1)) ll a) : Int32) ≤ 0 := u37
                                refine sv_iinc (v := nI (a + 1)) (lv' := [(4, .int (nI (a + 1))), (5, .int (bgR (up2 cc 43 22 (cc 43 22 + 1)) ll a)), (3, .int (nI t)), (2, .int (nI T)), (0, .ref 43), (1, .int z)]) hΓ dX12_run_189 1 rfl (nx_inc rfl) (by decide) rfl rfl ?_
                                refine sv_goto (pc' := 121) hΓ dX12_run_192 (by decide) ?_
                                have q := ih (a + 1) (by omega)
                                rw [show rni z (nI t) (rno z n (rs0 c0 cl) t) (a + 1) = (bgI (up2 cc 43 22 (cc 43 22 + 1)) ll a, bgL (up2 cc 43 22 (cc 43 22 + 1)) ll a) from by show rnS z (nI t) (rni z (nI t) (rno z n (rs0 c0 cl) t) a) a = _; rw [hcl]; simp only [rnS, stp, bgn]; rw [if_pos u31, if_neg u32, if_pos u35, if_pos u37]] at q
                                exact SV_lv [0, 2, 3, 4, 5] rfl q
                              · replace u37 : ¬ (((bgR (up2 cc 43 22 (cc 43 22 + 1)) ll a) : Int32) ≤ 0) := u37
                                refine sv_aload_n hΓ dX12_run_177 rfl 4 rfl rfl ?_
                                refine sv_iload hΓ dX12_run_178 0 rfl rfl ?_
                                refine p_X12_257_43 hΓ dX12_run_180 rfl ?_
                                refine sv_aload_n hΓ dX12_run_183 rfl 4 rfl rfl ?_
                                refine sv_iload hΓ dX12_run_184 1 rfl rfl ?_
                                refine p_X12_260_43 hΓ dX12_run_186 rfl ?_
                                refine sv_iinc (v := nI (a + 1)) (lv' := [(4, .int (nI (a + 1))), (5, .int (bgR (up2 cc 43 22 (cc 43 22 + 1)) ll a)), (3, .int (nI t)), (2, .int (nI T)), (0, .ref 43), (1, .int z)]) hΓ dX12_run_189 1 rfl (nx_inc rfl) (by decide) rfl rfl ?_
                                refine sv_goto (pc' := 121) hΓ dX12_run_192 (by decide) ?_
                                have q := ih (a + 1) (by omega)
                                rw [show rni z (nI t) (rno z n (rs0 c0 cl) t) (a + 1) = (up2 (up2 (bgI (up2 cc 43 22 (cc 43 22 + 1)) ll a) 43 20 (bgR (up2 cc 43 22 (cc 43 22 + 1)) ll a)) 43 21 (nI a), bgL (up2 cc 43 22 (cc 43 22 + 1)) ll a) from by show rnS z (nI t) (rni z (nI t) (rno z n (rs0 c0 cl) t) a) a = _; rw [hcl]; simp only [rnS, stp, bgn]; rw [if_pos u31, if_neg u32, if_pos u35, if_neg u37]] at q
                                exact SV_lv [0, 2, 3, 4, 5] rfl q
                            · replace u35 : ¬ (((nI a) : Int32) ≤ (cc 43 21)) := u35
                              refine sv_goto (pc' := 189) hΓ dX12_run_161 (by decide) ?_
                              refine sv_iinc (v := nI (a + 1)) (lv' := [(4, .int (nI (a + 1))), (3, .int (nI t)), (2, .int (nI T)), (0, .ref 43), (1, .int z)]) hΓ dX12_run_189 0 rfl (nx_inc rfl) (by decide) rfl rfl ?_
                              refine sv_goto (pc' := 121) hΓ dX12_run_192 (by decide) ?_
                              have q := ih (a + 1) (by omega)
                              rw [show rni z (nI t) (rno z n (rs0 c0 cl) t) (a + 1) = (cc, ll) from by show rnS z (nI t) (rni z (nI t) (rno z n (rs0 c0 cl) t) a) a = _; rw [hcl]; simp only [rnS, stp, bgn]; rw [if_pos u31, if_neg u32, if_neg u35]] at q
                              exact SV_lv [0, 1, 2, 3, 4] rfl q
                        · replace u31 : ¬ ((z : Int32) = 0) := u31
                          refine sv_aload_n hΓ dX12_run_134 rfl 3 rfl rfl ?_
                          refine g_X12_45_43 hΓ dX12_run_135 rfl ?_
                          refine sv_iload hΓ dX12_run_138 0 rfl rfl ?_
                          refine ai_55 hΓ (a) rfl (by omega) dX12_run_140 rfl ?_
                          refine sv_iload_n hΓ dX12_run_141 rfl 1 rfl rfl ?_
                          refine sv_icmp_ne (tgt := 189) hΓ dX12_run_142 (by decide) rfl (fun u38 => ?_) (fun u38 => ?_)
                          · replace u38 : ¬ ((cc 55 a) : Int32) = (nI t) := u38
                            refine sv_iinc (v := nI (a + 1)) (lv' := [(4, .int (nI (a + 1))), (3, .int (nI t)), (2, .int (nI T)), (0, .ref 43), (1, .int z)]) hΓ dX12_run_189 0 rfl (nx_inc rfl) (by decide) rfl rfl ?_
                            refine sv_goto (pc' := 121) hΓ dX12_run_192 (by decide) ?_
                            have q := ih (a + 1) (by omega)
                            rw [show rni z (nI t) (rno z n (rs0 c0 cl) t) (a + 1) = (cc, ll) from by show rnS z (nI t) (rni z (nI t) (rno z n (rs0 c0 cl) t) a) a = _; rw [hcl]; simp only [rnS, stp, bgn]; rw [if_neg u31, if_neg u38]] at q
                            exact SV_lv [0, 1, 2, 3, 4] rfl q
                          · replace u38 : ((cc 55 a) : Int32) = (nI t) := u38
                            refine sv_aload_n hΓ dX12_run_145 rfl 3 rfl rfl ?_
                            refine g_X12_260_43 hΓ dX12_run_146 rfl ?_
                            refine sv_if_lt (tgt := 164) hΓ dX12_run_149 (by decide) rfl (fun u39 => ?_) (fun u39 => ?_)
                            · replace u39 : ((cc 43 21) : Int32) < 0 := u39
                              have hP := RV_pre hV (bgd_16 hn6 (by omega) htz (fun _ => (congrFun (hV.1 55 (by decide) (by decide) (by decide)).symm a).trans u38)) (HWF a (by omega))
                              have hWa := RV_wf hV (HWF a (by omega))
                              refine sv_aload_n hΓ dX12_run_164 rfl 3 rfl rfl ?_
                              refine sv_iload hΓ dX12_run_165 0 rfl rfl ?_
                              refine sv_callV hΓ (fun l => ct_X12_begin l a (by omega) hWa hP) wv_X12_263 vs_X12_begin rfl m_43 rfl rfl (by decide) (Nat.le_of_ble_eq_true rfl) (Nat.le_of_ble_eq_true rfl) (Nat.le_of_ble_eq_true rfl) dX12_run_167 rfl (fun r M' nx' p40 => ?_)
                              obtain ⟨rfl, rfl, rfl⟩ := p40
                              show SV E Γ 6 (mm (bgI (up2 cc 43 22 (cc 43 22 + 1)) ll a) (bgL (up2 cc 43 22 (cc 43 22 + 1)) ll a) cr dy) nx 0 0 170 [(4, .int (nI a)), (3, .int (nI t)), (2, .int (nI T)), (0, .ref 43), (1, .int z)] [.int (bgR (up2 cc 43 22 (cc 43 22 + 1)) ll a)]
                              refine sv_istore (lv' := [(5, .int (bgR (up2 cc 43 22 (cc 43 22 + 1)) ll a)), (4, .int (nI a)), (3, .int (nI t)), (2, .int (nI T)), (0, .ref 43), (1, .int z)]) hΓ dX12_run_170 (by decide) rfl rfl ?_
                              refine sv_iload hΓ dX12_run_172 0 rfl rfl ?_
                              refine sv_if_le (tgt := 189) hΓ dX12_run_174 (by decide) rfl (fun u41 => ?_) (fun u41 => ?_)
                              · replace u41 : ((bgR (up2 cc 43 22 (cc 43 22 + 1)) ll a) : Int32) ≤ 0 := u41
                                refine sv_iinc (v := nI (a + 1)) (lv' := [(4, .int (nI (a + 1))), (5, .int (bgR (up2 cc 43 22 (cc 43 22 + 1)) ll a)), (3, .int (nI t)), (2, .int (nI T)), (0, .ref 43), (1, .int z)]) hΓ dX12_run_189 1 rfl (nx_inc rfl) (by decide) rfl rfl ?_
                                refine sv_goto (pc' := 121) hΓ dX12_run_192 (by decide) ?_
                                have q := ih (a + 1) (by omega)
                                rw [show rni z (nI t) (rno z n (rs0 c0 cl) t) (a + 1) = (bgI (up2 cc 43 22 (cc 43 22 + 1)) ll a, bgL (up2 cc 43 22 (cc 43 22 + 1)) ll a) from by show rnS z (nI t) (rni z (nI t) (rno z n (rs0 c0 cl) t) a) a = _; rw [hcl]; simp only [rnS, stp, bgn]; rw [if_neg u31, if_pos u38, if_pos u39, if_pos u41]] at q
                                exact SV_lv [0, 2, 3, 4, 5] rfl q
                              · replace u41 : ¬ (((bgR (up2 cc 43 22 (cc 43 22 + 1)) ll a) : Int32) ≤ 0) := u41
                                refine sv_aload_n hΓ dX12_run_177 rfl 4 rfl rfl ?_
                                refine sv_iload hΓ dX12_run_178 0 rfl rfl ?_
                                refine p_X12_257_43 hΓ dX12_run_180 rfl ?_
                                refine sv_aload_n hΓ dX12_run_183 rfl 4 rfl rfl ?_
                                refine sv_iload hΓ dX12_run_184 1 rfl rfl ?_
                                refine p_X12_260_43 hΓ dX12_run_186 rfl ?_
                                refine sv_iinc (v := nI (a + 1)) (lv' := [(4, .int (nI (a + 1))), (5, .int (bgR (up2 cc 43 22 (cc 43 22 + 1)) ll a)), (3, .int (nI t)), (2, .int (nI T)), (0, .ref 43), (1, .int z)]) hΓ dX12_run_189 1 rfl (nx_inc rfl) (by decide) rfl rfl ?_
                                refine sv_goto (pc' := 121) hΓ dX12_run_192 (by decide) ?_
                                have q := ih (a + 1) (by omega)
                                rw [show rni z (nI t) (rno z n (rs0 c0 cl) t) (a + 1) = (up2 (up2 (bgI (up2 cc 43 22 (cc 43 22 + 1)) ll a) 43 20 (bgR (up2 cc 43 22 (cc 43 22 + 1)) ll a)) 43 21 (nI a), bgL (up2 cc 43 22 (cc 43 22 + 1)) ll a) from by show rnS z (nI t) (rni z (nI t) (rno z n (rs0 c0 cl) t) a) a = _; rw [hcl]; simp only [rnS, stp, bgn]; rw [if_neg u31, if_pos u38, if_pos u39, if_neg u41]] at q
                                exact SV_lv [0, 2, 3, 4, 5] rfl q
                            · replace u39 : ¬ (((cc 43 21) : Int32) < 0) := u39
                              refine sv_iload hΓ dX12_run_152 0 rfl rfl ?_
                              refine sv_aload_n hΓ dX12_run_154 rfl 3 rfl rfl ?_
                              refine g_X12_260_43 hΓ dX12_run_155 rfl ?_
                              refine sv_icmp_le (tgt := 164) hΓ dX12_run_158 (by decide) rfl (fun u42 => ?_) (fun u42 => ?_)
                              · replace u42 : ((nI a) : Int32) ≤ (cc 43 21) := u42
                                have hP := RV_pre hV (bgd_16 hn6 (by omega) htz (fun _ => (congrFun (hV.1 55 (by decide) (by decide) (by decide)).symm a).trans u38)) (HWF a (by omega))
                                have hWa := RV_wf hV (HWF a (by omega))
                                refine sv_aload_n hΓ dX12_run_164 rfl 3 rfl rfl ?_
                                refine sv_iload hΓ dX12_run_165 0 rfl rfl ?_
                                refine sv_callV hΓ (fun l => ct_X12_begin l a (by omega) hWa hP) wv_X12_263 vs_X12_begin rfl m_43 rfl rfl (by decide) (Nat.le_of_ble_eq_true rfl) (Nat.le_of_ble_eq_true rfl) (Nat.le_of_ble_eq_true rfl) dX12_run_167 rfl (fun r M' nx' p43 => ?_)
                                obtain ⟨rfl, rfl, rfl⟩ := p43
                                show SV E Γ 6 (mm (bgI (up2 cc 43 22 (cc 43 22 + 1)) ll a) (bgL (up2 cc 43 22 (cc 43 22 + 1)) ll a) cr dy) nx 0 0 170 [(4, .int (nI a)), (3, .int (nI t)), (2, .int (nI T)), (0, .ref 43), (1, .int z)] [.int (bgR (up2 cc 43 22 (cc 43 22 + 1)) ll a)]
                                refine sv_istore (lv' := [(5, .int (bgR (up2 cc 43 22 (cc 43 22 + 1)) ll a)), (4, .int (nI a)), (3, .int (nI t)), (2, .int (nI T)), (0, .ref 43), (1, .int z)]) hΓ dX12_run_170 (by decide) rfl rfl ?_
                                refine sv_iload hΓ dX12_run_172 0 rfl rfl ?_
                                refine sv_if_le (tgt := 189) hΓ dX12_run_174 (by decide) rfl (fun u44 => ?_) (fun u44 => ?_)
                                · replace u44 : ((bgR (up2 cc 43 22 (cc 43 22 + 1)) ll a) : Int32) ≤ 0 := u44
                                  refine sv_iinc (v := nI (a + 1)) (lv' := [(4, .int (nI (a + 1))), (5, .int (bgR (up2 cc 43 22 (cc 43 22 + 1)) ll a)), (3, .int (nI t)), (2, .int (nI T)), (0, .ref 43), (1, .int z)]) hΓ dX12_run_189 1 rfl (nx_inc rfl) (by decide) rfl rfl ?_
                                  refine sv_goto (pc' := 121) hΓ dX12_run_192 (by decide) ?_
                                  have q := ih (a + 1) (by omega)
                                  rw [show rni z (nI t) (rno z n (rs0 c0 cl) t) (a + 1) = (bgI (up2 cc 43 22 (cc 43 22 + 1)) ll a, bgL (up2 cc 43 22 (cc 43 22 + 1)) ll a) from by show rnS z (nI t) (rni z (nI t) (rno z n (rs0 c0 cl) t) a) a = _; rw [hcl]; simp only [rnS, stp, bgn]; rw [if_neg u31, if_pos u38, if_neg u39, if_pos u42, if_pos u44]] at q
                                  exact SV_lv [0, 2, 3, 4, 5] rfl q
                                · replace u44 : ¬ (((bgR (up2 cc 43 22 (cc 43 22 + 1)) ll a) : Int32) ≤ 0) := u44
                                  refine sv_aload_n hΓ dX12_run_177 rfl 4 rfl rfl ?_
                                  refine sv_iload hΓ dX12_run_178 0 rfl rfl ?_
                                  refine p_X12_257_43 hΓ dX12_run_180 rfl ?_
                                  refine sv_aload_n hΓ dX12_run_183 rfl 4 rfl rfl ?_
                                  refine sv_iload hΓ dX12_run_184 1 rfl rfl ?_
                                  refine p_X12_260_43 hΓ dX12_run_186 rfl ?_
                                  refine sv_iinc (v := nI (a + 1)) (lv' := [(4, .int (nI (a + 1))), (5, .int (bgR (up2 cc 43 22 (cc 43 22 + 1)) ll a)), (3, .int (nI t)), (2, .int (nI T)), (0, .ref 43), (1, .int z)]) hΓ dX12_run_189 1 rfl (nx_inc rfl) (by decide) rfl rfl ?_
                                  refine sv_goto (pc' := 121) hΓ dX12_run_192 (by decide) ?_
                                  have q := ih (a + 1) (by omega)
                                  rw [show rni z (nI t) (rno z n (rs0 c0 cl) t) (a + 1) = (up2 (up2 (bgI (up2 cc 43 22 (cc 43 22 + 1)) ll a) 43 20 (bgR (up2 cc 43 22 (cc 43 22 + 1)) ll a)) 43 21 (nI a), bgL (up2 cc 43 22 (cc 43 22 + 1)) ll a) from by show rnS z (nI t) (rni z (nI t) (rno z n (rs0 c0 cl) t) a) a = _; rw [hcl]; simp only [rnS, stp, bgn]; rw [if_neg u31, if_pos u38, if_neg u39, if_pos u42, if_neg u44]] at q
                                  exact SV_lv [0, 2, 3, 4, 5] rfl q
                              · replace u42 : ¬ (((nI a) : Int32) ≤ (cc 43 21)) := u42
                                refine sv_goto (pc' := 189) hΓ dX12_run_161 (by decide) ?_
                                refine sv_iinc (v := nI (a + 1)) (lv' := [(4, .int (nI (a + 1))), (3, .int (nI t)), (2, .int (nI T)), (0, .ref 43), (1, .int z)]) hΓ dX12_run_189 0 rfl (nx_inc rfl) (by decide) rfl rfl ?_
                                refine sv_goto (pc' := 121) hΓ dX12_run_192 (by decide) ?_
                                have q := ih (a + 1) (by omega)
                                rw [show rni z (nI t) (rno z n (rs0 c0 cl) t) (a + 1) = (cc, ll) from by show rnS z (nI t) (rni z (nI t) (rno z n (rs0 c0 cl) t) a) a = _; rw [hcl]; simp only [rnS, stp, bgn]; rw [if_neg u31, if_pos u38, if_neg u39, if_neg u42]] at q
                                exact SV_lv [0, 1, 2, 3, 4] rfl q
                    exact SV_lv [0, 1, 2, 3, 4] rfl (LP121 n 0 (by omega))
                exact SV_lv [0, 1, 2, 3] rfl (LP113 (T + 1) 0 (by omega))
            | succ kq ih =>
              intro i ha
              refine sv_iload_n hΓ dX12_run_58 rfl 0 rfl rfl ?_
              refine sv_bipush (v := 16) hΓ dX12_run_59 (by decide) rfl ?_
              refine sv_icmp_ge (tgt := 82) hΓ dX12_run_61 (by decide) rfl (fun u45 => absurd u45 (nI_ge (b := 16) (by omega) (by omega))) (fun u45 => ?_)
              replace u45 : ¬ (16 ≤ ((nI i) : Int32)) := u45
              refine sv_aload_n hΓ dX12_run_64 rfl 1 rfl rfl ?_
              refine g_X12_60_43 hΓ dX12_run_65 rfl ?_
              refine sv_iload_n hΓ dX12_run_68 rfl 0 rfl rfl ?_
              refine sv_aload_n hΓ dX12_run_69 rfl 1 rfl rfl ?_
              refine g_X12_42_43 hΓ dX12_run_70 rfl ?_
              refine sv_iload_n hΓ dX12_run_73 rfl 0 rfl rfl ?_
              refine al_54 hΓ (i) rfl (by omega) dX12_run_74 rfl ?_
              refine at_60 hΓ (i) rfl (by omega) dX12_run_75 rfl ?_
              refine sv_iinc (v := nI (i + 1)) (lv' := [(2, .int (nI (i + 1))), (0, .ref 43), (1, .int z)]) hΓ dX12_run_76 0 rfl (nx_inc rfl) (by decide) rfl rfl ?_
              refine sv_goto (pc' := 58) hΓ dX12_run_79 (by decide) ?_
              have q := ih (i + 1) (by omega)
              exact SV_lv [0, 1, 2] rfl q
          exact SV_lv [0, 1, 2] rfl (LP58 16 0 (by omega))
        | succ kq ih =>
          intro p ha
          refine sv_iload_n hΓ dX12_run_31 rfl 0 rfl rfl ?_
          refine sv_iconst (v := 4) hΓ dX12_run_32 (by decide) rfl ?_
          refine sv_icmp_ge (tgt := 56) hΓ dX12_run_33 (by decide) rfl (fun u46 => absurd u46 (nI_ge (b := 4) (by omega) (by omega))) (fun u46 => ?_)
          replace u46 : ¬ (4 ≤ ((nI p) : Int32)) := u46
          refine sv_aload_n hΓ dX12_run_36 rfl 1 rfl rfl ?_
          refine g_X12_78_43 hΓ dX12_run_37 rfl ?_
          refine sv_iload_n hΓ dX12_run_40 rfl 0 rfl rfl ?_
          refine sv_iconst (v := 0) hΓ dX12_run_41 (by decide) rfl ?_
          refine as_66 hΓ (p) rfl (by omega) dX12_run_42 rfl ?_
          refine sv_aload_n hΓ dX12_run_43 rfl 1 rfl rfl ?_
          refine g_X12_54_43 hΓ dX12_run_44 rfl ?_
          refine sv_iload_n hΓ dX12_run_47 rfl 0 rfl rfl ?_
          refine sv_iconst (v := 0) hΓ dX12_run_48 (by decide) rfl ?_
          refine as_58 hΓ (p) rfl (by omega) dX12_run_49 rfl ?_
          refine sv_iinc (v := nI (p + 1)) (lv' := [(2, .int (nI (p + 1))), (0, .ref 43), (1, .int z)]) hΓ dX12_run_50 0 rfl (nx_inc rfl) (by decide) rfl rfl ?_
          refine sv_goto (pc' := 31) hΓ dX12_run_53 (by decide) ?_
          have q := ih (p + 1) (by omega)
          exact SV_lv [0, 1, 2] rfl q
      exact SV_lv [0, 1, 2] rfl (LP31 4 0 (by omega))
    refine sv_iload_n hΓ dX12_run_15 rfl 1 rfl rfl ?_
    refine sv_if_eq (tgt := 29) hΓ dX12_run_16 (by decide) rfl (fun u47 => ?_) (fun u47 => ?_)
    · replace u47 : (z : Int32) = 0 := u47
      exact J29 (Or.inl u47)
    · replace u47 : ¬ ((z : Int32) = 0) := u47
      refine sv_aload_n hΓ dX12_run_19 rfl 0 rfl rfl ?_
      refine g_X12_106_43 hΓ dX12_run_20 rfl ?_
      refine sv_if_ne (tgt := 29) hΓ dX12_run_23 (by decide) rfl (fun u48 => ?_) (fun u48 => ?_)
      · replace u48 : ¬ ((c0 43 13) : Int32) = 0 := u48
        exact J29 (Or.inr u48)
      · replace u48 : ((c0 43 13) : Int32) = 0 := u48
        refine sv_bipush (v := (-3)) hΓ dX12_run_26 (by decide) rfl ?_
        exact sv_iret hΓ hQ dX12_run_28 (Nat.le_of_ble_eq_true rfl) (Nat.le_of_ble_eq_true rfl) (Or.inr (Or.inl ⟨hn0, u47, u48, rfl, rfl, rfl⟩))
  · replace u1 : ((c0 43 1) : Int32) = 0 := u1
    replace u1 : n = 0 := nI_z hn6 hn u1
    refine sv_bipush (v := (-2)) hΓ dX12_run_12 (by decide) rfl ?_
    exact sv_iret hΓ hQ dX12_run_14 (Nat.le_of_ble_eq_true rfl) (Nat.le_of_ble_eq_true rfl) (Or.inl ⟨u1, rfl, rfl, rfl⟩)
