theorem SV_w {E : aG} {Γ : aC} {nL : Nat} {M : aM} {nx ce ce' sl sl' pc : Nat} {lv : List (Nat × Value)} {st : List Value} (h1 : ce ≤ ce') (h2 : sl ≤ sl') (k : SV E Γ nL M nx ce' sl' pc lv st) : SV E Γ nL M nx ce sl pc lv st := by
  obtain ⟨p, l, e, R, s, m, args, below, meth, c, Q⟩ := Γ
  intro H locs ls hR hS hl
  exact W.widen h1 h2 (k H locs ls hR hS hl)
/-- what clone asks for -/
def NX (E : aG) : Prop := ∀ U H, gZ E U H → va_Nw (.sameMethod "[J" "java/lang/Object" "clone" "()Ljava/lang/Object;") U ∧ va_Nw (.castable "[J" "java/lang/Cloneable") U
/-- a ROW as an object -/
def RW (dy : aM) (k q : Nat) (w : Int32) (v : Nat) (f : Nat → Int64) : Prop := 74 ≤ k ∧ 74 ≤ q ∧ dy k = some (.inr (6, [.int w, .ref q])) ∧ dy q = some (.inl (1, v, .inr (.inl f)))
/-- what a SHELF can hold -/
def SHX (cr : Nat → Nat → Option Nat) (dy : aM) (e : Nat) : Prop := cr 42 e = none ∨ (∃ k c nu a s, cr 42 e = some k ∧ AT c nu dy a k s) ∨ ∃ k q w v f, cr 42 e = some k ∧ RW dy k q w v f ∧ v ≤ 60
abbrev RC (v : Nat) (i n : Int32) : Prop := ¬ i < 0 ∧ ¬ n < 0 ∧ ¬ (nI v).toInt64 < i.toInt64 + n.toInt64
theorem RC_k {v : Nat} {i n : Int32} (hv : v ≤ 60) : RC v i n ↔ ∃ a b, i = nI a ∧ n = nI b ∧ a + b ≤ v := by
  have e0 : (0 : Int32).toInt = 0 := rfl
  have b1 := Int32.toInt_lt i
  have b2 := Int32.toInt_lt n
  constructor
  · rintro ⟨h1, h2, h3⟩
    rw [Int32.not_lt, Int32.le_iff_toInt_le, e0] at h1 h2
    rw [Int64.lt_iff_toInt_lt, Int64.toInt_add, Int32.toInt_toInt64, Int32.toInt_toInt64, Int32.toInt_toInt64, nI_toInt (by omega), Int.bmod_eq_of_le (by omega) (by omega)] at h3
    exact ⟨i.toInt.toNat, n.toInt.toNat, i_ofToNat h1, i_ofToNat h2, by omega⟩
  · rintro ⟨a, b, rfl, rfl, h⟩
    refine ⟨nI_nneg (by omega), nI_nneg (by omega), ?_⟩
    rw [Int64.lt_iff_toInt_lt, Int64.toInt_add, Int32.toInt_toInt64, Int32.toInt_toInt64, Int32.toInt_toInt64, nI_toInt (by omega), nI_toInt (by omega), nI_toInt (by omega), Int.bmod_eq_of_le (by omega) (by omega)]
    omega
theorem sub3 {q : Int32} (h0 : ¬ q = 0) (h1 : ¬ q = 1) (h2 : ¬ q = 2) {k : Nat} (h : q - 3 = nI k) (hk : k < 4) : q = nI (k + 3) := by
  have : q = nI k + 3 := by rw [← h]; exact (Int32.sub_add_cancel q 3).symm
  rw [this]; exact nI_add k 3
set_option maxRecDepth 100000 in
set_option maxHeartbeats 1000000 in
/-- count -/
theorem ct_X11_count {E : aG} (l : Launch) (c : aI) (nu : Nat → Int64) (q : Int32) (n : Nat) {ci : Nat → Nat → Int32} {cl : Nat → Nat → Int64} {cr : Nat → Nat → Option Nat} {dy : aM} {nx : Nat} (hB : BK c nu ci cr dy n) (hT : TR cr) : CT E l yX11_count cX11_count 2 (some .int) 2 [.ref 1, .int q] (mm ci cl cr dy) nx 0 0 (fun r M' nx' => (q = 0 ∧ r = some (.int (ci 2 1)) ∧ M' = mm (ci) (cl) cr dy ∧ nx = nx') ∨ (q = 1 ∧ r = some (.int (nI (osN c n))) ∧ M' = mm (ci) (cl) cr dy ∧ nx = nx') ∨ (q = 2 ∧ r = some (.int (tlF ci 0 4)) ∧ M' = mm (ci) (cl) cr dy ∧ nx = nx') ∨ ((q.toInt < 0 ∨ 2 < q.toInt) ∧ ¬ II 0 3 (q - 3) ∧ r = some (.int (-1)) ∧ M' = mm (ci) (cl) cr dy ∧ nx = nx') ∨ ((q.toInt < 0 ∨ 2 < q.toInt) ∧ ∃ k, k < 4 ∧ q - 3 = nI k ∧ r = some (.int (ci 5 k)) ∧ M' = mm ci cl cr dy ∧ nx = nx')) := by
  refine CT_intro (by decide) (Nat.le_of_ble_eq_true rfl) (fun Γ hΓ hQ => ?_)
  replace hΓ : CK E RX11 cX11_count 2 (some .int) "count" 2 0 0 Γ := hΓ
  have hB0 := hB
  obtain ⟨hAC, hST, hn6, hn, hwf, hwp, hln⟩ := hB
  show SV E Γ 2 (mm ci cl cr dy) nx 0 0 0 [(0, .ref 1), (1, .int q)] []
  refine sv_iload_n hΓ dX11_count_0 rfl 1 rfl rfl ?_
  refine sv_table (x := q) (lo := 0) (hi := 2) 2 rfl (fun u1 => ?_) (fun k hk u1 => ?_)
  · refine sv_tableOut (pc' := 55) hΓ dX11_count_1 u1 (by decide) ?_
    refine sv_iload_n hΓ dX11_count_55 rfl 1 rfl rfl ?_
    refine sv_iconst (v := 3) hΓ dX11_count_56 (by decide) rfl ?_
    refine sv_isub hΓ dX11_count_57 rfl ?_
    refine sv_callS hΓ (fun l => ct_X11_isKind l (q - 3) ) wv_X11_137 tb_433 rfl rfl (by decide) (Nat.le_of_ble_eq_true rfl) (Nat.le_of_ble_eq_true rfl) (Nat.le_of_ble_eq_true rfl) dX11_count_58 rfl (fun r M' nx' p2 => ?_)
    obtain ⟨rfl, rfl, rfl⟩ := p2
    show SV E Γ 2 (mm ci cl cr dy) nx 0 0 61 [(0, .ref 1), (1, .int q)] [.int (bI (II 0 3 (q - 3)))]
    refine sv_if_eq (tgt := 78) hΓ dX11_count_61 (by decide) rfl (fun u3 => ?_) (fun u3 => ?_)
    · replace u3 := bI_0.mp u3
      refine sv_iconst (v := (-1)) hΓ dX11_count_78 (by decide) rfl ?_
      exact sv_iret hΓ hQ dX11_count_79 (Nat.le_of_ble_eq_true rfl) (Nat.le_of_ble_eq_true rfl) (Or.inr (Or.inr (Or.inr (Or.inl ⟨u1, u3, rfl, rfl, rfl⟩))))
    · replace u3 := bI_ne.mp u3
      obtain ⟨k, hk0, hk3, ek⟩ := II.k u3
      refine sv_aload_n hΓ dX11_count_64 rfl 0 rfl rfl ?_
      refine g_X11_19_1 hΓ dX11_count_65 rfl ?_
      refine g_X11_140_4 hΓ dX11_count_68 rfl ?_
      refine sv_iload_n hΓ dX11_count_71 rfl 1 rfl rfl ?_
      refine sv_iconst (v := 3) hΓ dX11_count_72 (by decide) rfl ?_
      refine sv_isub hΓ dX11_count_73 rfl ?_
      refine ai_5 hΓ (k) ek (by omega) dX11_count_74 rfl ?_
      refine sv_goto (pc' := 79) hΓ dX11_count_75 (by decide) ?_
      exact sv_iret hΓ hQ dX11_count_79 (Nat.le_of_ble_eq_true rfl) (Nat.le_of_ble_eq_true rfl) (Or.inr (Or.inr (Or.inr (Or.inr ⟨u1, k, by omega, ek, rfl, rfl, rfl⟩))))
  · obtain rfl | rfl | rfl : k = 0 ∨ k = 1 ∨ k = 2 := by omega
    · refine sv_tableIn (off := 27) (pc' := 28) hΓ dX11_count_1 (by omega) (by omega) (by rw [u1]; rfl) (by decide) ?_
      replace u1 : q = (0 : Int32) := Int32.toInt_inj.mp (u1.trans (by decide))
      refine sv_aload_n hΓ dX11_count_28 rfl 0 rfl rfl ?_
      refine g_X11_10_1 hΓ dX11_count_29 rfl ?_
      refine sv_callV hΓ (fun l => ct_X1_size l  ) wv_X11_127 vs_X1_size rfl m_2 rfl rfl (by decide) (Nat.le_of_ble_eq_true rfl) (Nat.le_of_ble_eq_true rfl) (Nat.le_of_ble_eq_true rfl) dX11_count_32 rfl (fun r M' nx' p4 => ?_)
      obtain ⟨rfl, rfl, rfl⟩ := p4
      show SV E Γ 2 (mm ci cl cr dy) nx 0 0 35 [(0, .ref 1), (1, .int q)] [.int (ci 2 1)]
      exact sv_iret hΓ hQ dX11_count_35 (Nat.le_of_ble_eq_true rfl) (Nat.le_of_ble_eq_true rfl) (Or.inl ⟨u1, rfl, rfl, rfl⟩)
    · refine sv_tableIn (off := 35) (pc' := 36) hΓ dX11_count_1 (by omega) (by omega) (by rw [u1]; rfl) (by decide) ?_
      replace u1 : q = (1 : Int32) := Int32.toInt_inj.mp (u1.trans (by decide))
      refine sv_aload_n hΓ dX11_count_36 rfl 0 rfl rfl ?_
      refine g_X11_10_1 hΓ dX11_count_37 rfl ?_
      refine sv_callV hΓ (fun l => ct_X1_operands l c nu n hAC hn hn6) wv_X11_314 vs_X1_operands rfl m_2 rfl rfl (by decide) (Nat.le_of_ble_eq_true rfl) (Nat.le_of_ble_eq_true rfl) (Nat.le_of_ble_eq_true rfl) dX11_count_40 rfl (fun r M' nx' p5 => ?_)
      obtain ⟨rfl, rfl, rfl⟩ := p5
      show SV E Γ 2 (mm ci cl cr dy) nx 0 0 43 [(0, .ref 1), (1, .int q)] [.int (nI (osN c n))]
      exact sv_iret hΓ hQ dX11_count_43 (Nat.le_of_ble_eq_true rfl) (Nat.le_of_ble_eq_true rfl) (Or.inr (Or.inl ⟨u1, rfl, rfl, rfl⟩))
    · refine sv_tableIn (off := 43) (pc' := 44) hΓ dX11_count_1 (by omega) (by omega) (by rw [u1]; rfl) (by decide) ?_
      replace u1 : q = (2 : Int32) := Int32.toInt_inj.mp (u1.trans (by decide))
      refine sv_aload_n hΓ dX11_count_44 rfl 0 rfl rfl ?_
      refine g_X11_55_1 hΓ dX11_count_45 rfl ?_
      refine g_X11_151_18 hΓ dX11_count_48 rfl ?_
      refine sv_callS hΓ (fun l => ct_X11_totalF l  hT) wv_X11_294 tb_706 rfl rfl (by decide) (Nat.le_of_ble_eq_true rfl) (Nat.le_of_ble_eq_true rfl) (Nat.le_of_ble_eq_true rfl) dX11_count_51 rfl (fun r M' nx' p6 => ?_)
      obtain ⟨rfl, rfl, rfl⟩ := p6
      show SV E Γ 2 (mm ci cl cr dy) nx 0 0 54 [(0, .ref 1), (1, .int q)] [.int (tlF ci 0 4)]
      exact sv_iret hΓ hQ dX11_count_54 (Nat.le_of_ble_eq_true rfl) (Nat.le_of_ble_eq_true rfl) (Or.inr (Or.inr (Or.inl ⟨u1, rfl, rfl, rfl⟩)))
set_option maxRecDepth 100000 in
set_option maxHeartbeats 1000000 in
/-- keepAct -/
theorem ct_X11_keepAct {E : aG} (l : Launch) (c : aI) (nu : Nat → Int64) (n : Nat) (e : Nat) (x : Int32) {ci : Nat → Nat → Int32} {cl : Nat → Nat → Int64} {cr : Nat → Nat → Option Nat} {dy : aM} {nx : Nat} (hB : BK c nu ci cr dy n) (he : e < 8) (hNW : NW E) : CT E l yX11_keepAct cX11_keepAct 3 (some .int) 1 [.ref 1, .int (nI e), .int x] (mm ci cl cr dy) nx 0 0 (fun r M' nx' => (¬ AI n x ∧ r = some (.int (-1)) ∧ M' = mm (ci) (cl) cr dy ∧ nx = nx') ∨ (∃ a k s, a < n ∧ x = nI a ∧ AT c nu dy a k s ∧ r = some (.int 0) ∧ M' = mm ci cl (up2 cr 42 e (some k)) dy ∧ nx = nx')) := by
  refine CT_intro (by decide) (Nat.le_of_ble_eq_true rfl) (fun Γ hΓ hQ => ?_)
  replace hΓ : CK E RX11 cX11_keepAct 3 (some .int) "keepAct" 1 0 0 Γ := hΓ
  have hB0 := hB
  obtain ⟨hAC, hST, hn6, hn, hwf, hwp, hln⟩ := hB
  show SV E Γ 3 (mm ci cl cr dy) nx 0 0 0 [(0, .ref 1), (1, .int (nI e)), (2, .int x)] []
  refine sv_aload_n hΓ dX11_keepAct_0 rfl 0 rfl rfl ?_
  refine g_X11_10_1 hΓ dX11_keepAct_1 rfl ?_
  refine sv_iload_n hΓ dX11_keepAct_4 rfl 2 rfl rfl ?_
  refine sv_callV hΓ (fun l => ct_X1_has l x n hn hn6) wv_X11_97 vs_X1_has rfl m_2 rfl rfl (by decide) (Nat.le_of_ble_eq_true rfl) (Nat.le_of_ble_eq_true rfl) (Nat.le_of_ble_eq_true rfl) dX11_keepAct_5 rfl (fun r M' nx' p1 => ?_)
  obtain ⟨rfl, rfl, rfl⟩ := p1
  show SV E Γ 3 (mm ci cl cr dy) nx 0 0 8 [(0, .ref 1), (1, .int (nI e)), (2, .int x)] [.int (bI (AI n x))]
  refine sv_if_ne (tgt := 13) hΓ dX11_keepAct_8 (by decide) rfl (fun u2 => ?_) (fun u2 => ?_)
  · replace u2 := bI_ne.mp u2
    obtain ⟨a, ha6, ea⟩ := AI.k u2
    subst ea
    refine sv_aload_n hΓ dX11_keepAct_13 rfl 0 rfl rfl ?_
    refine g_X11_61_1 hΓ dX11_keepAct_14 rfl ?_
    refine sv_iload_n hΓ dX11_keepAct_17 rfl 1 rfl rfl ?_
    refine sv_aload_n hΓ dX11_keepAct_18 rfl 0 rfl rfl ?_
    refine g_X11_10_1 hΓ dX11_keepAct_19 rfl ?_
    refine sv_iload_n hΓ dX11_keepAct_22 rfl 2 rfl rfl ?_
    obtain ⟨kg3, sg3, hrg3, hAg3⟩ := hAC a (by omega)
    refine sv_callV hΓ (fun l => ct_X1_get l a kg3 (by omega) hrg3) wv_X11_104 vs_X1_get rfl m_2 rfl rfl (by decide) (Nat.le_of_ble_eq_true rfl) (Nat.le_of_ble_eq_true rfl) (Nat.le_of_ble_eq_true rfl) dX11_keepAct_23 rfl (fun r M' nx' p4 => ?_)
    obtain ⟨rfl, rfl, rfl⟩ := p4
    show SV E Γ 3 (mm ci cl cr dy) nx 0 0 26 [(0, .ref 1), (1, .int (nI e)), (2, .int (nI a))] [.ref kg3, .int (nI e), .ref 42]
    refine ap_42 hΓ (e) rfl (by omega) ⟨rfl, Or.inr hNW.2.2.2.2.2.2.2.2.2.1, hAg3.m⟩ dX11_keepAct_26 rfl ?_
    refine sv_iconst (v := 0) hΓ dX11_keepAct_27 (by decide) rfl ?_
    exact sv_iret hΓ hQ dX11_keepAct_28 (Nat.le_of_ble_eq_true rfl) (Nat.le_of_ble_eq_true rfl) (Or.inr ⟨a, kg3, sg3, ha6, rfl, hAg3, rfl, rfl, rfl⟩)
  · replace u2 := bI_0.mp u2
    refine sv_iconst (v := (-1)) hΓ dX11_keepAct_11 (by decide) rfl ?_
    exact sv_iret hΓ hQ dX11_keepAct_12 (Nat.le_of_ble_eq_true rfl) (Nat.le_of_ble_eq_true rfl) (Or.inl ⟨u2, rfl, rfl, rfl⟩)
set_option maxRecDepth 100000 in
set_option maxHeartbeats 1000000 in
/-- keepTicks -/
theorem ct_X11_keepTicks {E : aG} (l : Launch) (n : Nat) (e : Nat) {ci : Nat → Nat → Int32} {cl : Nat → Nat → Int64} {cr : Nat → Nat → Option Nat} {dy : aM} {nx : Nat} (hn : ci 2 1 = nI n) (hn6 : n ≤ 16) (he : e < 8) (hNW : NW E) (h74 : 74 ≤ nx) (hD : DN dy nx) : CT E l yX11_keepTicks cX11_keepTicks 4 (some .int) 3 [.ref 1, .int (nI e)] (mm ci cl cr dy) nx 2 18 (fun r M' nx' => (ci 1 7 = 0 ∧ r = some (.int (-3)) ∧ M' = mm (ci) (cl) cr dy ∧ nx = nx') ∨ (¬ ci 1 7 = 0 ∧ ∃ k q f dy', EX dy nx dy' nx' ∧ nx ≤ k ∧ nx ≤ q ∧ RW dy' k q 3 n f ∧ (∀ i, i < n → f i = (ci 11 i).toInt64) ∧ r = some (.int 0) ∧ M' = mm ci cl (up2 cr 42 e (some k)) dy')) := by
  refine CT_intro (by decide) (Nat.le_of_ble_eq_true rfl) (fun Γ hΓ hQ => ?_)
  replace hΓ : CK E RX11 cX11_keepTicks 4 (some .int) "keepTicks" 3 2 18 Γ := hΓ
  show SV E Γ 4 (mm ci cl cr dy) nx 0 0 0 [(0, .ref 1), (1, .int (nI e))] []
  refine sv_aload_n hΓ dX11_keepTicks_0 rfl 0 rfl rfl ?_
  refine g_X11_65_1 hΓ dX11_keepTicks_1 rfl ?_
  refine sv_if_ne (tgt := 10) hΓ dX11_keepTicks_4 (by decide) rfl (fun u1 => ?_) (fun u1 => ?_)
  · have hl := u1
    refine sv_aload_n hΓ dX11_keepTicks_10 rfl 0 rfl rfl ?_
    refine g_X11_10_1 hΓ dX11_keepTicks_11 rfl ?_
    refine sv_callV hΓ (fun l => ct_X1_sizeN l n hn) wv_X11_127 vs_X1_size rfl m_2 rfl rfl (by decide) (Nat.le_of_ble_eq_true rfl) (Nat.le_of_ble_eq_true rfl) (Nat.le_of_ble_eq_true rfl) dX11_keepTicks_14 rfl (fun r M' nx' p2 => ?_)
    obtain ⟨rfl, rfl, rfl⟩ := p2
    show SV E Γ 4 (mm ci cl cr dy) nx 0 0 17 [(0, .ref 1), (1, .int (nI e))] [.int (nI n)]
    refine sv_newJ hΓ (n) tb_172 dX11_keepTicks_17 (nI_nneg (by omega)) (nI_clamp (by omega)) (by omega) (Nat.le_of_ble_eq_true rfl) (by omega) rfl ?_
    refine SV_w (Nat.le_refl _) (show _ ≤ 16 from by omega) ?_
    rw [mm_dy (by omega)]
    show SV E Γ 4 (mm ci cl cr (va_up dy nx (some (.inl (1, n, .inr (.inl (fun _ => 0))))))) (nx + 1) 1 16 19 [(0, .ref 1), (1, .int (nI e))] [.ref nx]
    refine sv_astore_n (lv' := [(2, .ref nx), (0, .ref 1), (1, .int (nI e))]) hΓ dX11_keepTicks_19 rfl (by decide) rfl rfl ?_
    refine sv_iconst (v := 0) hΓ dX11_keepTicks_20 (by decide) rfl ?_
    refine sv_istore_n (lv' := [(3, .int 0), (2, .ref nx), (0, .ref 1), (1, .int (nI e))]) hΓ dX11_keepTicks_21 rfl (by decide) rfl rfl ?_
    have LP22 : ∀ kq a : Nat, a + kq = n → ∀ f : Nat → Int64, (∀ i, i < a → f i = (ci 11 i).toInt64) → SV E Γ 4 (mm ci cl cr (va_up dy nx (some (.inl (1, n, .inr (.inl f)))))) (nx + 1) 1 16 22 [(3, .int (nI a)), (2, .ref nx), (0, .ref 1), (1, .int (nI e))] [] := by
      intro kq
      induction kq with
      | zero =>
        intro a ha
        have ea : a = n := by omega
        intro f hf
        refine sv_iload_n hΓ dX11_keepTicks_22 rfl 0 rfl rfl ?_
        refine sv_aload_n hΓ dX11_keepTicks_23 rfl 1 rfl rfl ?_
        refine sv_alen (t := 1) hΓ rfl dX11_keepTicks_24 ((mm_hi (by omega)).trans (va_up_self _ _ _)) (v := nI n) rfl rfl ?_
        refine sv_icmp_ge (tgt := 47) hΓ dX11_keepTicks_25 (by decide) rfl (fun u3 => ?_) (fun u3 => absurd (nI_le (by omega) (by omega)) u3)
        refine sv_aload_n hΓ dX11_keepTicks_47 rfl 2 rfl rfl ?_
        refine g_X11_61_1 hΓ dX11_keepTicks_48 rfl ?_
        refine sv_iload_n hΓ dX11_keepTicks_51 rfl 3 rfl rfl ?_
        refine nw_X11_327 hΓ dX11_keepTicks_52 (Nat.le_of_ble_eq_true rfl) (Nat.le_of_ble_eq_true rfl) rfl ?_
        rw [mm_dy (by omega)]
        show SV E Γ 4 (mm ci cl cr (va_up (va_up dy nx (some (.inl (1, n, .inr (.inl f))))) (nx + 1) (some (.inr (6, [.int 0, .null]))))) (nx + 1 + 1) 2 18 55 [(3, .int (nI a)), (2, .ref nx), (0, .ref 1), (1, .int (nI e))] [.ref (nx + 1), .int (nI e), .ref 42]
        refine sv_dup hΓ dX11_keepTicks_55 rfl rfl ?_
        refine sv_iconst (v := 3) hΓ dX11_keepTicks_56 (by decide) rfl ?_
        refine sv_aload_n hΓ dX11_keepTicks_57 rfl 1 rfl rfl ?_
        refine sv_callI hΓ (fun l => ct_X7_init l (nx + 1) 3 nx (by omega) (va_up_self _ _ _) hNW) wv_X11_334 tb_742 rfl rfl rfl (by decide) (Nat.le_of_ble_eq_true rfl) (Nat.le_of_ble_eq_true rfl) (Nat.le_of_ble_eq_true rfl) dX11_keepTicks_58 rfl (fun r M' nx' p4 => ?_)
        obtain ⟨rfl, rfl, rfl⟩ := p4
        show SV E Γ 4 (mm ci cl cr (va_up (va_up (va_up dy nx (some (.inl (1, n, .inr (.inl f))))) (nx + 1) (some (.inr (6, [.int 0, .null])))) (nx + 1) (some (.inr (6, [.int 3, .ref nx]))))) (nx + 1 + 1) 2 18 61 [(3, .int (nI a)), (2, .ref nx), (0, .ref 1), (1, .int (nI e))] [.ref (nx + 1), .int (nI e), .ref 42]
        refine ap_42 hΓ (e) rfl (by omega) ⟨rfl, Or.inr hNW.2.2.2.2.2.2.2.2.2.2.1, ((mm_hi (by omega)).trans (va_up_self _ _ _))⟩ dX11_keepTicks_61 rfl ?_
        refine sv_iconst (v := 0) hΓ dX11_keepTicks_62 (by decide) rfl ?_
        exact sv_iret hΓ hQ dX11_keepTicks_63 (Nat.le_of_ble_eq_true rfl) (Nat.le_of_ble_eq_true rfl) (Or.inr ⟨hl, nx + 1, nx, _, _, (((EX.rf hD).tr (EX.new (EX.rf hD).2.2)).tr (EX.new ((EX.rf hD).tr (EX.new (EX.rf hD).2.2)).2.2)).set (by omega) (by omega), by omega, by omega, ⟨by omega, by omega, va_up_self _ _ _, (va_up_ne _ _ (by omega)).trans ((va_up_ne _ _ (by omega)).trans (va_up_self _ _ _))⟩, ea ▸ hf, rfl, rfl⟩)
      | succ kq ih =>
        intro a ha
        intro f hf
        refine sv_iload_n hΓ dX11_keepTicks_22 rfl 0 rfl rfl ?_
        refine sv_aload_n hΓ dX11_keepTicks_23 rfl 1 rfl rfl ?_
        refine sv_alen (t := 1) hΓ rfl dX11_keepTicks_24 ((mm_hi (by omega)).trans (va_up_self _ _ _)) (v := nI n) rfl rfl ?_
        refine sv_icmp_ge (tgt := 47) hΓ dX11_keepTicks_25 (by decide) rfl (fun u5 => absurd u5 (nI_ge (by omega) (by omega))) (fun u5 => ?_)
        refine sv_aload_n hΓ dX11_keepTicks_28 rfl 1 rfl rfl ?_
        refine sv_iload_n hΓ dX11_keepTicks_29 rfl 0 rfl rfl ?_
        refine sv_aload_n hΓ dX11_keepTicks_30 rfl 2 rfl rfl ?_
        refine g_X11_37_1 hΓ dX11_keepTicks_31 rfl ?_
        refine g_X11_228_10 hΓ dX11_keepTicks_34 rfl ?_
        refine sv_iload_n hΓ dX11_keepTicks_37 rfl 0 rfl rfl ?_
        refine ai_11 hΓ (a) rfl (by omega) dX11_keepTicks_38 rfl ?_
        refine sv_i2l hΓ dX11_keepTicks_39 rfl rfl ?_
        refine sv_last hΓ dX11_keepTicks_40 ((mm_hi (by omega)).trans (va_up_self _ _ _)) (vp_in_nI (by omega) (by omega)) rfl ?_
        rw [nI_clamp (by omega), mm_dy (by omega), va_up_up]
        show SV E Γ 4 (mm ci cl cr (va_up dy nx (some (.inl (1, n, .inr (.inl (vp_updL f a (ci 11 a).toInt64))))))) (nx + 1) 1 16 41 [(3, .int (nI a)), (2, .ref nx), (0, .ref 1), (1, .int (nI e))] []
        refine sv_iinc (v := nI (a + 1)) (lv' := [(3, .int (nI (a + 1))), (2, .ref nx), (0, .ref 1), (1, .int (nI e))]) hΓ dX11_keepTicks_41 0 rfl (nx_inc rfl) (by decide) rfl rfl ?_
        refine sv_goto (pc' := 22) hΓ dX11_keepTicks_44 (by decide) ?_
        exact SV_lv [0, 1, 2, 3] rfl (ih (a + 1) (by omega) _ (fun i hi => if e : i = a then by subst e; exact pk_uLs else (pk_uLn e).trans (hf i (by omega))))
    exact SV_lv [0, 1, 2, 3] rfl (LP22 n 0 (by omega) _ (fun i hi => by omega))
  · refine sv_bipush (v := (-3)) hΓ dX11_keepTicks_7 (by decide) rfl ?_
    exact sv_iret hΓ hQ dX11_keepTicks_9 (Nat.le_of_ble_eq_true rfl) (Nat.le_of_ble_eq_true rfl) (Or.inl ⟨u1, rfl, rfl, rfl⟩)
set_option maxRecDepth 100000 in
set_option maxHeartbeats 1000000 in
/-- keep -/
theorem ct_X11_keep {E : aG} (l : Launch) (c : aI) (nu : Nat → Int64) (n : Nat) (d : Int32) (m : Int32) (x : Int32) {ci : Nat → Nat → Int32} {cl : Nat → Nat → Int64} {cr : Nat → Nat → Option Nat} {dy : aM} {nx : Nat} (hB : BK c nu ci cr dy n) (hNW : NW E) (hNX : NX E) (h74 : 74 ≤ nx) (hD : DN dy nx) : CT E l yX11_keep cX11_keep 4 (some .int) 4 [.ref 1, .int d, .int m, .int x] (mm ci cl cr dy) nx 2 18 (fun r M' nx' => (¬ AI 8 d ∧ r = some (.int (-1)) ∧ M' = mm (ci) (cl) cr dy ∧ nx = nx') ∨ (∃ e, e < 8 ∧ d = nI e ∧ ((m = 0 ∧ r = some (.int 0) ∧ M' = mm ci cl (up2 cr 42 e none) dy ∧ nx = nx') ∨ (m = 1 ∧ ((¬ AI n x ∧ r = some (.int (-1)) ∧ M' = mm (ci) (cl) cr dy ∧ nx = nx') ∨ (∃ a k s, a < n ∧ x = nI a ∧ AT c nu dy a k s ∧ r = some (.int 0) ∧ M' = mm ci cl (up2 cr 42 e (some k)) dy ∧ nx = nx'))) ∨ (m = 3 ∧ ((ci 1 7 = 0 ∧ r = some (.int (-3)) ∧ M' = mm (ci) (cl) cr dy ∧ nx = nx') ∨ (¬ ci 1 7 = 0 ∧ ∃ k q f dy', EX dy nx dy' nx' ∧ nx ≤ k ∧ nx ≤ q ∧ RW dy' k q 3 n f ∧ (∀ i, i < n → f i = (ci 11 i).toInt64) ∧ r = some (.int 0) ∧ M' = mm ci cl (up2 cr 42 e (some k)) dy'))) ∨ (m = 4 ∧ ∃ k q f dy', EX dy nx dy' nx' ∧ nx ≤ k ∧ nx ≤ q ∧ RW dy' k q 4 16 f ∧ (∀ i, i < 16 → f i = cl 21 i) ∧ r = some (.int 0) ∧ M' = mm ci cl (up2 cr 42 e (some k)) dy') ∨ (¬ m = 0 ∧ ¬ m = 1 ∧ ¬ m = 3 ∧ ¬ m = 4 ∧ r = some (.int (-1)) ∧ M' = mm ci cl cr dy ∧ nx = nx')))) := by
  refine CT_intro (by decide) (Nat.le_of_ble_eq_true rfl) (fun Γ hΓ hQ => ?_)
  replace hΓ : CK E RX11 cX11_keep 4 (some .int) "keep" 4 2 18 Γ := hΓ
  have hB0 := hB
  obtain ⟨hAC, hST, hn6, hn, hwf, hwp, hln⟩ := hB
  show SV E Γ 4 (mm ci cl cr dy) nx 0 0 0 [(0, .ref 1), (1, .int d), (2, .int m), (3, .int x)] []
  refine sv_iload_n hΓ dX11_keep_0 rfl 1 rfl rfl ?_
  refine sv_callS hΓ (fun l => ct_X11_isShelf l d ) wv_X11_317 tb_729 rfl rfl (by decide) (Nat.le_of_ble_eq_true rfl) (Nat.le_of_ble_eq_true rfl) (Nat.le_of_ble_eq_true rfl) dX11_keep_1 rfl (fun r M' nx' p1 => ?_)
  obtain ⟨rfl, rfl, rfl⟩ := p1
  show SV E Γ 4 (mm ci cl cr dy) nx 0 0 4 [(0, .ref 1), (1, .int d), (2, .int m), (3, .int x)] [.int (bI (AI 8 d))]
  refine sv_if_ne (tgt := 9) hΓ dX11_keep_4 (by decide) rfl (fun u2 => ?_) (fun u2 => ?_)
  · replace u2 := bI_ne.mp u2
    obtain ⟨e, he, ee⟩ := AI.k u2
    subst ee
    refine sv_iload_n hΓ dX11_keep_9 rfl 2 rfl rfl ?_
    refine sv_table (x := m) (lo := 0) (hi := 4) 4 rfl (fun u3 => ?_) (fun k hk u3 => ?_)
    · refine sv_tableOut (pc' := 95) hΓ dX11_keep_10 u3 (by decide) ?_
      refine sv_iconst (v := (-1)) hΓ dX11_keep_95 (by decide) rfl ?_
      exact sv_iret hΓ hQ dX11_keep_96 (Nat.le_of_ble_eq_true rfl) (Nat.le_of_ble_eq_true rfl) (Or.inr ⟨e, he, rfl, Or.inr (Or.inr (Or.inr (Or.inr ⟨out_ne u3 0 (by decide), out_ne u3 1 (by decide), out_ne u3 3 (by decide), out_ne u3 4 (by decide), rfl, rfl, rfl⟩)))⟩)
    · obtain rfl | rfl | rfl | rfl | rfl : k = 0 ∨ k = 1 ∨ k = 2 ∨ k = 3 ∨ k = 4 := by omega
      · refine sv_tableIn (off := 34) (pc' := 44) hΓ dX11_keep_10 (by omega) (by omega) (by rw [u3]; rfl) (by decide) ?_
        replace u3 : m = (0 : Int32) := Int32.toInt_inj.mp (u3.trans (by decide))
        refine sv_aload_n hΓ dX11_keep_44 rfl 0 rfl rfl ?_
        refine g_X11_61_1 hΓ dX11_keep_45 rfl ?_
        refine sv_iload_n hΓ dX11_keep_48 rfl 1 rfl rfl ?_
        refine sv_null hΓ dX11_keep_49 rfl ?_
        refine ap_42N hΓ (e) rfl (by omega) dX11_keep_50 rfl ?_
        refine sv_iconst (v := 0) hΓ dX11_keep_51 (by decide) rfl ?_
        exact sv_iret hΓ hQ dX11_keep_52 (Nat.le_of_ble_eq_true rfl) (Nat.le_of_ble_eq_true rfl) (Or.inr ⟨e, he, rfl, Or.inl ⟨u3, rfl, rfl, rfl⟩⟩)
      · refine sv_tableIn (off := 43) (pc' := 53) hΓ dX11_keep_10 (by omega) (by omega) (by rw [u3]; rfl) (by decide) ?_
        replace u3 : m = (1 : Int32) := Int32.toInt_inj.mp (u3.trans (by decide))
        refine sv_aload_n hΓ dX11_keep_53 rfl 0 rfl rfl ?_
        refine sv_iload_n hΓ dX11_keep_54 rfl 1 rfl rfl ?_
        refine sv_iload_n hΓ dX11_keep_55 rfl 3 rfl rfl ?_
        refine sv_callV hΓ (fun l => ct_X11_keepAct l c nu n e x hB0 (by omega) hNW) wv_X11_320 vs_X11_keepAct rfl m_1 rfl rfl (by decide) (Nat.le_of_ble_eq_true rfl) (Nat.le_of_ble_eq_true rfl) (Nat.le_of_ble_eq_true rfl) dX11_keep_56 rfl (fun r M' nx' p4 => ?_)
        rcases p4 with ⟨hka, rfl, rfl, rfl⟩ | ⟨a, k, s, ha, hxa, hA, rfl, rfl, rfl⟩
        · show SV E Γ 4 (mm ci cl cr dy) nx 0 0 59 [(0, .ref 1), (1, .int (nI e)), (2, .int m), (3, .int x)] [.int ((-1))]
          exact sv_iret hΓ hQ dX11_keep_59 (Nat.le_of_ble_eq_true rfl) (Nat.le_of_ble_eq_true rfl) (Or.inr ⟨e, he, rfl, Or.inr (Or.inl ⟨u3, Or.inl ⟨hka, rfl, rfl, rfl⟩⟩)⟩)
        · show SV E Γ 4 (mm ci cl (up2 cr 42 e (some k)) dy) nx 0 0 59 [(0, .ref 1), (1, .int (nI e)), (2, .int m), (3, .int x)] [.int 0]
          exact sv_iret hΓ hQ dX11_keep_59 (Nat.le_of_ble_eq_true rfl) (Nat.le_of_ble_eq_true rfl) (Or.inr ⟨e, he, rfl, Or.inr (Or.inl ⟨u3, Or.inr ⟨a, k, s, ha, hxa, hA, rfl, rfl, rfl⟩⟩)⟩)
      · refine sv_tableIn (off := 85) (pc' := 95) hΓ dX11_keep_10 (by omega) (by omega) (by rw [u3]; rfl) (by decide) ?_
        replace u3 : m = (2 : Int32) := Int32.toInt_inj.mp (u3.trans (by decide))
        refine sv_iconst (v := (-1)) hΓ dX11_keep_95 (by decide) rfl ?_
        exact sv_iret hΓ hQ dX11_keep_96 (Nat.le_of_ble_eq_true rfl) (Nat.le_of_ble_eq_true rfl) (Or.inr ⟨e, he, rfl, Or.inr (Or.inr (Or.inr (Or.inr ⟨by rw [u3]; decide, by rw [u3]; decide, by rw [u3]; decide, by rw [u3]; decide, rfl, rfl, rfl⟩)))⟩)
      · refine sv_tableIn (off := 50) (pc' := 60) hΓ dX11_keep_10 (by omega) (by omega) (by rw [u3]; rfl) (by decide) ?_
        replace u3 : m = (3 : Int32) := Int32.toInt_inj.mp (u3.trans (by decide))
        refine sv_aload_n hΓ dX11_keep_60 rfl 0 rfl rfl ?_
        refine sv_iload_n hΓ dX11_keep_61 rfl 1 rfl rfl ?_
        refine sv_callV hΓ (fun l => ct_X11_keepTicks l n e hn hn6 (by omega) hNW h74 hD) wv_X11_323 vs_X11_keepTicks rfl m_1 rfl rfl (by decide) (Nat.le_of_ble_eq_true rfl) (Nat.le_of_ble_eq_true rfl) (Nat.le_of_ble_eq_true rfl) dX11_keep_62 rfl (fun r M' np5 p5 => ?_)
        rcases p5 with ⟨hka, rfl, rfl, rfl⟩ | ⟨hkl, k, q, f, dy1, hE, hk, hq, hRW, hf, rfl, rfl⟩
        · show SV E Γ 4 (mm ci cl cr dy) nx 2 18 65 [(0, .ref 1), (1, .int (nI e)), (2, .int m), (3, .int x)] [.int ((-3))]
          exact sv_iret hΓ hQ dX11_keep_65 (Nat.le_of_ble_eq_true rfl) (Nat.le_of_ble_eq_true rfl) (Or.inr ⟨e, he, rfl, Or.inr (Or.inr (Or.inl ⟨u3, Or.inl ⟨hka, rfl, rfl, rfl⟩⟩))⟩)
        · show SV E Γ 4 (mm ci cl (up2 cr 42 e (some k)) dy1) np5 2 18 65 [(0, .ref 1), (1, .int (nI e)), (2, .int m), (3, .int x)] [.int 0]
          exact sv_iret hΓ hQ dX11_keep_65 (Nat.le_of_ble_eq_true rfl) (Nat.le_of_ble_eq_true rfl) (Or.inr ⟨e, he, rfl, Or.inr (Or.inr (Or.inl ⟨u3, Or.inr ⟨hkl, k, q, f, dy1, hE, hk, hq, hRW, hf, rfl, rfl⟩⟩))⟩)
      · refine sv_tableIn (off := 56) (pc' := 66) hΓ dX11_keep_10 (by omega) (by omega) (by rw [u3]; rfl) (by decide) ?_
        replace u3 : m = (4 : Int32) := Int32.toInt_inj.mp (u3.trans (by decide))
        refine sv_aload_n hΓ dX11_keep_66 rfl 0 rfl rfl ?_
        refine g_X11_61_1 hΓ dX11_keep_67 rfl ?_
        refine sv_iload_n hΓ dX11_keep_70 rfl 1 rfl rfl ?_
        refine nw_X11_327 hΓ dX11_keep_71 (Nat.le_of_ble_eq_true rfl) (Nat.le_of_ble_eq_true rfl) rfl ?_
        rw [mm_dy (by omega)]
        show SV E Γ 4 (mm ci cl cr (va_up dy nx (some (.inr (6, [.int 0, .null]))))) (nx + 1) 1 2 74 [(0, .ref 1), (1, .int (nI e)), (2, .int m), (3, .int x)] [.ref nx, .int (nI e), .ref 42]
        refine sv_dup hΓ dX11_keep_74 rfl rfl ?_
        refine sv_iconst (v := 4) hΓ dX11_keep_75 (by decide) rfl ?_
        refine sv_aload_n hΓ dX11_keep_76 rfl 0 rfl rfl ?_
        refine g_X11_55_1 hΓ dX11_keep_77 rfl ?_
        refine g_X11_169_18 hΓ dX11_keep_80 rfl ?_
        refine sv_clone hΓ ⟨tb_754, tb_756, tb_757, tb_758⟩ hNX m_21 (by decide) (Nat.le_of_ble_eq_true rfl) (Nat.le_of_ble_eq_true rfl) (Nat.le_of_ble_eq_true rfl) dX11_keep_83 rfl ?_
        rw [mm_dy (by omega)]
        show SV E Γ 4 (mm ci cl cr (va_up (va_up dy nx (some (.inr (6, [.int 0, .null])))) (nx + 1) (some (.inl (1, 16, .inr (.inl (cl 21))))))) (nx + 1 + 1) 2 18 86 [(0, .ref 1), (1, .int (nI e)), (2, .int m), (3, .int x)] [.ref (nx + 1), .int 4, .ref nx, .ref nx, .int (nI e), .ref 42]
        refine sv_castA hΓ tb_760 ((mm_hi (by omega)).trans (va_up_self _ _ _)) dX11_keep_86 rfl ?_
        refine sv_callI hΓ (fun l => ct_X7_init l nx 4 (nx + 1) (by omega) ((va_up_ne _ _ (by omega)).trans (va_up_self _ _ _)) hNW) wv_X11_334 tb_742 rfl rfl rfl (by decide) (Nat.le_of_ble_eq_true rfl) (Nat.le_of_ble_eq_true rfl) (Nat.le_of_ble_eq_true rfl) dX11_keep_89 rfl (fun r M' nx' p6 => ?_)
        obtain ⟨rfl, rfl, rfl⟩ := p6
        show SV E Γ 4 (mm ci cl cr (va_up (va_up (va_up dy nx (some (.inr (6, [.int 0, .null])))) (nx + 1) (some (.inl (1, 16, .inr (.inl (cl 21)))))) nx (some (.inr (6, [.int 4, .ref (nx + 1)]))))) (nx + 1 + 1) 2 18 92 [(0, .ref 1), (1, .int (nI e)), (2, .int m), (3, .int x)] [.ref nx, .int (nI e), .ref 42]
        refine ap_42 hΓ (e) rfl (by omega) ⟨rfl, Or.inr hNW.2.2.2.2.2.2.2.2.2.2.1, ((mm_hi (by omega)).trans (va_up_self _ _ _))⟩ dX11_keep_92 rfl ?_
        refine sv_iconst (v := 0) hΓ dX11_keep_93 (by decide) rfl ?_
        exact sv_iret hΓ hQ dX11_keep_94 (Nat.le_of_ble_eq_true rfl) (Nat.le_of_ble_eq_true rfl) (Or.inr ⟨e, he, rfl, Or.inr (Or.inr (Or.inr (Or.inl ⟨u3, nx, nx + 1, _, _, (((EX.rf hD).tr (EX.new (EX.rf hD).2.2)).tr (EX.new ((EX.rf hD).tr (EX.new (EX.rf hD).2.2)).2.2)).set (by omega) (by omega), by omega, by omega, ⟨by omega, by omega, va_up_self _ _ _, (va_up_ne _ _ (by omega)).trans (va_up_self _ _ _)⟩, (fun _ _ => rfl), rfl, rfl⟩)))⟩)
  · replace u2 := bI_0.mp u2
    refine sv_iconst (v := (-1)) hΓ dX11_keep_7 (by decide) rfl ?_
    exact sv_iret hΓ hQ dX11_keep_8 (Nat.le_of_ble_eq_true rfl) (Nat.le_of_ble_eq_true rfl) (Or.inl ⟨u2, rfl, rfl, rfl⟩)
set_option maxRecDepth 100000 in
set_option maxHeartbeats 1000000 in
/-- make -/
theorem ct_X11_make {E : aG} (l : Launch) (d : Int32) (m : Int32) (x : Int32) {ci : Nat → Nat → Int32} {cl : Nat → Nat → Int64} {cr : Nat → Nat → Option Nat} {dy : aM} {nx : Nat} (hNW : NW E) (h74 : 74 ≤ nx) (hD : DN dy nx) : CT E l yX11_make cX11_make 4 (some .int) 3 [.ref 1, .int d, .int m, .int x] (mm ci cl cr dy) nx 2 62 (fun r M' nx' => (¬ (AI 8 d ∧ II 3 4 m ∧ x ≤ 60) ∧ r = some (.int (-1)) ∧ M' = mm (ci) (cl) cr dy ∧ nx = nx') ∨ ((AI 8 d ∧ II 3 4 m ∧ x ≤ 60) ∧ ¬ 0 ≤ x ∧ r = some (.int (-14)) ∧ M' = mm (ci) (cl) cr dy ∧ nx = nx') ∨ (II 3 4 m ∧ ∃ e j, e < 8 ∧ j ≤ 60 ∧ d = nI e ∧ x = nI j ∧ ∃ k q f dy', EX dy nx dy' nx' ∧ nx ≤ k ∧ nx ≤ q ∧ RW dy' k q m j f ∧ (∀ i, i < j → f i = 0) ∧ r = some (.int 0) ∧ M' = mm ci cl (up2 cr 42 e (some k)) dy')) := by
  refine CT_intro (by decide) (Nat.le_of_ble_eq_true rfl) (fun Γ hΓ hQ => ?_)
  replace hΓ : CK E RX11 cX11_make 4 (some .int) "make" 3 2 62 Γ := hΓ
  show SV E Γ 4 (mm ci cl cr dy) nx 0 0 0 [(0, .ref 1), (1, .int d), (2, .int m), (3, .int x)] []
  refine sv_iload_n hΓ dX11_make_0 rfl 1 rfl rfl ?_
  refine sv_callS hΓ (fun l => ct_X11_isShelf l d ) wv_X11_317 tb_729 rfl rfl (by decide) (Nat.le_of_ble_eq_true rfl) (Nat.le_of_ble_eq_true rfl) (Nat.le_of_ble_eq_true rfl) dX11_make_1 rfl (fun r M' nx' p1 => ?_)
  obtain ⟨rfl, rfl, rfl⟩ := p1
  show SV E Γ 4 (mm ci cl cr dy) nx 0 0 4 [(0, .ref 1), (1, .int d), (2, .int m), (3, .int x)] [.int (bI (AI 8 d))]
  refine sv_if_eq (tgt := 22) hΓ dX11_make_4 (by decide) rfl (fun u2 => ?_) (fun u2 => ?_)
  · replace u2 := bI_0.mp u2
    refine sv_iconst (v := (-1)) hΓ dX11_make_22 (by decide) rfl ?_
    exact sv_iret hΓ hQ dX11_make_23 (Nat.le_of_ble_eq_true rfl) (Nat.le_of_ble_eq_true rfl) (Or.inl ⟨(fun q => u2 q.1), rfl, rfl, rfl⟩)
  · replace u2 := bI_ne.mp u2
    refine sv_iload_n hΓ dX11_make_7 rfl 2 rfl rfl ?_
    refine sv_iconst (v := 3) hΓ dX11_make_8 (by decide) rfl ?_
    refine sv_iconst (v := 4) hΓ dX11_make_9 (by decide) rfl ?_
    refine sv_callS hΓ (fun l => ct_X11_withinI l m 3 4 3 4 (by decide) (by decide) rfl rfl) wv_X11_115 tb_256 rfl rfl (by decide) (Nat.le_of_ble_eq_true rfl) (Nat.le_of_ble_eq_true rfl) (Nat.le_of_ble_eq_true rfl) dX11_make_10 rfl (fun r M' nx' p3 => ?_)
    obtain ⟨rfl, rfl, rfl⟩ := p3
    show SV E Γ 4 (mm ci cl cr dy) nx 0 0 13 [(0, .ref 1), (1, .int d), (2, .int m), (3, .int x)] [.int (bI (II 3 4 m))]
    refine sv_if_eq (tgt := 22) hΓ dX11_make_13 (by decide) rfl (fun u4 => ?_) (fun u4 => ?_)
    · replace u4 := bI_0.mp u4
      refine sv_iconst (v := (-1)) hΓ dX11_make_22 (by decide) rfl ?_
      exact sv_iret hΓ hQ dX11_make_23 (Nat.le_of_ble_eq_true rfl) (Nat.le_of_ble_eq_true rfl) (Or.inl ⟨(fun q => u4 q.2.1), rfl, rfl, rfl⟩)
    · replace u4 := bI_ne.mp u4
      refine sv_iload_n hΓ dX11_make_16 rfl 3 rfl rfl ?_
      refine sv_bipush (v := 60) hΓ dX11_make_17 (by decide) rfl ?_
      refine sv_icmp_le (tgt := 24) hΓ dX11_make_19 (by decide) rfl (fun u5 => ?_) (fun u5 => ?_)
      · refine sv_iload_n hΓ dX11_make_24 rfl 3 rfl rfl ?_
        refine sv_if_ge (tgt := 31) hΓ dX11_make_25 (by decide) rfl (fun u6 => ?_) (fun u6 => ?_)
        · have hmm := u4
          obtain ⟨e, he, ee⟩ := AI.k u2
          subst ee
          obtain ⟨j, hj6, ej⟩ := nn_k u6 u5
          subst ej
          refine sv_aload_n hΓ dX11_make_31 rfl 0 rfl rfl ?_
          refine g_X11_61_1 hΓ dX11_make_32 rfl ?_
          refine sv_iload_n hΓ dX11_make_35 rfl 1 rfl rfl ?_
          refine nw_X11_327 hΓ dX11_make_36 (Nat.le_of_ble_eq_true rfl) (Nat.le_of_ble_eq_true rfl) rfl ?_
          rw [mm_dy (by omega)]
          show SV E Γ 4 (mm ci cl cr (va_up dy nx (some (.inr (6, [.int 0, .null]))))) (nx + 1) 1 2 39 [(0, .ref 1), (1, .int (nI e)), (2, .int m), (3, .int (nI j))] [.ref nx, .int (nI e), .ref 42]
          refine sv_dup hΓ dX11_make_39 rfl rfl ?_
          refine sv_iload_n hΓ dX11_make_40 rfl 2 rfl rfl ?_
          refine sv_iload_n hΓ dX11_make_41 rfl 3 rfl rfl ?_
          refine sv_newJ hΓ (j) tb_172 dX11_make_42 (nI_nneg (by omega)) (nI_clamp (by omega)) (by omega) (Nat.le_of_ble_eq_true rfl) (by omega) rfl ?_
          refine SV_w (Nat.le_refl _) (show _ ≤ 62 from by omega) ?_
          rw [mm_dy (by omega)]
          show SV E Γ 4 (mm ci cl cr (va_up (va_up dy nx (some (.inr (6, [.int 0, .null])))) (nx + 1) (some (.inl (1, j, .inr (.inl (fun _ => 0))))))) (nx + 1 + 1) 2 62 44 [(0, .ref 1), (1, .int (nI e)), (2, .int m), (3, .int (nI j))] [.ref (nx + 1), .int m, .ref nx, .ref nx, .int (nI e), .ref 42]
          refine sv_callI hΓ (fun l => ct_X7_init l nx m (nx + 1) (by omega) ((va_up_ne _ _ (by omega)).trans (va_up_self _ _ _)) hNW) wv_X11_334 tb_742 rfl rfl rfl (by decide) (Nat.le_of_ble_eq_true rfl) (Nat.le_of_ble_eq_true rfl) (Nat.le_of_ble_eq_true rfl) dX11_make_44 rfl (fun r M' nx' p7 => ?_)
          obtain ⟨rfl, rfl, rfl⟩ := p7
          show SV E Γ 4 (mm ci cl cr (va_up (va_up (va_up dy nx (some (.inr (6, [.int 0, .null])))) (nx + 1) (some (.inl (1, j, .inr (.inl (fun _ => 0)))))) nx (some (.inr (6, [.int m, .ref (nx + 1)]))))) (nx + 1 + 1) 2 62 47 [(0, .ref 1), (1, .int (nI e)), (2, .int m), (3, .int (nI j))] [.ref nx, .int (nI e), .ref 42]
          refine ap_42 hΓ (e) rfl (by omega) ⟨rfl, Or.inr hNW.2.2.2.2.2.2.2.2.2.2.1, ((mm_hi (by omega)).trans (va_up_self _ _ _))⟩ dX11_make_47 rfl ?_
          refine sv_iconst (v := 0) hΓ dX11_make_48 (by decide) rfl ?_
          exact sv_iret hΓ hQ dX11_make_49 (Nat.le_of_ble_eq_true rfl) (Nat.le_of_ble_eq_true rfl) (Or.inr (Or.inr ⟨hmm, e, j, he, hj6, rfl, rfl, nx, nx + 1, _, _, (((EX.rf hD).tr (EX.new (EX.rf hD).2.2)).tr (EX.new ((EX.rf hD).tr (EX.new (EX.rf hD).2.2)).2.2)).set (by omega) (by omega), by omega, by omega, ⟨by omega, by omega, va_up_self _ _ _, (va_up_ne _ _ (by omega)).trans (va_up_self _ _ _)⟩, (fun _ _ => rfl), rfl, rfl⟩))
        · refine sv_bipush (v := (-14)) hΓ dX11_make_28 (by decide) rfl ?_
          exact sv_iret hΓ hQ dX11_make_30 (Nat.le_of_ble_eq_true rfl) (Nat.le_of_ble_eq_true rfl) (Or.inr (Or.inl ⟨⟨u2, u4, u5⟩, u6, rfl, rfl, rfl⟩))
      · refine sv_iconst (v := (-1)) hΓ dX11_make_22 (by decide) rfl ?_
        exact sv_iret hΓ hQ dX11_make_23 (Nat.le_of_ble_eq_true rfl) (Nat.le_of_ble_eq_true rfl) (Or.inl ⟨(fun q => u5 q.2.2), rfl, rfl, rfl⟩)
