theorem SV_eq {E : aG} {Γ : aC} {nL : Nat} {M M' : aM} {nx ce sl pc : Nat} {lv : List (Nat × Value)} {st : List Value} (h : M = M') (k : SV E Γ nL M' nx ce sl pc lv st) : SV E Γ nL M nx ce sl pc lv st := by subst h; exact k
section
variable {E : aG} {Γ : aC} {own : String} {cc : ByteArray} {nL : Nat} {ret : Option FieldType} {nm : String} {d mc ms : Nat} {ci : Nat → Nat → Int32} {cl : Nat → Nat → Int64} {cr : Nat → Nat → Option Nat} {dy : aM} {nx ce sl pc pc' : Nat} {lv lv' : List (Nat × Value)} {st : List Value}
theorem ai_5 (hΓ : CK E own cc nL ret nm d mc ms Γ) {i : Int32} (j : Nat) (hi : i = nI j) (hj : j < 4) (hd : decode cc pc = .ok (.iaload, 1)) (hn : pc + 1 = pc') (kk : SV E Γ nL (mm ci cl cr dy) nx ce sl pc' lv (.int (ci 5 j) :: st)) : SV E Γ nL (mm ci cl cr dy) nx ce sl pc lv (.int i :: .ref 5 :: st) := by
  subst hi
  exact sv_iald hΓ hd m_5 (vp_in_nI hj (by decide)) hn (by rw [nI_clamp (by omega)]; exact kk)
theorem as_5 (hΓ : CK E own cc nL ret nm d mc ms Γ) {i : Int32} (j : Nat) (hi : i = nI j) {x : Int32} (hj : j < 4) (hd : decode cc pc = .ok (.iastore, 1)) (hn : pc + 1 = pc') (kk : SV E Γ nL (mm (up2 ci 5 j x) cl cr dy) nx ce sl pc' lv (st)) : SV E Γ nL (mm ci cl cr dy) nx ce sl pc lv (.int x :: .int i :: .ref 5 :: st) := by
  subst hi
  refine sv_iast hΓ hd m_5 (vp_in_nI hj (by decide)) hn ?_
  rw [nI_clamp (by omega)]
  refine SV_eq (M' := mm (up2 ci 5 j x) cl cr dy) ?_ kk
  exact mm_i 4 j rfl rfl
theorem ai_6 (hΓ : CK E own cc nL ret nm d mc ms Γ) {i : Int32} (j : Nat) (hi : i = nI j) (hj : j < 4) (hd : decode cc pc = .ok (.iaload, 1)) (hn : pc + 1 = pc') (kk : SV E Γ nL (mm ci cl cr dy) nx ce sl pc' lv (.int (ci 6 j) :: st)) : SV E Γ nL (mm ci cl cr dy) nx ce sl pc lv (.int i :: .ref 6 :: st) := by
  subst hi
  exact sv_iald hΓ hd m_6 (vp_in_nI hj (by decide)) hn (by rw [nI_clamp (by omega)]; exact kk)
theorem as_6 (hΓ : CK E own cc nL ret nm d mc ms Γ) {i : Int32} (j : Nat) (hi : i = nI j) {x : Int32} (hj : j < 4) (hd : decode cc pc = .ok (.iastore, 1)) (hn : pc + 1 = pc') (kk : SV E Γ nL (mm (up2 ci 6 j x) cl cr dy) nx ce sl pc' lv (st)) : SV E Γ nL (mm ci cl cr dy) nx ce sl pc lv (.int x :: .int i :: .ref 6 :: st) := by
  subst hi
  refine sv_iast hΓ hd m_6 (vp_in_nI hj (by decide)) hn ?_
  rw [nI_clamp (by omega)]
  refine SV_eq (M' := mm (up2 ci 6 j x) cl cr dy) ?_ kk
  exact mm_i 5 j rfl rfl
theorem az_7 (hΓ : CK E own cc nL ret nm d mc ms Γ) {i : Int32} (j : Nat) (hi : i = nI j) (hj : j < 4) (hd : decode cc pc = .ok (.baload, 1)) (hn : pc + 1 = pc') (kk : SV E Γ nL (mm ci cl cr dy) nx ce sl pc' lv (.int (ci 7 j) :: st)) : SV E Γ nL (mm ci cl cr dy) nx ce sl pc lv (.int i :: .ref 7 :: st) := by
  subst hi
  exact sv_zald hΓ hd m_7 (vp_in_nI hj (by decide)) hn (by rw [nI_clamp (by omega)]; exact kk)
theorem ab_7 (hΓ : CK E own cc nL ret nm d mc ms Γ) {i : Int32} (j : Nat) (hi : i = nI j) {x : Int32} (hj : j < 4) (hd : decode cc pc = .ok (.bastore, 1)) (hz : narrow .boolean (.int x) = .int x) (hn : pc + 1 = pc') (kk : SV E Γ nL (mm (up2 ci 7 j x) cl cr dy) nx ce sl pc' lv (st)) : SV E Γ nL (mm ci cl cr dy) nx ce sl pc lv (.int x :: .int i :: .ref 7 :: st) := by
  subst hi
  refine sv_zast hΓ hd m_7 (vp_in_nI hj (by decide)) hz hn ?_
  rw [nI_clamp (by omega)]
  refine SV_eq (M' := mm (up2 ci 7 j x) cl cr dy) ?_ kk
  exact mm_i 6 j rfl rfl
theorem ai_9 (hΓ : CK E own cc nL ret nm d mc ms Γ) {i : Int32} (j : Nat) (hi : i = nI j) (hj : j < 16) (hd : decode cc pc = .ok (.iaload, 1)) (hn : pc + 1 = pc') (kk : SV E Γ nL (mm ci cl cr dy) nx ce sl pc' lv (.int (ci 9 j) :: st)) : SV E Γ nL (mm ci cl cr dy) nx ce sl pc lv (.int i :: .ref 9 :: st) := by
  subst hi
  exact sv_iald hΓ hd m_9 (vp_in_nI hj (by decide)) hn (by rw [nI_clamp (by omega)]; exact kk)
theorem as_9 (hΓ : CK E own cc nL ret nm d mc ms Γ) {i : Int32} (j : Nat) (hi : i = nI j) {x : Int32} (hj : j < 16) (hd : decode cc pc = .ok (.iastore, 1)) (hn : pc + 1 = pc') (kk : SV E Γ nL (mm (up2 ci 9 j x) cl cr dy) nx ce sl pc' lv (st)) : SV E Γ nL (mm ci cl cr dy) nx ce sl pc lv (.int x :: .int i :: .ref 9 :: st) := by
  subst hi
  refine sv_iast hΓ hd m_9 (vp_in_nI hj (by decide)) hn ?_
  rw [nI_clamp (by omega)]
  refine SV_eq (M' := mm (up2 ci 9 j x) cl cr dy) ?_ kk
  exact mm_i 8 j rfl rfl
theorem ai_11 (hΓ : CK E own cc nL ret nm d mc ms Γ) {i : Int32} (j : Nat) (hi : i = nI j) (hj : j < 16) (hd : decode cc pc = .ok (.iaload, 1)) (hn : pc + 1 = pc') (kk : SV E Γ nL (mm ci cl cr dy) nx ce sl pc' lv (.int (ci 11 j) :: st)) : SV E Γ nL (mm ci cl cr dy) nx ce sl pc lv (.int i :: .ref 11 :: st) := by
  subst hi
  exact sv_iald hΓ hd m_11 (vp_in_nI hj (by decide)) hn (by rw [nI_clamp (by omega)]; exact kk)
theorem as_11 (hΓ : CK E own cc nL ret nm d mc ms Γ) {i : Int32} (j : Nat) (hi : i = nI j) {x : Int32} (hj : j < 16) (hd : decode cc pc = .ok (.iastore, 1)) (hn : pc + 1 = pc') (kk : SV E Γ nL (mm (up2 ci 11 j x) cl cr dy) nx ce sl pc' lv (st)) : SV E Γ nL (mm ci cl cr dy) nx ce sl pc lv (.int x :: .int i :: .ref 11 :: st) := by
  subst hi
  refine sv_iast hΓ hd m_11 (vp_in_nI hj (by decide)) hn ?_
  rw [nI_clamp (by omega)]
  refine SV_eq (M' := mm (up2 ci 11 j x) cl cr dy) ?_ kk
  exact mm_i 10 j rfl rfl
theorem ai_12 (hΓ : CK E own cc nL ret nm d mc ms Γ) {i : Int32} (j : Nat) (hi : i = nI j) (hj : j < 16) (hd : decode cc pc = .ok (.iaload, 1)) (hn : pc + 1 = pc') (kk : SV E Γ nL (mm ci cl cr dy) nx ce sl pc' lv (.int (ci 12 j) :: st)) : SV E Γ nL (mm ci cl cr dy) nx ce sl pc lv (.int i :: .ref 12 :: st) := by
  subst hi
  exact sv_iald hΓ hd m_12 (vp_in_nI hj (by decide)) hn (by rw [nI_clamp (by omega)]; exact kk)
theorem as_12 (hΓ : CK E own cc nL ret nm d mc ms Γ) {i : Int32} (j : Nat) (hi : i = nI j) {x : Int32} (hj : j < 16) (hd : decode cc pc = .ok (.iastore, 1)) (hn : pc + 1 = pc') (kk : SV E Γ nL (mm (up2 ci 12 j x) cl cr dy) nx ce sl pc' lv (st)) : SV E Γ nL (mm ci cl cr dy) nx ce sl pc lv (.int x :: .int i :: .ref 12 :: st) := by
  subst hi
  refine sv_iast hΓ hd m_12 (vp_in_nI hj (by decide)) hn ?_
  rw [nI_clamp (by omega)]
  refine SV_eq (M' := mm (up2 ci 12 j x) cl cr dy) ?_ kk
  exact mm_i 11 j rfl rfl
theorem ai_13 (hΓ : CK E own cc nL ret nm d mc ms Γ) {i : Int32} (j : Nat) (hi : i = nI j) (hj : j < 16) (hd : decode cc pc = .ok (.iaload, 1)) (hn : pc + 1 = pc') (kk : SV E Γ nL (mm ci cl cr dy) nx ce sl pc' lv (.int (ci 13 j) :: st)) : SV E Γ nL (mm ci cl cr dy) nx ce sl pc lv (.int i :: .ref 13 :: st) := by
  subst hi
  exact sv_iald hΓ hd m_13 (vp_in_nI hj (by decide)) hn (by rw [nI_clamp (by omega)]; exact kk)
theorem as_13 (hΓ : CK E own cc nL ret nm d mc ms Γ) {i : Int32} (j : Nat) (hi : i = nI j) {x : Int32} (hj : j < 16) (hd : decode cc pc = .ok (.iastore, 1)) (hn : pc + 1 = pc') (kk : SV E Γ nL (mm (up2 ci 13 j x) cl cr dy) nx ce sl pc' lv (st)) : SV E Γ nL (mm ci cl cr dy) nx ce sl pc lv (.int x :: .int i :: .ref 13 :: st) := by
  subst hi
  refine sv_iast hΓ hd m_13 (vp_in_nI hj (by decide)) hn ?_
  rw [nI_clamp (by omega)]
  refine SV_eq (M' := mm (up2 ci 13 j x) cl cr dy) ?_ kk
  exact mm_i 12 j rfl rfl
theorem ai_15 (hΓ : CK E own cc nL ret nm d mc ms Γ) {i : Int32} (j : Nat) (hi : i = nI j) (hj : j < 16) (hd : decode cc pc = .ok (.iaload, 1)) (hn : pc + 1 = pc') (kk : SV E Γ nL (mm ci cl cr dy) nx ce sl pc' lv (.int (ci 15 j) :: st)) : SV E Γ nL (mm ci cl cr dy) nx ce sl pc lv (.int i :: .ref 15 :: st) := by
  subst hi
  exact sv_iald hΓ hd m_15 (vp_in_nI hj (by decide)) hn (by rw [nI_clamp (by omega)]; exact kk)
theorem as_15 (hΓ : CK E own cc nL ret nm d mc ms Γ) {i : Int32} (j : Nat) (hi : i = nI j) {x : Int32} (hj : j < 16) (hd : decode cc pc = .ok (.iastore, 1)) (hn : pc + 1 = pc') (kk : SV E Γ nL (mm (up2 ci 15 j x) cl cr dy) nx ce sl pc' lv (st)) : SV E Γ nL (mm ci cl cr dy) nx ce sl pc lv (.int x :: .int i :: .ref 15 :: st) := by
  subst hi
  refine sv_iast hΓ hd m_15 (vp_in_nI hj (by decide)) hn ?_
  rw [nI_clamp (by omega)]
  refine SV_eq (M' := mm (up2 ci 15 j x) cl cr dy) ?_ kk
  exact mm_i 14 j rfl rfl
theorem ai_16 (hΓ : CK E own cc nL ret nm d mc ms Γ) {i : Int32} (j : Nat) (hi : i = nI j) (hj : j < 16) (hd : decode cc pc = .ok (.iaload, 1)) (hn : pc + 1 = pc') (kk : SV E Γ nL (mm ci cl cr dy) nx ce sl pc' lv (.int (ci 16 j) :: st)) : SV E Γ nL (mm ci cl cr dy) nx ce sl pc lv (.int i :: .ref 16 :: st) := by
  subst hi
  exact sv_iald hΓ hd m_16 (vp_in_nI hj (by decide)) hn (by rw [nI_clamp (by omega)]; exact kk)
theorem as_16 (hΓ : CK E own cc nL ret nm d mc ms Γ) {i : Int32} (j : Nat) (hi : i = nI j) {x : Int32} (hj : j < 16) (hd : decode cc pc = .ok (.iastore, 1)) (hn : pc + 1 = pc') (kk : SV E Γ nL (mm (up2 ci 16 j x) cl cr dy) nx ce sl pc' lv (st)) : SV E Γ nL (mm ci cl cr dy) nx ce sl pc lv (.int x :: .int i :: .ref 16 :: st) := by
  subst hi
  refine sv_iast hΓ hd m_16 (vp_in_nI hj (by decide)) hn ?_
  rw [nI_clamp (by omega)]
  refine SV_eq (M' := mm (up2 ci 16 j x) cl cr dy) ?_ kk
  exact mm_i 15 j rfl rfl
theorem ai_17 (hΓ : CK E own cc nL ret nm d mc ms Γ) {i : Int32} (j : Nat) (hi : i = nI j) (hj : j < 16) (hd : decode cc pc = .ok (.iaload, 1)) (hn : pc + 1 = pc') (kk : SV E Γ nL (mm ci cl cr dy) nx ce sl pc' lv (.int (ci 17 j) :: st)) : SV E Γ nL (mm ci cl cr dy) nx ce sl pc lv (.int i :: .ref 17 :: st) := by
  subst hi
  exact sv_iald hΓ hd m_17 (vp_in_nI hj (by decide)) hn (by rw [nI_clamp (by omega)]; exact kk)
theorem as_17 (hΓ : CK E own cc nL ret nm d mc ms Γ) {i : Int32} (j : Nat) (hi : i = nI j) {x : Int32} (hj : j < 16) (hd : decode cc pc = .ok (.iastore, 1)) (hn : pc + 1 = pc') (kk : SV E Γ nL (mm (up2 ci 17 j x) cl cr dy) nx ce sl pc' lv (st)) : SV E Γ nL (mm ci cl cr dy) nx ce sl pc lv (.int x :: .int i :: .ref 17 :: st) := by
  subst hi
  refine sv_iast hΓ hd m_17 (vp_in_nI hj (by decide)) hn ?_
  rw [nI_clamp (by omega)]
  refine SV_eq (M' := mm (up2 ci 17 j x) cl cr dy) ?_ kk
  exact mm_i 16 j rfl rfl
theorem al_21 (hΓ : CK E own cc nL ret nm d mc ms Γ) {i : Int32} (j : Nat) (hi : i = nI j) (hj : j < 16) (hd : decode cc pc = .ok (.laload, 1)) (hn : pc + 1 = pc') (kk : SV E Γ nL (mm ci cl cr dy) nx ce sl pc' lv (.long (cl 21 j) :: st)) : SV E Γ nL (mm ci cl cr dy) nx ce sl pc lv (.int i :: .ref 21 :: st) := by
  subst hi
  exact sv_lald hΓ hd m_21 (vp_in_nI hj (by decide)) hn (by rw [nI_clamp (by omega)]; exact kk)
theorem at_21 (hΓ : CK E own cc nL ret nm d mc ms Γ) {i : Int32} (j : Nat) (hi : i = nI j) {x : Int64} (hj : j < 16) (hd : decode cc pc = .ok (.lastore, 1)) (hn : pc + 1 = pc') (kk : SV E Γ nL (mm ci (up2 cl 21 j x) cr dy) nx ce sl pc' lv (st)) : SV E Γ nL (mm ci cl cr dy) nx ce sl pc lv (.long x :: .int i :: .ref 21 :: st) := by
  subst hi
  refine sv_last hΓ hd m_21 (vp_in_nI hj (by decide)) hn ?_
  rw [nI_clamp (by omega)]
  refine SV_eq (M' := mm ci (up2 cl 21 j x) cr dy) ?_ kk
  exact mm_l 20 j rfl rfl
theorem al_22 (hΓ : CK E own cc nL ret nm d mc ms Γ) {i : Int32} (j : Nat) (hi : i = nI j) (hj : j < 16) (hd : decode cc pc = .ok (.laload, 1)) (hn : pc + 1 = pc') (kk : SV E Γ nL (mm ci cl cr dy) nx ce sl pc' lv (.long (cl 22 j) :: st)) : SV E Γ nL (mm ci cl cr dy) nx ce sl pc lv (.int i :: .ref 22 :: st) := by
  subst hi
  exact sv_lald hΓ hd m_22 (vp_in_nI hj (by decide)) hn (by rw [nI_clamp (by omega)]; exact kk)
theorem at_22 (hΓ : CK E own cc nL ret nm d mc ms Γ) {i : Int32} (j : Nat) (hi : i = nI j) {x : Int64} (hj : j < 16) (hd : decode cc pc = .ok (.lastore, 1)) (hn : pc + 1 = pc') (kk : SV E Γ nL (mm ci (up2 cl 22 j x) cr dy) nx ce sl pc' lv (st)) : SV E Γ nL (mm ci cl cr dy) nx ce sl pc lv (.long x :: .int i :: .ref 22 :: st) := by
  subst hi
  refine sv_last hΓ hd m_22 (vp_in_nI hj (by decide)) hn ?_
  rw [nI_clamp (by omega)]
  refine SV_eq (M' := mm ci (up2 cl 22 j x) cr dy) ?_ kk
  exact mm_l 21 j rfl rfl
theorem ai_23 (hΓ : CK E own cc nL ret nm d mc ms Γ) {i : Int32} (j : Nat) (hi : i = nI j) (hj : j < 4) (hd : decode cc pc = .ok (.iaload, 1)) (hn : pc + 1 = pc') (kk : SV E Γ nL (mm ci cl cr dy) nx ce sl pc' lv (.int (ci 23 j) :: st)) : SV E Γ nL (mm ci cl cr dy) nx ce sl pc lv (.int i :: .ref 23 :: st) := by
  subst hi
  exact sv_iald hΓ hd m_23 (vp_in_nI hj (by decide)) hn (by rw [nI_clamp (by omega)]; exact kk)
theorem as_23 (hΓ : CK E own cc nL ret nm d mc ms Γ) {i : Int32} (j : Nat) (hi : i = nI j) {x : Int32} (hj : j < 4) (hd : decode cc pc = .ok (.iastore, 1)) (hn : pc + 1 = pc') (kk : SV E Γ nL (mm (up2 ci 23 j x) cl cr dy) nx ce sl pc' lv (st)) : SV E Γ nL (mm ci cl cr dy) nx ce sl pc lv (.int x :: .int i :: .ref 23 :: st) := by
  subst hi
  refine sv_iast hΓ hd m_23 (vp_in_nI hj (by decide)) hn ?_
  rw [nI_clamp (by omega)]
  refine SV_eq (M' := mm (up2 ci 23 j x) cl cr dy) ?_ kk
  exact mm_i 22 j rfl rfl
theorem ai_24 (hΓ : CK E own cc nL ret nm d mc ms Γ) {i : Int32} (j : Nat) (hi : i = nI j) (hj : j < 16) (hd : decode cc pc = .ok (.iaload, 1)) (hn : pc + 1 = pc') (kk : SV E Γ nL (mm ci cl cr dy) nx ce sl pc' lv (.int (ci 24 j) :: st)) : SV E Γ nL (mm ci cl cr dy) nx ce sl pc lv (.int i :: .ref 24 :: st) := by
  subst hi
  exact sv_iald hΓ hd m_24 (vp_in_nI hj (by decide)) hn (by rw [nI_clamp (by omega)]; exact kk)
theorem as_24 (hΓ : CK E own cc nL ret nm d mc ms Γ) {i : Int32} (j : Nat) (hi : i = nI j) {x : Int32} (hj : j < 16) (hd : decode cc pc = .ok (.iastore, 1)) (hn : pc + 1 = pc') (kk : SV E Γ nL (mm (up2 ci 24 j x) cl cr dy) nx ce sl pc' lv (st)) : SV E Γ nL (mm ci cl cr dy) nx ce sl pc lv (.int x :: .int i :: .ref 24 :: st) := by
  subst hi
  refine sv_iast hΓ hd m_24 (vp_in_nI hj (by decide)) hn ?_
  rw [nI_clamp (by omega)]
  refine SV_eq (M' := mm (up2 ci 24 j x) cl cr dy) ?_ kk
  exact mm_i 23 j rfl rfl
theorem al_25 (hΓ : CK E own cc nL ret nm d mc ms Γ) {i : Int32} (j : Nat) (hi : i = nI j) (hj : j < 16) (hd : decode cc pc = .ok (.laload, 1)) (hn : pc + 1 = pc') (kk : SV E Γ nL (mm ci cl cr dy) nx ce sl pc' lv (.long (cl 25 j) :: st)) : SV E Γ nL (mm ci cl cr dy) nx ce sl pc lv (.int i :: .ref 25 :: st) := by
  subst hi
  exact sv_lald hΓ hd m_25 (vp_in_nI hj (by decide)) hn (by rw [nI_clamp (by omega)]; exact kk)
theorem at_25 (hΓ : CK E own cc nL ret nm d mc ms Γ) {i : Int32} (j : Nat) (hi : i = nI j) {x : Int64} (hj : j < 16) (hd : decode cc pc = .ok (.lastore, 1)) (hn : pc + 1 = pc') (kk : SV E Γ nL (mm ci (up2 cl 25 j x) cr dy) nx ce sl pc' lv (st)) : SV E Γ nL (mm ci cl cr dy) nx ce sl pc lv (.long x :: .int i :: .ref 25 :: st) := by
  subst hi
  refine sv_last hΓ hd m_25 (vp_in_nI hj (by decide)) hn ?_
  rw [nI_clamp (by omega)]
  refine SV_eq (M' := mm ci (up2 cl 25 j x) cr dy) ?_ kk
  exact mm_l 24 j rfl rfl
theorem al_27 (hΓ : CK E own cc nL ret nm d mc ms Γ) {i : Int32} (j : Nat) (hi : i = nI j) (hj : j < 20) (hd : decode cc pc = .ok (.laload, 1)) (hn : pc + 1 = pc') (kk : SV E Γ nL (mm ci cl cr dy) nx ce sl pc' lv (.long (cl 27 j) :: st)) : SV E Γ nL (mm ci cl cr dy) nx ce sl pc lv (.int i :: .ref 27 :: st) := by
  subst hi
  exact sv_lald hΓ hd m_27 (vp_in_nI hj (by decide)) hn (by rw [nI_clamp (by omega)]; exact kk)
theorem at_27 (hΓ : CK E own cc nL ret nm d mc ms Γ) {i : Int32} (j : Nat) (hi : i = nI j) {x : Int64} (hj : j < 20) (hd : decode cc pc = .ok (.lastore, 1)) (hn : pc + 1 = pc') (kk : SV E Γ nL (mm ci (up2 cl 27 j x) cr dy) nx ce sl pc' lv (st)) : SV E Γ nL (mm ci cl cr dy) nx ce sl pc lv (.long x :: .int i :: .ref 27 :: st) := by
  subst hi
  refine sv_last hΓ hd m_27 (vp_in_nI hj (by decide)) hn ?_
  rw [nI_clamp (by omega)]
  refine SV_eq (M' := mm ci (up2 cl 27 j x) cr dy) ?_ kk
  exact mm_l 26 j rfl rfl
theorem al_29 (hΓ : CK E own cc nL ret nm d mc ms Γ) {i : Int32} (j : Nat) (hi : i = nI j) (hj : j < 16) (hd : decode cc pc = .ok (.laload, 1)) (hn : pc + 1 = pc') (kk : SV E Γ nL (mm ci cl cr dy) nx ce sl pc' lv (.long (cl 29 j) :: st)) : SV E Γ nL (mm ci cl cr dy) nx ce sl pc lv (.int i :: .ref 29 :: st) := by
  subst hi
  exact sv_lald hΓ hd m_29 (vp_in_nI hj (by decide)) hn (by rw [nI_clamp (by omega)]; exact kk)
theorem at_29 (hΓ : CK E own cc nL ret nm d mc ms Γ) {i : Int32} (j : Nat) (hi : i = nI j) {x : Int64} (hj : j < 16) (hd : decode cc pc = .ok (.lastore, 1)) (hn : pc + 1 = pc') (kk : SV E Γ nL (mm ci (up2 cl 29 j x) cr dy) nx ce sl pc' lv (st)) : SV E Γ nL (mm ci cl cr dy) nx ce sl pc lv (.long x :: .int i :: .ref 29 :: st) := by
  subst hi
  refine sv_last hΓ hd m_29 (vp_in_nI hj (by decide)) hn ?_
  rw [nI_clamp (by omega)]
  refine SV_eq (M' := mm ci (up2 cl 29 j x) cr dy) ?_ kk
  exact mm_l 28 j rfl rfl
theorem al_31 (hΓ : CK E own cc nL ret nm d mc ms Γ) {i : Int32} (j : Nat) (hi : i = nI j) (hj : j < 20) (hd : decode cc pc = .ok (.laload, 1)) (hn : pc + 1 = pc') (kk : SV E Γ nL (mm ci cl cr dy) nx ce sl pc' lv (.long (cl 31 j) :: st)) : SV E Γ nL (mm ci cl cr dy) nx ce sl pc lv (.int i :: .ref 31 :: st) := by
  subst hi
  exact sv_lald hΓ hd m_31 (vp_in_nI hj (by decide)) hn (by rw [nI_clamp (by omega)]; exact kk)
theorem at_31 (hΓ : CK E own cc nL ret nm d mc ms Γ) {i : Int32} (j : Nat) (hi : i = nI j) {x : Int64} (hj : j < 20) (hd : decode cc pc = .ok (.lastore, 1)) (hn : pc + 1 = pc') (kk : SV E Γ nL (mm ci (up2 cl 31 j x) cr dy) nx ce sl pc' lv (st)) : SV E Γ nL (mm ci cl cr dy) nx ce sl pc lv (.long x :: .int i :: .ref 31 :: st) := by
  subst hi
  refine sv_last hΓ hd m_31 (vp_in_nI hj (by decide)) hn ?_
  rw [nI_clamp (by omega)]
  refine SV_eq (M' := mm ci (up2 cl 31 j x) cr dy) ?_ kk
  exact mm_l 30 j rfl rfl
theorem al_33 (hΓ : CK E own cc nL ret nm d mc ms Γ) {i : Int32} (j : Nat) (hi : i = nI j) (hj : j < 16) (hd : decode cc pc = .ok (.laload, 1)) (hn : pc + 1 = pc') (kk : SV E Γ nL (mm ci cl cr dy) nx ce sl pc' lv (.long (cl 33 j) :: st)) : SV E Γ nL (mm ci cl cr dy) nx ce sl pc lv (.int i :: .ref 33 :: st) := by
  subst hi
  exact sv_lald hΓ hd m_33 (vp_in_nI hj (by decide)) hn (by rw [nI_clamp (by omega)]; exact kk)
theorem at_33 (hΓ : CK E own cc nL ret nm d mc ms Γ) {i : Int32} (j : Nat) (hi : i = nI j) {x : Int64} (hj : j < 16) (hd : decode cc pc = .ok (.lastore, 1)) (hn : pc + 1 = pc') (kk : SV E Γ nL (mm ci (up2 cl 33 j x) cr dy) nx ce sl pc' lv (st)) : SV E Γ nL (mm ci cl cr dy) nx ce sl pc lv (.long x :: .int i :: .ref 33 :: st) := by
  subst hi
  refine sv_last hΓ hd m_33 (vp_in_nI hj (by decide)) hn ?_
  rw [nI_clamp (by omega)]
  refine SV_eq (M' := mm ci (up2 cl 33 j x) cr dy) ?_ kk
  exact mm_l 32 j rfl rfl
theorem al_35 (hΓ : CK E own cc nL ret nm d mc ms Γ) {i : Int32} (j : Nat) (hi : i = nI j) (hj : j < 20) (hd : decode cc pc = .ok (.laload, 1)) (hn : pc + 1 = pc') (kk : SV E Γ nL (mm ci cl cr dy) nx ce sl pc' lv (.long (cl 35 j) :: st)) : SV E Γ nL (mm ci cl cr dy) nx ce sl pc lv (.int i :: .ref 35 :: st) := by
  subst hi
  exact sv_lald hΓ hd m_35 (vp_in_nI hj (by decide)) hn (by rw [nI_clamp (by omega)]; exact kk)
theorem at_35 (hΓ : CK E own cc nL ret nm d mc ms Γ) {i : Int32} (j : Nat) (hi : i = nI j) {x : Int64} (hj : j < 20) (hd : decode cc pc = .ok (.lastore, 1)) (hn : pc + 1 = pc') (kk : SV E Γ nL (mm ci (up2 cl 35 j x) cr dy) nx ce sl pc' lv (st)) : SV E Γ nL (mm ci cl cr dy) nx ce sl pc lv (.long x :: .int i :: .ref 35 :: st) := by
  subst hi
  refine sv_last hΓ hd m_35 (vp_in_nI hj (by decide)) hn ?_
  rw [nI_clamp (by omega)]
  refine SV_eq (M' := mm ci (up2 cl 35 j x) cr dy) ?_ kk
  exact mm_l 34 j rfl rfl
theorem al_37 (hΓ : CK E own cc nL ret nm d mc ms Γ) {i : Int32} (j : Nat) (hi : i = nI j) (hj : j < 16) (hd : decode cc pc = .ok (.laload, 1)) (hn : pc + 1 = pc') (kk : SV E Γ nL (mm ci cl cr dy) nx ce sl pc' lv (.long (cl 37 j) :: st)) : SV E Γ nL (mm ci cl cr dy) nx ce sl pc lv (.int i :: .ref 37 :: st) := by
  subst hi
  exact sv_lald hΓ hd m_37 (vp_in_nI hj (by decide)) hn (by rw [nI_clamp (by omega)]; exact kk)
theorem at_37 (hΓ : CK E own cc nL ret nm d mc ms Γ) {i : Int32} (j : Nat) (hi : i = nI j) {x : Int64} (hj : j < 16) (hd : decode cc pc = .ok (.lastore, 1)) (hn : pc + 1 = pc') (kk : SV E Γ nL (mm ci (up2 cl 37 j x) cr dy) nx ce sl pc' lv (st)) : SV E Γ nL (mm ci cl cr dy) nx ce sl pc lv (.long x :: .int i :: .ref 37 :: st) := by
  subst hi
  refine sv_last hΓ hd m_37 (vp_in_nI hj (by decide)) hn ?_
  rw [nI_clamp (by omega)]
  refine SV_eq (M' := mm ci (up2 cl 37 j x) cr dy) ?_ kk
  exact mm_l 36 j rfl rfl
theorem al_39 (hΓ : CK E own cc nL ret nm d mc ms Γ) {i : Int32} (j : Nat) (hi : i = nI j) (hj : j < 20) (hd : decode cc pc = .ok (.laload, 1)) (hn : pc + 1 = pc') (kk : SV E Γ nL (mm ci cl cr dy) nx ce sl pc' lv (.long (cl 39 j) :: st)) : SV E Γ nL (mm ci cl cr dy) nx ce sl pc lv (.int i :: .ref 39 :: st) := by
  subst hi
  exact sv_lald hΓ hd m_39 (vp_in_nI hj (by decide)) hn (by rw [nI_clamp (by omega)]; exact kk)
theorem at_39 (hΓ : CK E own cc nL ret nm d mc ms Γ) {i : Int32} (j : Nat) (hi : i = nI j) {x : Int64} (hj : j < 20) (hd : decode cc pc = .ok (.lastore, 1)) (hn : pc + 1 = pc') (kk : SV E Γ nL (mm ci (up2 cl 39 j x) cr dy) nx ce sl pc' lv (st)) : SV E Γ nL (mm ci cl cr dy) nx ce sl pc lv (.long x :: .int i :: .ref 39 :: st) := by
  subst hi
  refine sv_last hΓ hd m_39 (vp_in_nI hj (by decide)) hn ?_
  rw [nI_clamp (by omega)]
  refine SV_eq (M' := mm ci (up2 cl 39 j x) cr dy) ?_ kk
  exact mm_l 38 j rfl rfl
theorem al_41 (hΓ : CK E own cc nL ret nm d mc ms Γ) {i : Int32} (j : Nat) (hi : i = nI j) (hj : j < 16) (hd : decode cc pc = .ok (.laload, 1)) (hn : pc + 1 = pc') (kk : SV E Γ nL (mm ci cl cr dy) nx ce sl pc' lv (.long (cl 41 j) :: st)) : SV E Γ nL (mm ci cl cr dy) nx ce sl pc lv (.int i :: .ref 41 :: st) := by
  subst hi
  exact sv_lald hΓ hd m_41 (vp_in_nI hj (by decide)) hn (by rw [nI_clamp (by omega)]; exact kk)
theorem at_41 (hΓ : CK E own cc nL ret nm d mc ms Γ) {i : Int32} (j : Nat) (hi : i = nI j) {x : Int64} (hj : j < 16) (hd : decode cc pc = .ok (.lastore, 1)) (hn : pc + 1 = pc') (kk : SV E Γ nL (mm ci (up2 cl 41 j x) cr dy) nx ce sl pc' lv (st)) : SV E Γ nL (mm ci cl cr dy) nx ce sl pc lv (.long x :: .int i :: .ref 41 :: st) := by
  subst hi
  refine sv_last hΓ hd m_41 (vp_in_nI hj (by decide)) hn ?_
  rw [nI_clamp (by omega)]
  refine SV_eq (M' := mm ci (up2 cl 41 j x) cr dy) ?_ kk
  exact mm_l 40 j rfl rfl
theorem ai_44 (hΓ : CK E own cc nL ret nm d mc ms Γ) {i : Int32} (j : Nat) (hi : i = nI j) (hj : j < 16) (hd : decode cc pc = .ok (.iaload, 1)) (hn : pc + 1 = pc') (kk : SV E Γ nL (mm ci cl cr dy) nx ce sl pc' lv (.int (ci 44 j) :: st)) : SV E Γ nL (mm ci cl cr dy) nx ce sl pc lv (.int i :: .ref 44 :: st) := by
  subst hi
  exact sv_iald hΓ hd m_44 (vp_in_nI hj (by decide)) hn (by rw [nI_clamp (by omega)]; exact kk)
theorem as_44 (hΓ : CK E own cc nL ret nm d mc ms Γ) {i : Int32} (j : Nat) (hi : i = nI j) {x : Int32} (hj : j < 16) (hd : decode cc pc = .ok (.iastore, 1)) (hn : pc + 1 = pc') (kk : SV E Γ nL (mm (up2 ci 44 j x) cl cr dy) nx ce sl pc' lv (st)) : SV E Γ nL (mm ci cl cr dy) nx ce sl pc lv (.int x :: .int i :: .ref 44 :: st) := by
  subst hi
  refine sv_iast hΓ hd m_44 (vp_in_nI hj (by decide)) hn ?_
  rw [nI_clamp (by omega)]
  refine SV_eq (M' := mm (up2 ci 44 j x) cl cr dy) ?_ kk
  exact mm_i 43 j rfl rfl
theorem ai_45 (hΓ : CK E own cc nL ret nm d mc ms Γ) {i : Int32} (j : Nat) (hi : i = nI j) (hj : j < 16) (hd : decode cc pc = .ok (.iaload, 1)) (hn : pc + 1 = pc') (kk : SV E Γ nL (mm ci cl cr dy) nx ce sl pc' lv (.int (ci 45 j) :: st)) : SV E Γ nL (mm ci cl cr dy) nx ce sl pc lv (.int i :: .ref 45 :: st) := by
  subst hi
  exact sv_iald hΓ hd m_45 (vp_in_nI hj (by decide)) hn (by rw [nI_clamp (by omega)]; exact kk)
theorem as_45 (hΓ : CK E own cc nL ret nm d mc ms Γ) {i : Int32} (j : Nat) (hi : i = nI j) {x : Int32} (hj : j < 16) (hd : decode cc pc = .ok (.iastore, 1)) (hn : pc + 1 = pc') (kk : SV E Γ nL (mm (up2 ci 45 j x) cl cr dy) nx ce sl pc' lv (st)) : SV E Γ nL (mm ci cl cr dy) nx ce sl pc lv (.int x :: .int i :: .ref 45 :: st) := by
  subst hi
  refine sv_iast hΓ hd m_45 (vp_in_nI hj (by decide)) hn ?_
  rw [nI_clamp (by omega)]
  refine SV_eq (M' := mm (up2 ci 45 j x) cl cr dy) ?_ kk
  exact mm_i 44 j rfl rfl
theorem ai_46 (hΓ : CK E own cc nL ret nm d mc ms Γ) {i : Int32} (j : Nat) (hi : i = nI j) (hj : j < 48) (hd : decode cc pc = .ok (.iaload, 1)) (hn : pc + 1 = pc') (kk : SV E Γ nL (mm ci cl cr dy) nx ce sl pc' lv (.int (ci 46 j) :: st)) : SV E Γ nL (mm ci cl cr dy) nx ce sl pc lv (.int i :: .ref 46 :: st) := by
  subst hi
  exact sv_iald hΓ hd m_46 (vp_in_nI hj (by decide)) hn (by rw [nI_clamp (by omega)]; exact kk)
theorem as_46 (hΓ : CK E own cc nL ret nm d mc ms Γ) {i : Int32} (j : Nat) (hi : i = nI j) {x : Int32} (hj : j < 48) (hd : decode cc pc = .ok (.iastore, 1)) (hn : pc + 1 = pc') (kk : SV E Γ nL (mm (up2 ci 46 j x) cl cr dy) nx ce sl pc' lv (st)) : SV E Γ nL (mm ci cl cr dy) nx ce sl pc lv (.int x :: .int i :: .ref 46 :: st) := by
  subst hi
  refine sv_iast hΓ hd m_46 (vp_in_nI hj (by decide)) hn ?_
  rw [nI_clamp (by omega)]
  refine SV_eq (M' := mm (up2 ci 46 j x) cl cr dy) ?_ kk
  exact mm_i 45 j rfl rfl
theorem ai_47 (hΓ : CK E own cc nL ret nm d mc ms Γ) {i : Int32} (j : Nat) (hi : i = nI j) (hj : j < 16) (hd : decode cc pc = .ok (.iaload, 1)) (hn : pc + 1 = pc') (kk : SV E Γ nL (mm ci cl cr dy) nx ce sl pc' lv (.int (ci 47 j) :: st)) : SV E Γ nL (mm ci cl cr dy) nx ce sl pc lv (.int i :: .ref 47 :: st) := by
  subst hi
  exact sv_iald hΓ hd m_47 (vp_in_nI hj (by decide)) hn (by rw [nI_clamp (by omega)]; exact kk)
theorem as_47 (hΓ : CK E own cc nL ret nm d mc ms Γ) {i : Int32} (j : Nat) (hi : i = nI j) {x : Int32} (hj : j < 16) (hd : decode cc pc = .ok (.iastore, 1)) (hn : pc + 1 = pc') (kk : SV E Γ nL (mm (up2 ci 47 j x) cl cr dy) nx ce sl pc' lv (st)) : SV E Γ nL (mm ci cl cr dy) nx ce sl pc lv (.int x :: .int i :: .ref 47 :: st) := by
  subst hi
  refine sv_iast hΓ hd m_47 (vp_in_nI hj (by decide)) hn ?_
  rw [nI_clamp (by omega)]
  refine SV_eq (M' := mm (up2 ci 47 j x) cl cr dy) ?_ kk
  exact mm_i 46 j rfl rfl
theorem al_48 (hΓ : CK E own cc nL ret nm d mc ms Γ) {i : Int32} (j : Nat) (hi : i = nI j) (hj : j < 16) (hd : decode cc pc = .ok (.laload, 1)) (hn : pc + 1 = pc') (kk : SV E Γ nL (mm ci cl cr dy) nx ce sl pc' lv (.long (cl 48 j) :: st)) : SV E Γ nL (mm ci cl cr dy) nx ce sl pc lv (.int i :: .ref 48 :: st) := by
  subst hi
  exact sv_lald hΓ hd m_48 (vp_in_nI hj (by decide)) hn (by rw [nI_clamp (by omega)]; exact kk)
theorem at_48 (hΓ : CK E own cc nL ret nm d mc ms Γ) {i : Int32} (j : Nat) (hi : i = nI j) {x : Int64} (hj : j < 16) (hd : decode cc pc = .ok (.lastore, 1)) (hn : pc + 1 = pc') (kk : SV E Γ nL (mm ci (up2 cl 48 j x) cr dy) nx ce sl pc' lv (st)) : SV E Γ nL (mm ci cl cr dy) nx ce sl pc lv (.long x :: .int i :: .ref 48 :: st) := by
  subst hi
  refine sv_last hΓ hd m_48 (vp_in_nI hj (by decide)) hn ?_
  rw [nI_clamp (by omega)]
  refine SV_eq (M' := mm ci (up2 cl 48 j x) cr dy) ?_ kk
  exact mm_l 47 j rfl rfl
theorem ai_49 (hΓ : CK E own cc nL ret nm d mc ms Γ) {i : Int32} (j : Nat) (hi : i = nI j) (hj : j < 4) (hd : decode cc pc = .ok (.iaload, 1)) (hn : pc + 1 = pc') (kk : SV E Γ nL (mm ci cl cr dy) nx ce sl pc' lv (.int (ci 49 j) :: st)) : SV E Γ nL (mm ci cl cr dy) nx ce sl pc lv (.int i :: .ref 49 :: st) := by
  subst hi
  exact sv_iald hΓ hd m_49 (vp_in_nI hj (by decide)) hn (by rw [nI_clamp (by omega)]; exact kk)
theorem as_49 (hΓ : CK E own cc nL ret nm d mc ms Γ) {i : Int32} (j : Nat) (hi : i = nI j) {x : Int32} (hj : j < 4) (hd : decode cc pc = .ok (.iastore, 1)) (hn : pc + 1 = pc') (kk : SV E Γ nL (mm (up2 ci 49 j x) cl cr dy) nx ce sl pc' lv (st)) : SV E Γ nL (mm ci cl cr dy) nx ce sl pc lv (.int x :: .int i :: .ref 49 :: st) := by
  subst hi
  refine sv_iast hΓ hd m_49 (vp_in_nI hj (by decide)) hn ?_
  rw [nI_clamp (by omega)]
  refine SV_eq (M' := mm (up2 ci 49 j x) cl cr dy) ?_ kk
  exact mm_i 48 j rfl rfl
theorem ai_50 (hΓ : CK E own cc nL ret nm d mc ms Γ) {i : Int32} (j : Nat) (hi : i = nI j) (hj : j < 4) (hd : decode cc pc = .ok (.iaload, 1)) (hn : pc + 1 = pc') (kk : SV E Γ nL (mm ci cl cr dy) nx ce sl pc' lv (.int (ci 50 j) :: st)) : SV E Γ nL (mm ci cl cr dy) nx ce sl pc lv (.int i :: .ref 50 :: st) := by
  subst hi
  exact sv_iald hΓ hd m_50 (vp_in_nI hj (by decide)) hn (by rw [nI_clamp (by omega)]; exact kk)
theorem as_50 (hΓ : CK E own cc nL ret nm d mc ms Γ) {i : Int32} (j : Nat) (hi : i = nI j) {x : Int32} (hj : j < 4) (hd : decode cc pc = .ok (.iastore, 1)) (hn : pc + 1 = pc') (kk : SV E Γ nL (mm (up2 ci 50 j x) cl cr dy) nx ce sl pc' lv (st)) : SV E Γ nL (mm ci cl cr dy) nx ce sl pc lv (.int x :: .int i :: .ref 50 :: st) := by
  subst hi
  refine sv_iast hΓ hd m_50 (vp_in_nI hj (by decide)) hn ?_
  rw [nI_clamp (by omega)]
  refine SV_eq (M' := mm (up2 ci 50 j x) cl cr dy) ?_ kk
  exact mm_i 49 j rfl rfl
theorem az_51 (hΓ : CK E own cc nL ret nm d mc ms Γ) {i : Int32} (j : Nat) (hi : i = nI j) (hj : j < 4) (hd : decode cc pc = .ok (.baload, 1)) (hn : pc + 1 = pc') (kk : SV E Γ nL (mm ci cl cr dy) nx ce sl pc' lv (.int (ci 51 j) :: st)) : SV E Γ nL (mm ci cl cr dy) nx ce sl pc lv (.int i :: .ref 51 :: st) := by
  subst hi
  exact sv_zald hΓ hd m_51 (vp_in_nI hj (by decide)) hn (by rw [nI_clamp (by omega)]; exact kk)
theorem ab_51 (hΓ : CK E own cc nL ret nm d mc ms Γ) {i : Int32} (j : Nat) (hi : i = nI j) {x : Int32} (hj : j < 4) (hd : decode cc pc = .ok (.bastore, 1)) (hz : narrow .boolean (.int x) = .int x) (hn : pc + 1 = pc') (kk : SV E Γ nL (mm (up2 ci 51 j x) cl cr dy) nx ce sl pc' lv (st)) : SV E Γ nL (mm ci cl cr dy) nx ce sl pc lv (.int x :: .int i :: .ref 51 :: st) := by
  subst hi
  refine sv_zast hΓ hd m_51 (vp_in_nI hj (by decide)) hz hn ?_
  rw [nI_clamp (by omega)]
  refine SV_eq (M' := mm (up2 ci 51 j x) cl cr dy) ?_ kk
  exact mm_i 50 j rfl rfl
theorem ai_52 (hΓ : CK E own cc nL ret nm d mc ms Γ) {i : Int32} (j : Nat) (hi : i = nI j) (hj : j < 4) (hd : decode cc pc = .ok (.iaload, 1)) (hn : pc + 1 = pc') (kk : SV E Γ nL (mm ci cl cr dy) nx ce sl pc' lv (.int (ci 52 j) :: st)) : SV E Γ nL (mm ci cl cr dy) nx ce sl pc lv (.int i :: .ref 52 :: st) := by
  subst hi
  exact sv_iald hΓ hd m_52 (vp_in_nI hj (by decide)) hn (by rw [nI_clamp (by omega)]; exact kk)
theorem as_52 (hΓ : CK E own cc nL ret nm d mc ms Γ) {i : Int32} (j : Nat) (hi : i = nI j) {x : Int32} (hj : j < 4) (hd : decode cc pc = .ok (.iastore, 1)) (hn : pc + 1 = pc') (kk : SV E Γ nL (mm (up2 ci 52 j x) cl cr dy) nx ce sl pc' lv (st)) : SV E Γ nL (mm ci cl cr dy) nx ce sl pc lv (.int x :: .int i :: .ref 52 :: st) := by
  subst hi
  refine sv_iast hΓ hd m_52 (vp_in_nI hj (by decide)) hn ?_
  rw [nI_clamp (by omega)]
  refine SV_eq (M' := mm (up2 ci 52 j x) cl cr dy) ?_ kk
  exact mm_i 51 j rfl rfl
theorem al_53 (hΓ : CK E own cc nL ret nm d mc ms Γ) {i : Int32} (j : Nat) (hi : i = nI j) (hj : j < 80) (hd : decode cc pc = .ok (.laload, 1)) (hn : pc + 1 = pc') (kk : SV E Γ nL (mm ci cl cr dy) nx ce sl pc' lv (.long (cl 53 j) :: st)) : SV E Γ nL (mm ci cl cr dy) nx ce sl pc lv (.int i :: .ref 53 :: st) := by
  subst hi
  exact sv_lald hΓ hd m_53 (vp_in_nI hj (by decide)) hn (by rw [nI_clamp (by omega)]; exact kk)
theorem at_53 (hΓ : CK E own cc nL ret nm d mc ms Γ) {i : Int32} (j : Nat) (hi : i = nI j) {x : Int64} (hj : j < 80) (hd : decode cc pc = .ok (.lastore, 1)) (hn : pc + 1 = pc') (kk : SV E Γ nL (mm ci (up2 cl 53 j x) cr dy) nx ce sl pc' lv (st)) : SV E Γ nL (mm ci cl cr dy) nx ce sl pc lv (.long x :: .int i :: .ref 53 :: st) := by
  subst hi
  refine sv_last hΓ hd m_53 (vp_in_nI hj (by decide)) hn ?_
  rw [nI_clamp (by omega)]
  refine SV_eq (M' := mm ci (up2 cl 53 j x) cr dy) ?_ kk
  exact mm_l 52 j rfl rfl
theorem al_54 (hΓ : CK E own cc nL ret nm d mc ms Γ) {i : Int32} (j : Nat) (hi : i = nI j) (hj : j < 16) (hd : decode cc pc = .ok (.laload, 1)) (hn : pc + 1 = pc') (kk : SV E Γ nL (mm ci cl cr dy) nx ce sl pc' lv (.long (cl 54 j) :: st)) : SV E Γ nL (mm ci cl cr dy) nx ce sl pc lv (.int i :: .ref 54 :: st) := by
  subst hi
  exact sv_lald hΓ hd m_54 (vp_in_nI hj (by decide)) hn (by rw [nI_clamp (by omega)]; exact kk)
theorem at_54 (hΓ : CK E own cc nL ret nm d mc ms Γ) {i : Int32} (j : Nat) (hi : i = nI j) {x : Int64} (hj : j < 16) (hd : decode cc pc = .ok (.lastore, 1)) (hn : pc + 1 = pc') (kk : SV E Γ nL (mm ci (up2 cl 54 j x) cr dy) nx ce sl pc' lv (st)) : SV E Γ nL (mm ci cl cr dy) nx ce sl pc lv (.long x :: .int i :: .ref 54 :: st) := by
  subst hi
  refine sv_last hΓ hd m_54 (vp_in_nI hj (by decide)) hn ?_
  rw [nI_clamp (by omega)]
  refine SV_eq (M' := mm ci (up2 cl 54 j x) cr dy) ?_ kk
  exact mm_l 53 j rfl rfl
theorem ai_55 (hΓ : CK E own cc nL ret nm d mc ms Γ) {i : Int32} (j : Nat) (hi : i = nI j) (hj : j < 16) (hd : decode cc pc = .ok (.iaload, 1)) (hn : pc + 1 = pc') (kk : SV E Γ nL (mm ci cl cr dy) nx ce sl pc' lv (.int (ci 55 j) :: st)) : SV E Γ nL (mm ci cl cr dy) nx ce sl pc lv (.int i :: .ref 55 :: st) := by
  subst hi
  exact sv_iald hΓ hd m_55 (vp_in_nI hj (by decide)) hn (by rw [nI_clamp (by omega)]; exact kk)
theorem as_55 (hΓ : CK E own cc nL ret nm d mc ms Γ) {i : Int32} (j : Nat) (hi : i = nI j) {x : Int32} (hj : j < 16) (hd : decode cc pc = .ok (.iastore, 1)) (hn : pc + 1 = pc') (kk : SV E Γ nL (mm (up2 ci 55 j x) cl cr dy) nx ce sl pc' lv (st)) : SV E Γ nL (mm ci cl cr dy) nx ce sl pc lv (.int x :: .int i :: .ref 55 :: st) := by
  subst hi
  refine sv_iast hΓ hd m_55 (vp_in_nI hj (by decide)) hn ?_
  rw [nI_clamp (by omega)]
  refine SV_eq (M' := mm (up2 ci 55 j x) cl cr dy) ?_ kk
  exact mm_i 54 j rfl rfl
theorem ai_56 (hΓ : CK E own cc nL ret nm d mc ms Γ) {i : Int32} (j : Nat) (hi : i = nI j) (hj : j < 16) (hd : decode cc pc = .ok (.iaload, 1)) (hn : pc + 1 = pc') (kk : SV E Γ nL (mm ci cl cr dy) nx ce sl pc' lv (.int (ci 56 j) :: st)) : SV E Γ nL (mm ci cl cr dy) nx ce sl pc lv (.int i :: .ref 56 :: st) := by
  subst hi
  exact sv_iald hΓ hd m_56 (vp_in_nI hj (by decide)) hn (by rw [nI_clamp (by omega)]; exact kk)
theorem as_56 (hΓ : CK E own cc nL ret nm d mc ms Γ) {i : Int32} (j : Nat) (hi : i = nI j) {x : Int32} (hj : j < 16) (hd : decode cc pc = .ok (.iastore, 1)) (hn : pc + 1 = pc') (kk : SV E Γ nL (mm (up2 ci 56 j x) cl cr dy) nx ce sl pc' lv (st)) : SV E Γ nL (mm ci cl cr dy) nx ce sl pc lv (.int x :: .int i :: .ref 56 :: st) := by
  subst hi
  refine sv_iast hΓ hd m_56 (vp_in_nI hj (by decide)) hn ?_
  rw [nI_clamp (by omega)]
  refine SV_eq (M' := mm (up2 ci 56 j x) cl cr dy) ?_ kk
  exact mm_i 55 j rfl rfl
theorem ai_57 (hΓ : CK E own cc nL ret nm d mc ms Γ) {i : Int32} (j : Nat) (hi : i = nI j) (hj : j < 16) (hd : decode cc pc = .ok (.iaload, 1)) (hn : pc + 1 = pc') (kk : SV E Γ nL (mm ci cl cr dy) nx ce sl pc' lv (.int (ci 57 j) :: st)) : SV E Γ nL (mm ci cl cr dy) nx ce sl pc lv (.int i :: .ref 57 :: st) := by
  subst hi
  exact sv_iald hΓ hd m_57 (vp_in_nI hj (by decide)) hn (by rw [nI_clamp (by omega)]; exact kk)
theorem as_57 (hΓ : CK E own cc nL ret nm d mc ms Γ) {i : Int32} (j : Nat) (hi : i = nI j) {x : Int32} (hj : j < 16) (hd : decode cc pc = .ok (.iastore, 1)) (hn : pc + 1 = pc') (kk : SV E Γ nL (mm (up2 ci 57 j x) cl cr dy) nx ce sl pc' lv (st)) : SV E Γ nL (mm ci cl cr dy) nx ce sl pc lv (.int x :: .int i :: .ref 57 :: st) := by
  subst hi
  refine sv_iast hΓ hd m_57 (vp_in_nI hj (by decide)) hn ?_
  rw [nI_clamp (by omega)]
  refine SV_eq (M' := mm (up2 ci 57 j x) cl cr dy) ?_ kk
  exact mm_i 56 j rfl rfl
theorem ai_58 (hΓ : CK E own cc nL ret nm d mc ms Γ) {i : Int32} (j : Nat) (hi : i = nI j) (hj : j < 4) (hd : decode cc pc = .ok (.iaload, 1)) (hn : pc + 1 = pc') (kk : SV E Γ nL (mm ci cl cr dy) nx ce sl pc' lv (.int (ci 58 j) :: st)) : SV E Γ nL (mm ci cl cr dy) nx ce sl pc lv (.int i :: .ref 58 :: st) := by
  subst hi
  exact sv_iald hΓ hd m_58 (vp_in_nI hj (by decide)) hn (by rw [nI_clamp (by omega)]; exact kk)
theorem as_58 (hΓ : CK E own cc nL ret nm d mc ms Γ) {i : Int32} (j : Nat) (hi : i = nI j) {x : Int32} (hj : j < 4) (hd : decode cc pc = .ok (.iastore, 1)) (hn : pc + 1 = pc') (kk : SV E Γ nL (mm (up2 ci 58 j x) cl cr dy) nx ce sl pc' lv (st)) : SV E Γ nL (mm ci cl cr dy) nx ce sl pc lv (.int x :: .int i :: .ref 58 :: st) := by
  subst hi
  refine sv_iast hΓ hd m_58 (vp_in_nI hj (by decide)) hn ?_
  rw [nI_clamp (by omega)]
  refine SV_eq (M' := mm (up2 ci 58 j x) cl cr dy) ?_ kk
  exact mm_i 57 j rfl rfl
theorem al_59 (hΓ : CK E own cc nL ret nm d mc ms Γ) {i : Int32} (j : Nat) (hi : i = nI j) (hj : j < 64) (hd : decode cc pc = .ok (.laload, 1)) (hn : pc + 1 = pc') (kk : SV E Γ nL (mm ci cl cr dy) nx ce sl pc' lv (.long (cl 59 j) :: st)) : SV E Γ nL (mm ci cl cr dy) nx ce sl pc lv (.int i :: .ref 59 :: st) := by
  subst hi
  exact sv_lald hΓ hd m_59 (vp_in_nI hj (by decide)) hn (by rw [nI_clamp (by omega)]; exact kk)
theorem at_59 (hΓ : CK E own cc nL ret nm d mc ms Γ) {i : Int32} (j : Nat) (hi : i = nI j) {x : Int64} (hj : j < 64) (hd : decode cc pc = .ok (.lastore, 1)) (hn : pc + 1 = pc') (kk : SV E Γ nL (mm ci (up2 cl 59 j x) cr dy) nx ce sl pc' lv (st)) : SV E Γ nL (mm ci cl cr dy) nx ce sl pc lv (.long x :: .int i :: .ref 59 :: st) := by
  subst hi
  refine sv_last hΓ hd m_59 (vp_in_nI hj (by decide)) hn ?_
  rw [nI_clamp (by omega)]
  refine SV_eq (M' := mm ci (up2 cl 59 j x) cr dy) ?_ kk
  exact mm_l 58 j rfl rfl
theorem al_60 (hΓ : CK E own cc nL ret nm d mc ms Γ) {i : Int32} (j : Nat) (hi : i = nI j) (hj : j < 16) (hd : decode cc pc = .ok (.laload, 1)) (hn : pc + 1 = pc') (kk : SV E Γ nL (mm ci cl cr dy) nx ce sl pc' lv (.long (cl 60 j) :: st)) : SV E Γ nL (mm ci cl cr dy) nx ce sl pc lv (.int i :: .ref 60 :: st) := by
  subst hi
  exact sv_lald hΓ hd m_60 (vp_in_nI hj (by decide)) hn (by rw [nI_clamp (by omega)]; exact kk)
theorem at_60 (hΓ : CK E own cc nL ret nm d mc ms Γ) {i : Int32} (j : Nat) (hi : i = nI j) {x : Int64} (hj : j < 16) (hd : decode cc pc = .ok (.lastore, 1)) (hn : pc + 1 = pc') (kk : SV E Γ nL (mm ci (up2 cl 60 j x) cr dy) nx ce sl pc' lv (st)) : SV E Γ nL (mm ci cl cr dy) nx ce sl pc lv (.long x :: .int i :: .ref 60 :: st) := by
  subst hi
  refine sv_last hΓ hd m_60 (vp_in_nI hj (by decide)) hn ?_
  rw [nI_clamp (by omega)]
  refine SV_eq (M' := mm ci (up2 cl 60 j x) cr dy) ?_ kk
  exact mm_l 59 j rfl rfl
theorem al_61 (hΓ : CK E own cc nL ret nm d mc ms Γ) {i : Int32} (j : Nat) (hi : i = nI j) (hj : j < 16) (hd : decode cc pc = .ok (.laload, 1)) (hn : pc + 1 = pc') (kk : SV E Γ nL (mm ci cl cr dy) nx ce sl pc' lv (.long (cl 61 j) :: st)) : SV E Γ nL (mm ci cl cr dy) nx ce sl pc lv (.int i :: .ref 61 :: st) := by
  subst hi
  exact sv_lald hΓ hd m_61 (vp_in_nI hj (by decide)) hn (by rw [nI_clamp (by omega)]; exact kk)
theorem at_61 (hΓ : CK E own cc nL ret nm d mc ms Γ) {i : Int32} (j : Nat) (hi : i = nI j) {x : Int64} (hj : j < 16) (hd : decode cc pc = .ok (.lastore, 1)) (hn : pc + 1 = pc') (kk : SV E Γ nL (mm ci (up2 cl 61 j x) cr dy) nx ce sl pc' lv (st)) : SV E Γ nL (mm ci cl cr dy) nx ce sl pc lv (.long x :: .int i :: .ref 61 :: st) := by
  subst hi
  refine sv_last hΓ hd m_61 (vp_in_nI hj (by decide)) hn ?_
  rw [nI_clamp (by omega)]
  refine SV_eq (M' := mm ci (up2 cl 61 j x) cr dy) ?_ kk
  exact mm_l 60 j rfl rfl
theorem al_62 (hΓ : CK E own cc nL ret nm d mc ms Γ) {i : Int32} (j : Nat) (hi : i = nI j) (hj : j < 16) (hd : decode cc pc = .ok (.laload, 1)) (hn : pc + 1 = pc') (kk : SV E Γ nL (mm ci cl cr dy) nx ce sl pc' lv (.long (cl 62 j) :: st)) : SV E Γ nL (mm ci cl cr dy) nx ce sl pc lv (.int i :: .ref 62 :: st) := by
  subst hi
  exact sv_lald hΓ hd m_62 (vp_in_nI hj (by decide)) hn (by rw [nI_clamp (by omega)]; exact kk)
theorem at_62 (hΓ : CK E own cc nL ret nm d mc ms Γ) {i : Int32} (j : Nat) (hi : i = nI j) {x : Int64} (hj : j < 16) (hd : decode cc pc = .ok (.lastore, 1)) (hn : pc + 1 = pc') (kk : SV E Γ nL (mm ci (up2 cl 62 j x) cr dy) nx ce sl pc' lv (st)) : SV E Γ nL (mm ci cl cr dy) nx ce sl pc lv (.long x :: .int i :: .ref 62 :: st) := by
  subst hi
  refine sv_last hΓ hd m_62 (vp_in_nI hj (by decide)) hn ?_
  rw [nI_clamp (by omega)]
  refine SV_eq (M' := mm ci (up2 cl 62 j x) cr dy) ?_ kk
  exact mm_l 61 j rfl rfl
theorem ai_63 (hΓ : CK E own cc nL ret nm d mc ms Γ) {i : Int32} (j : Nat) (hi : i = nI j) (hj : j < 16) (hd : decode cc pc = .ok (.iaload, 1)) (hn : pc + 1 = pc') (kk : SV E Γ nL (mm ci cl cr dy) nx ce sl pc' lv (.int (ci 63 j) :: st)) : SV E Γ nL (mm ci cl cr dy) nx ce sl pc lv (.int i :: .ref 63 :: st) := by
  subst hi
  exact sv_iald hΓ hd m_63 (vp_in_nI hj (by decide)) hn (by rw [nI_clamp (by omega)]; exact kk)
theorem as_63 (hΓ : CK E own cc nL ret nm d mc ms Γ) {i : Int32} (j : Nat) (hi : i = nI j) {x : Int32} (hj : j < 16) (hd : decode cc pc = .ok (.iastore, 1)) (hn : pc + 1 = pc') (kk : SV E Γ nL (mm (up2 ci 63 j x) cl cr dy) nx ce sl pc' lv (st)) : SV E Γ nL (mm ci cl cr dy) nx ce sl pc lv (.int x :: .int i :: .ref 63 :: st) := by
  subst hi
  refine sv_iast hΓ hd m_63 (vp_in_nI hj (by decide)) hn ?_
  rw [nI_clamp (by omega)]
  refine SV_eq (M' := mm (up2 ci 63 j x) cl cr dy) ?_ kk
  exact mm_i 62 j rfl rfl
theorem ai_64 (hΓ : CK E own cc nL ret nm d mc ms Γ) {i : Int32} (j : Nat) (hi : i = nI j) (hj : j < 16) (hd : decode cc pc = .ok (.iaload, 1)) (hn : pc + 1 = pc') (kk : SV E Γ nL (mm ci cl cr dy) nx ce sl pc' lv (.int (ci 64 j) :: st)) : SV E Γ nL (mm ci cl cr dy) nx ce sl pc lv (.int i :: .ref 64 :: st) := by
  subst hi
  exact sv_iald hΓ hd m_64 (vp_in_nI hj (by decide)) hn (by rw [nI_clamp (by omega)]; exact kk)
theorem as_64 (hΓ : CK E own cc nL ret nm d mc ms Γ) {i : Int32} (j : Nat) (hi : i = nI j) {x : Int32} (hj : j < 16) (hd : decode cc pc = .ok (.iastore, 1)) (hn : pc + 1 = pc') (kk : SV E Γ nL (mm (up2 ci 64 j x) cl cr dy) nx ce sl pc' lv (st)) : SV E Γ nL (mm ci cl cr dy) nx ce sl pc lv (.int x :: .int i :: .ref 64 :: st) := by
  subst hi
  refine sv_iast hΓ hd m_64 (vp_in_nI hj (by decide)) hn ?_
  rw [nI_clamp (by omega)]
  refine SV_eq (M' := mm (up2 ci 64 j x) cl cr dy) ?_ kk
  exact mm_i 63 j rfl rfl
theorem al_65 (hΓ : CK E own cc nL ret nm d mc ms Γ) {i : Int32} (j : Nat) (hi : i = nI j) (hj : j < 16) (hd : decode cc pc = .ok (.laload, 1)) (hn : pc + 1 = pc') (kk : SV E Γ nL (mm ci cl cr dy) nx ce sl pc' lv (.long (cl 65 j) :: st)) : SV E Γ nL (mm ci cl cr dy) nx ce sl pc lv (.int i :: .ref 65 :: st) := by
  subst hi
  exact sv_lald hΓ hd m_65 (vp_in_nI hj (by decide)) hn (by rw [nI_clamp (by omega)]; exact kk)
theorem at_65 (hΓ : CK E own cc nL ret nm d mc ms Γ) {i : Int32} (j : Nat) (hi : i = nI j) {x : Int64} (hj : j < 16) (hd : decode cc pc = .ok (.lastore, 1)) (hn : pc + 1 = pc') (kk : SV E Γ nL (mm ci (up2 cl 65 j x) cr dy) nx ce sl pc' lv (st)) : SV E Γ nL (mm ci cl cr dy) nx ce sl pc lv (.long x :: .int i :: .ref 65 :: st) := by
  subst hi
  refine sv_last hΓ hd m_65 (vp_in_nI hj (by decide)) hn ?_
  rw [nI_clamp (by omega)]
  refine SV_eq (M' := mm ci (up2 cl 65 j x) cr dy) ?_ kk
  exact mm_l 64 j rfl rfl
theorem ai_66 (hΓ : CK E own cc nL ret nm d mc ms Γ) {i : Int32} (j : Nat) (hi : i = nI j) (hj : j < 4) (hd : decode cc pc = .ok (.iaload, 1)) (hn : pc + 1 = pc') (kk : SV E Γ nL (mm ci cl cr dy) nx ce sl pc' lv (.int (ci 66 j) :: st)) : SV E Γ nL (mm ci cl cr dy) nx ce sl pc lv (.int i :: .ref 66 :: st) := by
  subst hi
  exact sv_iald hΓ hd m_66 (vp_in_nI hj (by decide)) hn (by rw [nI_clamp (by omega)]; exact kk)
theorem as_66 (hΓ : CK E own cc nL ret nm d mc ms Γ) {i : Int32} (j : Nat) (hi : i = nI j) {x : Int32} (hj : j < 4) (hd : decode cc pc = .ok (.iastore, 1)) (hn : pc + 1 = pc') (kk : SV E Γ nL (mm (up2 ci 66 j x) cl cr dy) nx ce sl pc' lv (st)) : SV E Γ nL (mm ci cl cr dy) nx ce sl pc lv (.int x :: .int i :: .ref 66 :: st) := by
  subst hi
  refine sv_iast hΓ hd m_66 (vp_in_nI hj (by decide)) hn ?_
  rw [nI_clamp (by omega)]
  refine SV_eq (M' := mm (up2 ci 66 j x) cl cr dy) ?_ kk
  exact mm_i 65 j rfl rfl
theorem ai_67 (hΓ : CK E own cc nL ret nm d mc ms Γ) {i : Int32} (j : Nat) (hi : i = nI j) (hj : j < 8) (hd : decode cc pc = .ok (.iaload, 1)) (hn : pc + 1 = pc') (kk : SV E Γ nL (mm ci cl cr dy) nx ce sl pc' lv (.int (ci 67 j) :: st)) : SV E Γ nL (mm ci cl cr dy) nx ce sl pc lv (.int i :: .ref 67 :: st) := by
  subst hi
  exact sv_iald hΓ hd m_67 (vp_in_nI hj (by decide)) hn (by rw [nI_clamp (by omega)]; exact kk)
theorem as_67 (hΓ : CK E own cc nL ret nm d mc ms Γ) {i : Int32} (j : Nat) (hi : i = nI j) {x : Int32} (hj : j < 8) (hd : decode cc pc = .ok (.iastore, 1)) (hn : pc + 1 = pc') (kk : SV E Γ nL (mm (up2 ci 67 j x) cl cr dy) nx ce sl pc' lv (st)) : SV E Γ nL (mm ci cl cr dy) nx ce sl pc lv (.int x :: .int i :: .ref 67 :: st) := by
  subst hi
  refine sv_iast hΓ hd m_67 (vp_in_nI hj (by decide)) hn ?_
  rw [nI_clamp (by omega)]
  refine SV_eq (M' := mm (up2 ci 67 j x) cl cr dy) ?_ kk
  exact mm_i 66 j rfl rfl
theorem ai_68 (hΓ : CK E own cc nL ret nm d mc ms Γ) {i : Int32} (j : Nat) (hi : i = nI j) (hj : j < 8) (hd : decode cc pc = .ok (.iaload, 1)) (hn : pc + 1 = pc') (kk : SV E Γ nL (mm ci cl cr dy) nx ce sl pc' lv (.int (ci 68 j) :: st)) : SV E Γ nL (mm ci cl cr dy) nx ce sl pc lv (.int i :: .ref 68 :: st) := by
  subst hi
  exact sv_iald hΓ hd m_68 (vp_in_nI hj (by decide)) hn (by rw [nI_clamp (by omega)]; exact kk)
theorem as_68 (hΓ : CK E own cc nL ret nm d mc ms Γ) {i : Int32} (j : Nat) (hi : i = nI j) {x : Int32} (hj : j < 8) (hd : decode cc pc = .ok (.iastore, 1)) (hn : pc + 1 = pc') (kk : SV E Γ nL (mm (up2 ci 68 j x) cl cr dy) nx ce sl pc' lv (st)) : SV E Γ nL (mm ci cl cr dy) nx ce sl pc lv (.int x :: .int i :: .ref 68 :: st) := by
  subst hi
  refine sv_iast hΓ hd m_68 (vp_in_nI hj (by decide)) hn ?_
  rw [nI_clamp (by omega)]
  refine SV_eq (M' := mm (up2 ci 68 j x) cl cr dy) ?_ kk
  exact mm_i 67 j rfl rfl
theorem ai_69 (hΓ : CK E own cc nL ret nm d mc ms Γ) {i : Int32} (j : Nat) (hi : i = nI j) (hj : j < 8) (hd : decode cc pc = .ok (.iaload, 1)) (hn : pc + 1 = pc') (kk : SV E Γ nL (mm ci cl cr dy) nx ce sl pc' lv (.int (ci 69 j) :: st)) : SV E Γ nL (mm ci cl cr dy) nx ce sl pc lv (.int i :: .ref 69 :: st) := by
  subst hi
  exact sv_iald hΓ hd m_69 (vp_in_nI hj (by decide)) hn (by rw [nI_clamp (by omega)]; exact kk)
theorem as_69 (hΓ : CK E own cc nL ret nm d mc ms Γ) {i : Int32} (j : Nat) (hi : i = nI j) {x : Int32} (hj : j < 8) (hd : decode cc pc = .ok (.iastore, 1)) (hn : pc + 1 = pc') (kk : SV E Γ nL (mm (up2 ci 69 j x) cl cr dy) nx ce sl pc' lv (st)) : SV E Γ nL (mm ci cl cr dy) nx ce sl pc lv (.int x :: .int i :: .ref 69 :: st) := by
  subst hi
  refine sv_iast hΓ hd m_69 (vp_in_nI hj (by decide)) hn ?_
  rw [nI_clamp (by omega)]
  refine SV_eq (M' := mm (up2 ci 69 j x) cl cr dy) ?_ kk
  exact mm_i 68 j rfl rfl
theorem ai_70 (hΓ : CK E own cc nL ret nm d mc ms Γ) {i : Int32} (j : Nat) (hi : i = nI j) (hj : j < 8) (hd : decode cc pc = .ok (.iaload, 1)) (hn : pc + 1 = pc') (kk : SV E Γ nL (mm ci cl cr dy) nx ce sl pc' lv (.int (ci 70 j) :: st)) : SV E Γ nL (mm ci cl cr dy) nx ce sl pc lv (.int i :: .ref 70 :: st) := by
  subst hi
  exact sv_iald hΓ hd m_70 (vp_in_nI hj (by decide)) hn (by rw [nI_clamp (by omega)]; exact kk)
theorem as_70 (hΓ : CK E own cc nL ret nm d mc ms Γ) {i : Int32} (j : Nat) (hi : i = nI j) {x : Int32} (hj : j < 8) (hd : decode cc pc = .ok (.iastore, 1)) (hn : pc + 1 = pc') (kk : SV E Γ nL (mm (up2 ci 70 j x) cl cr dy) nx ce sl pc' lv (st)) : SV E Γ nL (mm ci cl cr dy) nx ce sl pc lv (.int x :: .int i :: .ref 70 :: st) := by
  subst hi
  refine sv_iast hΓ hd m_70 (vp_in_nI hj (by decide)) hn ?_
  rw [nI_clamp (by omega)]
  refine SV_eq (M' := mm (up2 ci 70 j x) cl cr dy) ?_ kk
  exact mm_i 69 j rfl rfl
theorem al_71 (hΓ : CK E own cc nL ret nm d mc ms Γ) {i : Int32} (j : Nat) (hi : i = nI j) (hj : j < 480) (hd : decode cc pc = .ok (.laload, 1)) (hn : pc + 1 = pc') (kk : SV E Γ nL (mm ci cl cr dy) nx ce sl pc' lv (.long (cl 71 j) :: st)) : SV E Γ nL (mm ci cl cr dy) nx ce sl pc lv (.int i :: .ref 71 :: st) := by
  subst hi
  exact sv_lald hΓ hd m_71 (vp_in_nI hj (by decide)) hn (by rw [nI_clamp (by omega)]; exact kk)
theorem at_71 (hΓ : CK E own cc nL ret nm d mc ms Γ) {i : Int32} (j : Nat) (hi : i = nI j) {x : Int64} (hj : j < 480) (hd : decode cc pc = .ok (.lastore, 1)) (hn : pc + 1 = pc') (kk : SV E Γ nL (mm ci (up2 cl 71 j x) cr dy) nx ce sl pc' lv (st)) : SV E Γ nL (mm ci cl cr dy) nx ce sl pc lv (.long x :: .int i :: .ref 71 :: st) := by
  subst hi
  refine sv_last hΓ hd m_71 (vp_in_nI hj (by decide)) hn ?_
  rw [nI_clamp (by omega)]
  refine SV_eq (M' := mm ci (up2 cl 71 j x) cr dy) ?_ kk
  exact mm_l 70 j rfl rfl
theorem al_72 (hΓ : CK E own cc nL ret nm d mc ms Γ) {i : Int32} (j : Nat) (hi : i = nI j) (hj : j < 60) (hd : decode cc pc = .ok (.laload, 1)) (hn : pc + 1 = pc') (kk : SV E Γ nL (mm ci cl cr dy) nx ce sl pc' lv (.long (cl 72 j) :: st)) : SV E Γ nL (mm ci cl cr dy) nx ce sl pc lv (.int i :: .ref 72 :: st) := by
  subst hi
  exact sv_lald hΓ hd m_72 (vp_in_nI hj (by decide)) hn (by rw [nI_clamp (by omega)]; exact kk)
theorem at_72 (hΓ : CK E own cc nL ret nm d mc ms Γ) {i : Int32} (j : Nat) (hi : i = nI j) {x : Int64} (hj : j < 60) (hd : decode cc pc = .ok (.lastore, 1)) (hn : pc + 1 = pc') (kk : SV E Γ nL (mm ci (up2 cl 72 j x) cr dy) nx ce sl pc' lv (st)) : SV E Γ nL (mm ci cl cr dy) nx ce sl pc lv (.long x :: .int i :: .ref 72 :: st) := by
  subst hi
  refine sv_last hΓ hd m_72 (vp_in_nI hj (by decide)) hn ?_
  rw [nI_clamp (by omega)]
  refine SV_eq (M' := mm ci (up2 cl 72 j x) cr dy) ?_ kk
  exact mm_l 71 j rfl rfl
theorem al_73 (hΓ : CK E own cc nL ret nm d mc ms Γ) {i : Int32} (j : Nat) (hi : i = nI j) (hj : j < 1) (hd : decode cc pc = .ok (.laload, 1)) (hn : pc + 1 = pc') (kk : SV E Γ nL (mm ci cl cr dy) nx ce sl pc' lv (.long (cl 73 j) :: st)) : SV E Γ nL (mm ci cl cr dy) nx ce sl pc lv (.int i :: .ref 73 :: st) := by
  subst hi
  exact sv_lald hΓ hd m_73 (vp_in_nI hj (by decide)) hn (by rw [nI_clamp (by omega)]; exact kk)
theorem at_73 (hΓ : CK E own cc nL ret nm d mc ms Γ) {i : Int32} (j : Nat) (hi : i = nI j) {x : Int64} (hj : j < 1) (hd : decode cc pc = .ok (.lastore, 1)) (hn : pc + 1 = pc') (kk : SV E Γ nL (mm ci (up2 cl 73 j x) cr dy) nx ce sl pc' lv (st)) : SV E Γ nL (mm ci cl cr dy) nx ce sl pc lv (.long x :: .int i :: .ref 73 :: st) := by
  subst hi
  refine sv_last hΓ hd m_73 (vp_in_nI hj (by decide)) hn ?_
  rw [nI_clamp (by omega)]
  refine SV_eq (M' := mm ci (up2 cl 73 j x) cr dy) ?_ kk
  exact mm_l 72 j rfl rfl
end
section
variable {E : aG} {Γ : aC} {cc : ByteArray} {nL : Nat} {ret : Option FieldType} {nm : String} {d mc ms : Nat} {ci : Nat → Nat → Int32} {cl : Nat → Nat → Int64} {cr : Nat → Nat → Option Nat} {dy : aM} {nx ce sl pc pc' : Nat} {lv lv' : List (Nat × Value)} {st : List Value} {M : aM}
theorem gt_X0_9 (hΓ : CK E RX0 cc nL ret nm d mc ms Γ) {a : Nat} {fs : List Value} {v : Value} (hM : M a = some (.inr (0, fs))) (hv : fs[0]? = some v) (hd : decode cc pc = .ok (.getfield 9, 3)) (hn : pc + 3 = pc') (kk : SV E Γ nL M nx ce sl pc' lv (v :: st)) : SV E Γ nL M nx ce sl pc lv (.ref a :: st) :=
  sv_get hΓ i_X0 rfl 0 (by decide) tb_286 rfl hM hv hd hn kk
theorem gt_X0_15 (hΓ : CK E RX0 cc nL ret nm d mc ms Γ) {a : Nat} {fs : List Value} {v : Value} (hM : M a = some (.inr (0, fs))) (hv : fs[1]? = some v) (hd : decode cc pc = .ok (.getfield 15, 3)) (hn : pc + 3 = pc') (kk : SV E Γ nL M nx ce sl pc' lv (v :: st)) : SV E Γ nL M nx ce sl pc lv (.ref a :: st) :=
  sv_get hΓ i_X0 rfl 1 (by decide) tb_292 rfl hM hv hd hn kk
theorem gt_X0_21 (hΓ : CK E RX0 cc nL ret nm d mc ms Γ) {a : Nat} {fs : List Value} {v : Value} (hM : M a = some (.inr (0, fs))) (hv : fs[3]? = some v) (hd : decode cc pc = .ok (.getfield 21, 3)) (hn : pc + 3 = pc') (kk : SV E Γ nL M nx ce sl pc' lv (v :: st)) : SV E Γ nL M nx ce sl pc lv (.ref a :: st) :=
  sv_get hΓ i_X0 rfl 3 (by decide) tb_299 rfl hM hv hd hn kk
theorem gt_X0_24 (hΓ : CK E RX0 cc nL ret nm d mc ms Γ) {a : Nat} {fs : List Value} {v : Value} (hM : M a = some (.inr (0, fs))) (hv : fs[4]? = some v) (hd : decode cc pc = .ok (.getfield 24, 3)) (hn : pc + 3 = pc') (kk : SV E Γ nL M nx ce sl pc' lv (v :: st)) : SV E Γ nL M nx ce sl pc lv (.ref a :: st) :=
  sv_get hΓ i_X0 rfl 4 (by decide) tb_304 rfl hM hv hd hn kk
theorem gt_X0_27 (hΓ : CK E RX0 cc nL ret nm d mc ms Γ) {a : Nat} {fs : List Value} {v : Value} (hM : M a = some (.inr (0, fs))) (hv : fs[5]? = some v) (hd : decode cc pc = .ok (.getfield 27, 3)) (hn : pc + 3 = pc') (kk : SV E Γ nL M nx ce sl pc' lv (v :: st)) : SV E Γ nL M nx ce sl pc lv (.ref a :: st) :=
  sv_get hΓ i_X0 rfl 5 (by decide) tb_308 rfl hM hv hd hn kk
theorem pf_X0_9 (hΓ : CK E RX0 cc nL ret "<init>" d mc ms Γ) {a : Nat} {fs : List Value} {v : Value} (hM : M a = some (.inr (0, fs))) (hok : narrow (tyX0 0) (tv E v) = tv E v ∧ fits (tyX0 0) (tv E v) = true) (hlen : 0 < fs.length) (hd : decode cc pc = .ok (.putfield 9, 3)) (hn : pc + 3 = pc') (kk : SV E Γ nL (va_up M a (some (.inr (0, fs.set 0 v)))) nx ce sl pc' lv st) : SV E Γ nL M nx ce sl pc lv (v :: .ref a :: st) :=
  sv_putF hΓ i_X0 tyX0 tyX0_ok nmX0 rfl 0 (by decide) tb_286 rfl rfl rfl (by decide +kernel) hM hok hlen hd hn kk
theorem pf_X0_15 (hΓ : CK E RX0 cc nL ret "<init>" d mc ms Γ) {a : Nat} {fs : List Value} {v : Value} (hM : M a = some (.inr (0, fs))) (hok : narrow (tyX0 1) (tv E v) = tv E v ∧ fits (tyX0 1) (tv E v) = true) (hlen : 1 < fs.length) (hd : decode cc pc = .ok (.putfield 15, 3)) (hn : pc + 3 = pc') (kk : SV E Γ nL (va_up M a (some (.inr (0, fs.set 1 v)))) nx ce sl pc' lv st) : SV E Γ nL M nx ce sl pc lv (v :: .ref a :: st) :=
  sv_putF hΓ i_X0 tyX0 tyX0_ok nmX0 rfl 1 (by decide) tb_292 rfl rfl rfl (by decide +kernel) hM hok hlen hd hn kk
theorem pf_X0_18 (hΓ : CK E RX0 cc nL ret "<init>" d mc ms Γ) {a : Nat} {fs : List Value} {v : Value} (hM : M a = some (.inr (0, fs))) (hok : narrow (tyX0 2) (tv E v) = tv E v ∧ fits (tyX0 2) (tv E v) = true) (hlen : 2 < fs.length) (hd : decode cc pc = .ok (.putfield 18, 3)) (hn : pc + 3 = pc') (kk : SV E Γ nL (va_up M a (some (.inr (0, fs.set 2 v)))) nx ce sl pc' lv st) : SV E Γ nL M nx ce sl pc lv (v :: .ref a :: st) :=
  sv_putF hΓ i_X0 tyX0 tyX0_ok nmX0 rfl 2 (by decide) tb_295 rfl rfl rfl (by decide +kernel) hM hok hlen hd hn kk
theorem pf_X0_21 (hΓ : CK E RX0 cc nL ret "<init>" d mc ms Γ) {a : Nat} {fs : List Value} {v : Value} (hM : M a = some (.inr (0, fs))) (hok : narrow (tyX0 3) (tv E v) = tv E v ∧ fits (tyX0 3) (tv E v) = true) (hlen : 3 < fs.length) (hd : decode cc pc = .ok (.putfield 21, 3)) (hn : pc + 3 = pc') (kk : SV E Γ nL (va_up M a (some (.inr (0, fs.set 3 v)))) nx ce sl pc' lv st) : SV E Γ nL M nx ce sl pc lv (v :: .ref a :: st) :=
  sv_putF hΓ i_X0 tyX0 tyX0_ok nmX0 rfl 3 (by decide) tb_299 rfl rfl rfl (by decide +kernel) hM hok hlen hd hn kk
theorem pf_X0_24 (hΓ : CK E RX0 cc nL ret "<init>" d mc ms Γ) {a : Nat} {fs : List Value} {v : Value} (hM : M a = some (.inr (0, fs))) (hok : narrow (tyX0 4) (tv E v) = tv E v ∧ fits (tyX0 4) (tv E v) = true) (hlen : 4 < fs.length) (hd : decode cc pc = .ok (.putfield 24, 3)) (hn : pc + 3 = pc') (kk : SV E Γ nL (va_up M a (some (.inr (0, fs.set 4 v)))) nx ce sl pc' lv st) : SV E Γ nL M nx ce sl pc lv (v :: .ref a :: st) :=
  sv_putF hΓ i_X0 tyX0 tyX0_ok nmX0 rfl 4 (by decide) tb_304 rfl rfl rfl (by decide +kernel) hM hok hlen hd hn kk
theorem pf_X0_27 (hΓ : CK E RX0 cc nL ret "<init>" d mc ms Γ) {a : Nat} {fs : List Value} {v : Value} (hM : M a = some (.inr (0, fs))) (hok : narrow (tyX0 5) (tv E v) = tv E v ∧ fits (tyX0 5) (tv E v) = true) (hlen : 5 < fs.length) (hd : decode cc pc = .ok (.putfield 27, 3)) (hn : pc + 3 = pc') (kk : SV E Γ nL (va_up M a (some (.inr (0, fs.set 5 v)))) nx ce sl pc' lv st) : SV E Γ nL M nx ce sl pc lv (v :: .ref a :: st) :=
  sv_putF hΓ i_X0 tyX0 tyX0_ok nmX0 rfl 5 (by decide) tb_308 rfl rfl rfl (by decide +kernel) hM hok hlen hd hn kk
theorem pf_X0_30 (hΓ : CK E RX0 cc nL ret "<init>" d mc ms Γ) {a : Nat} {fs : List Value} {v : Value} (hM : M a = some (.inr (0, fs))) (hok : narrow (tyX0 6) (tv E v) = tv E v ∧ fits (tyX0 6) (tv E v) = true) (hlen : 6 < fs.length) (hd : decode cc pc = .ok (.putfield 30, 3)) (hn : pc + 3 = pc') (kk : SV E Γ nL (va_up M a (some (.inr (0, fs.set 6 v)))) nx ce sl pc' lv st) : SV E Γ nL M nx ce sl pc lv (v :: .ref a :: st) :=
  sv_putF hΓ i_X0 tyX0 tyX0_ok nmX0 rfl 6 (by decide) tb_311 rfl rfl rfl (by decide +kernel) hM hok hlen hd hn kk
theorem gt_X1_11 (hΓ : CK E RX1 cc nL ret nm d mc ms Γ) {a : Nat} {fs : List Value} {v : Value} (hM : M a = some (.inr (1, fs))) (hv : fs[0]? = some v) (hd : decode cc pc = .ok (.getfield 11, 3)) (hn : pc + 3 = pc') (kk : SV E Γ nL M nx ce sl pc' lv (v :: st)) : SV E Γ nL M nx ce sl pc lv (.ref a :: st) :=
  sv_get hΓ i_X1 rfl 0 (by decide) tb_39 rfl hM hv hd hn kk
theorem g_X1_11_2 (hΓ : CK E RX1 cc nL ret nm d mc ms Γ) (hd : decode cc pc = .ok (.getfield 11, 3)) (hn : pc + 3 = pc') (kk : SV E Γ nL (mm ci cl cr dy) nx ce sl pc' lv (.ref 3 :: st)) : SV E Γ nL (mm ci cl cr dy) nx ce sl pc lv (.ref 2 :: st) :=
  gt_X1_11 hΓ m_2 rfl hd hn kk
theorem gt_X1_17 (hΓ : CK E RX1 cc nL ret nm d mc ms Γ) {a : Nat} {fs : List Value} {v : Value} (hM : M a = some (.inr (1, fs))) (hv : fs[1]? = some v) (hd : decode cc pc = .ok (.getfield 17, 3)) (hn : pc + 3 = pc') (kk : SV E Γ nL M nx ce sl pc' lv (v :: st)) : SV E Γ nL M nx ce sl pc lv (.ref a :: st) :=
  sv_get hΓ i_X1 rfl 1 (by decide) tb_40 rfl hM hv hd hn kk
theorem g_X1_17_2 (hΓ : CK E RX1 cc nL ret nm d mc ms Γ) (hd : decode cc pc = .ok (.getfield 17, 3)) (hn : pc + 3 = pc') (kk : SV E Γ nL (mm ci cl cr dy) nx ce sl pc' lv (.int (ci 2 1) :: st)) : SV E Γ nL (mm ci cl cr dy) nx ce sl pc lv (.ref 2 :: st) :=
  gt_X1_17 hΓ m_2 rfl hd hn kk
theorem pf_X1_11 (hΓ : CK E RX1 cc nL ret "<init>" d mc ms Γ) {a : Nat} {fs : List Value} {v : Value} (hM : M a = some (.inr (1, fs))) (hok : narrow (tyX1 0) (tv E v) = tv E v ∧ fits (tyX1 0) (tv E v) = true) (hlen : 0 < fs.length) (hd : decode cc pc = .ok (.putfield 11, 3)) (hn : pc + 3 = pc') (kk : SV E Γ nL (va_up M a (some (.inr (1, fs.set 0 v)))) nx ce sl pc' lv st) : SV E Γ nL M nx ce sl pc lv (v :: .ref a :: st) :=
  sv_putF hΓ i_X1 tyX1 tyX1_ok nmX1 rfl 0 (by decide) tb_39 rfl rfl rfl (by decide +kernel) hM hok hlen hd hn kk
theorem pt_X1_17 (hΓ : CK E RX1 cc nL ret nm d mc ms Γ) {a : Nat} {fs : List Value} {v : Value} (hM : M a = some (.inr (1, fs))) (hok : narrow .int (tv E v) = tv E v ∧ fits .int (tv E v) = true) (hlen : 1 < fs.length) (hd : decode cc pc = .ok (.putfield 17, 3)) (hn : pc + 3 = pc') (kk : SV E Γ nL (va_up M a (some (.inr (1, fs.set 1 v)))) nx ce sl pc' lv st) : SV E Γ nL M nx ce sl pc lv (v :: .ref a :: st) :=
  sv_put hΓ i_X1 tyX1 tyX1_ok nmX1 rfl 1 (by decide) tb_40 rfl rfl (by decide +kernel) hM hok hlen hd hn kk
theorem p_X1_17_2 (hΓ : CK E RX1 cc nL ret nm d mc ms Γ) {v : Int32} (hd : decode cc pc = .ok (.putfield 17, 3)) (hn : pc + 3 = pc') (kk : SV E Γ nL (mm (up2 ci 2 1 v) cl cr dy) nx ce sl pc' lv (st)) : SV E Γ nL (mm ci cl cr dy) nx ce sl pc lv (.int v :: .ref 2 :: st) := by
  refine pt_X1_17 hΓ m_2 ⟨rfl, rfl⟩ (Nat.lt_of_succ_le (Nat.le_of_ble_eq_true rfl)) hd hn ?_
  refine SV_eq (M' := mm (up2 ci 2 1 v) cl cr dy) ?_ kk
  exact mm_i 1 1 rfl rfl
theorem gt_X10_7 (hΓ : CK E RX10 cc nL ret nm d mc ms Γ) {a : Nat} {fs : List Value} {v : Value} (hM : M a = some (.inr (9, fs))) (hv : fs[1]? = some v) (hd : decode cc pc = .ok (.getfield 7, 3)) (hn : pc + 3 = pc') (kk : SV E Γ nL M nx ce sl pc' lv (v :: st)) : SV E Γ nL M nx ce sl pc lv (.ref a :: st) :=
  sv_get hΓ i_X10 rfl 1 (by decide) tb_166 rfl hM hv hd hn kk
theorem g_X10_7_26 (hΓ : CK E RX10 cc nL ret nm d mc ms Γ) (hd : decode cc pc = .ok (.getfield 7, 3)) (hn : pc + 3 = pc') (kk : SV E Γ nL (mm ci cl cr dy) nx ce sl pc' lv (.int (ci 26 1) :: st)) : SV E Γ nL (mm ci cl cr dy) nx ce sl pc lv (.ref 26 :: st) :=
  gt_X10_7 hΓ m_26 rfl hd hn kk
theorem g_X10_7_28 (hΓ : CK E RX10 cc nL ret nm d mc ms Γ) (hd : decode cc pc = .ok (.getfield 7, 3)) (hn : pc + 3 = pc') (kk : SV E Γ nL (mm ci cl cr dy) nx ce sl pc' lv (.int (ci 28 1) :: st)) : SV E Γ nL (mm ci cl cr dy) nx ce sl pc lv (.ref 28 :: st) :=
  gt_X10_7 hΓ m_28 rfl hd hn kk
theorem g_X10_7_30 (hΓ : CK E RX10 cc nL ret nm d mc ms Γ) (hd : decode cc pc = .ok (.getfield 7, 3)) (hn : pc + 3 = pc') (kk : SV E Γ nL (mm ci cl cr dy) nx ce sl pc' lv (.int (ci 30 1) :: st)) : SV E Γ nL (mm ci cl cr dy) nx ce sl pc lv (.ref 30 :: st) :=
  gt_X10_7 hΓ m_30 rfl hd hn kk
theorem g_X10_7_32 (hΓ : CK E RX10 cc nL ret nm d mc ms Γ) (hd : decode cc pc = .ok (.getfield 7, 3)) (hn : pc + 3 = pc') (kk : SV E Γ nL (mm ci cl cr dy) nx ce sl pc' lv (.int (ci 32 1) :: st)) : SV E Γ nL (mm ci cl cr dy) nx ce sl pc lv (.ref 32 :: st) :=
  gt_X10_7 hΓ m_32 rfl hd hn kk
theorem g_X10_7_34 (hΓ : CK E RX10 cc nL ret nm d mc ms Γ) (hd : decode cc pc = .ok (.getfield 7, 3)) (hn : pc + 3 = pc') (kk : SV E Γ nL (mm ci cl cr dy) nx ce sl pc' lv (.int (ci 34 1) :: st)) : SV E Γ nL (mm ci cl cr dy) nx ce sl pc lv (.ref 34 :: st) :=
  gt_X10_7 hΓ m_34 rfl hd hn kk
theorem g_X10_7_36 (hΓ : CK E RX10 cc nL ret nm d mc ms Γ) (hd : decode cc pc = .ok (.getfield 7, 3)) (hn : pc + 3 = pc') (kk : SV E Γ nL (mm ci cl cr dy) nx ce sl pc' lv (.int (ci 36 1) :: st)) : SV E Γ nL (mm ci cl cr dy) nx ce sl pc lv (.ref 36 :: st) :=
  gt_X10_7 hΓ m_36 rfl hd hn kk
theorem g_X10_7_38 (hΓ : CK E RX10 cc nL ret nm d mc ms Γ) (hd : decode cc pc = .ok (.getfield 7, 3)) (hn : pc + 3 = pc') (kk : SV E Γ nL (mm ci cl cr dy) nx ce sl pc' lv (.int (ci 38 1) :: st)) : SV E Γ nL (mm ci cl cr dy) nx ce sl pc lv (.ref 38 :: st) :=
  gt_X10_7 hΓ m_38 rfl hd hn kk
theorem g_X10_7_40 (hΓ : CK E RX10 cc nL ret nm d mc ms Γ) (hd : decode cc pc = .ok (.getfield 7, 3)) (hn : pc + 3 = pc') (kk : SV E Γ nL (mm ci cl cr dy) nx ce sl pc' lv (.int (ci 40 1) :: st)) : SV E Γ nL (mm ci cl cr dy) nx ce sl pc lv (.ref 40 :: st) :=
  gt_X10_7 hΓ m_40 rfl hd hn kk
theorem gt_X10_13 (hΓ : CK E RX10 cc nL ret nm d mc ms Γ) {a : Nat} {fs : List Value} {v : Value} (hM : M a = some (.inr (9, fs))) (hv : fs[0]? = some v) (hd : decode cc pc = .ok (.getfield 13, 3)) (hn : pc + 3 = pc') (kk : SV E Γ nL M nx ce sl pc' lv (v :: st)) : SV E Γ nL M nx ce sl pc lv (.ref a :: st) :=
  sv_get hΓ i_X10 rfl 0 (by decide) tb_165 rfl hM hv hd hn kk
theorem g_X10_13_26 (hΓ : CK E RX10 cc nL ret nm d mc ms Γ) (hd : decode cc pc = .ok (.getfield 13, 3)) (hn : pc + 3 = pc') (kk : SV E Γ nL (mm ci cl cr dy) nx ce sl pc' lv (.ref 27 :: st)) : SV E Γ nL (mm ci cl cr dy) nx ce sl pc lv (.ref 26 :: st) :=
  gt_X10_13 hΓ m_26 rfl hd hn kk
theorem g_X10_13_28 (hΓ : CK E RX10 cc nL ret nm d mc ms Γ) (hd : decode cc pc = .ok (.getfield 13, 3)) (hn : pc + 3 = pc') (kk : SV E Γ nL (mm ci cl cr dy) nx ce sl pc' lv (.ref 29 :: st)) : SV E Γ nL (mm ci cl cr dy) nx ce sl pc lv (.ref 28 :: st) :=
  gt_X10_13 hΓ m_28 rfl hd hn kk
theorem g_X10_13_30 (hΓ : CK E RX10 cc nL ret nm d mc ms Γ) (hd : decode cc pc = .ok (.getfield 13, 3)) (hn : pc + 3 = pc') (kk : SV E Γ nL (mm ci cl cr dy) nx ce sl pc' lv (.ref 31 :: st)) : SV E Γ nL (mm ci cl cr dy) nx ce sl pc lv (.ref 30 :: st) :=
  gt_X10_13 hΓ m_30 rfl hd hn kk
theorem g_X10_13_32 (hΓ : CK E RX10 cc nL ret nm d mc ms Γ) (hd : decode cc pc = .ok (.getfield 13, 3)) (hn : pc + 3 = pc') (kk : SV E Γ nL (mm ci cl cr dy) nx ce sl pc' lv (.ref 33 :: st)) : SV E Γ nL (mm ci cl cr dy) nx ce sl pc lv (.ref 32 :: st) :=
  gt_X10_13 hΓ m_32 rfl hd hn kk
theorem g_X10_13_34 (hΓ : CK E RX10 cc nL ret nm d mc ms Γ) (hd : decode cc pc = .ok (.getfield 13, 3)) (hn : pc + 3 = pc') (kk : SV E Γ nL (mm ci cl cr dy) nx ce sl pc' lv (.ref 35 :: st)) : SV E Γ nL (mm ci cl cr dy) nx ce sl pc lv (.ref 34 :: st) :=
  gt_X10_13 hΓ m_34 rfl hd hn kk
theorem g_X10_13_36 (hΓ : CK E RX10 cc nL ret nm d mc ms Γ) (hd : decode cc pc = .ok (.getfield 13, 3)) (hn : pc + 3 = pc') (kk : SV E Γ nL (mm ci cl cr dy) nx ce sl pc' lv (.ref 37 :: st)) : SV E Γ nL (mm ci cl cr dy) nx ce sl pc lv (.ref 36 :: st) :=
  gt_X10_13 hΓ m_36 rfl hd hn kk
theorem g_X10_13_38 (hΓ : CK E RX10 cc nL ret nm d mc ms Γ) (hd : decode cc pc = .ok (.getfield 13, 3)) (hn : pc + 3 = pc') (kk : SV E Γ nL (mm ci cl cr dy) nx ce sl pc' lv (.ref 39 :: st)) : SV E Γ nL (mm ci cl cr dy) nx ce sl pc lv (.ref 38 :: st) :=
  gt_X10_13 hΓ m_38 rfl hd hn kk
theorem g_X10_13_40 (hΓ : CK E RX10 cc nL ret nm d mc ms Γ) (hd : decode cc pc = .ok (.getfield 13, 3)) (hn : pc + 3 = pc') (kk : SV E Γ nL (mm ci cl cr dy) nx ce sl pc' lv (.ref 41 :: st)) : SV E Γ nL (mm ci cl cr dy) nx ce sl pc lv (.ref 40 :: st) :=
  gt_X10_13 hΓ m_40 rfl hd hn kk
theorem pt_X10_7 (hΓ : CK E RX10 cc nL ret nm d mc ms Γ) {a : Nat} {fs : List Value} {v : Value} (hM : M a = some (.inr (9, fs))) (hok : narrow .int (tv E v) = tv E v ∧ fits .int (tv E v) = true) (hlen : 1 < fs.length) (hd : decode cc pc = .ok (.putfield 7, 3)) (hn : pc + 3 = pc') (kk : SV E Γ nL (va_up M a (some (.inr (9, fs.set 1 v)))) nx ce sl pc' lv st) : SV E Γ nL M nx ce sl pc lv (v :: .ref a :: st) :=
  sv_put hΓ i_X10 tyX10 tyX10_ok nmX10 rfl 1 (by decide) tb_166 rfl rfl (by decide +kernel) hM hok hlen hd hn kk
theorem p_X10_7_26 (hΓ : CK E RX10 cc nL ret nm d mc ms Γ) {v : Int32} (hd : decode cc pc = .ok (.putfield 7, 3)) (hn : pc + 3 = pc') (kk : SV E Γ nL (mm (up2 ci 26 1 v) cl cr dy) nx ce sl pc' lv (st)) : SV E Γ nL (mm ci cl cr dy) nx ce sl pc lv (.int v :: .ref 26 :: st) := by
  refine pt_X10_7 hΓ m_26 ⟨rfl, rfl⟩ (Nat.lt_of_succ_le (Nat.le_of_ble_eq_true rfl)) hd hn ?_
  refine SV_eq (M' := mm (up2 ci 26 1 v) cl cr dy) ?_ kk
  exact mm_i 25 1 rfl rfl
theorem p_X10_7_28 (hΓ : CK E RX10 cc nL ret nm d mc ms Γ) {v : Int32} (hd : decode cc pc = .ok (.putfield 7, 3)) (hn : pc + 3 = pc') (kk : SV E Γ nL (mm (up2 ci 28 1 v) cl cr dy) nx ce sl pc' lv (st)) : SV E Γ nL (mm ci cl cr dy) nx ce sl pc lv (.int v :: .ref 28 :: st) := by
  refine pt_X10_7 hΓ m_28 ⟨rfl, rfl⟩ (Nat.lt_of_succ_le (Nat.le_of_ble_eq_true rfl)) hd hn ?_
  refine SV_eq (M' := mm (up2 ci 28 1 v) cl cr dy) ?_ kk
  exact mm_i 27 1 rfl rfl
theorem p_X10_7_30 (hΓ : CK E RX10 cc nL ret nm d mc ms Γ) {v : Int32} (hd : decode cc pc = .ok (.putfield 7, 3)) (hn : pc + 3 = pc') (kk : SV E Γ nL (mm (up2 ci 30 1 v) cl cr dy) nx ce sl pc' lv (st)) : SV E Γ nL (mm ci cl cr dy) nx ce sl pc lv (.int v :: .ref 30 :: st) := by
  refine pt_X10_7 hΓ m_30 ⟨rfl, rfl⟩ (Nat.lt_of_succ_le (Nat.le_of_ble_eq_true rfl)) hd hn ?_
  refine SV_eq (M' := mm (up2 ci 30 1 v) cl cr dy) ?_ kk
  exact mm_i 29 1 rfl rfl
theorem p_X10_7_32 (hΓ : CK E RX10 cc nL ret nm d mc ms Γ) {v : Int32} (hd : decode cc pc = .ok (.putfield 7, 3)) (hn : pc + 3 = pc') (kk : SV E Γ nL (mm (up2 ci 32 1 v) cl cr dy) nx ce sl pc' lv (st)) : SV E Γ nL (mm ci cl cr dy) nx ce sl pc lv (.int v :: .ref 32 :: st) := by
  refine pt_X10_7 hΓ m_32 ⟨rfl, rfl⟩ (Nat.lt_of_succ_le (Nat.le_of_ble_eq_true rfl)) hd hn ?_
  refine SV_eq (M' := mm (up2 ci 32 1 v) cl cr dy) ?_ kk
  exact mm_i 31 1 rfl rfl
theorem p_X10_7_34 (hΓ : CK E RX10 cc nL ret nm d mc ms Γ) {v : Int32} (hd : decode cc pc = .ok (.putfield 7, 3)) (hn : pc + 3 = pc') (kk : SV E Γ nL (mm (up2 ci 34 1 v) cl cr dy) nx ce sl pc' lv (st)) : SV E Γ nL (mm ci cl cr dy) nx ce sl pc lv (.int v :: .ref 34 :: st) := by
  refine pt_X10_7 hΓ m_34 ⟨rfl, rfl⟩ (Nat.lt_of_succ_le (Nat.le_of_ble_eq_true rfl)) hd hn ?_
  refine SV_eq (M' := mm (up2 ci 34 1 v) cl cr dy) ?_ kk
  exact mm_i 33 1 rfl rfl
theorem p_X10_7_36 (hΓ : CK E RX10 cc nL ret nm d mc ms Γ) {v : Int32} (hd : decode cc pc = .ok (.putfield 7, 3)) (hn : pc + 3 = pc') (kk : SV E Γ nL (mm (up2 ci 36 1 v) cl cr dy) nx ce sl pc' lv (st)) : SV E Γ nL (mm ci cl cr dy) nx ce sl pc lv (.int v :: .ref 36 :: st) := by
  refine pt_X10_7 hΓ m_36 ⟨rfl, rfl⟩ (Nat.lt_of_succ_le (Nat.le_of_ble_eq_true rfl)) hd hn ?_
  refine SV_eq (M' := mm (up2 ci 36 1 v) cl cr dy) ?_ kk
  exact mm_i 35 1 rfl rfl
theorem p_X10_7_38 (hΓ : CK E RX10 cc nL ret nm d mc ms Γ) {v : Int32} (hd : decode cc pc = .ok (.putfield 7, 3)) (hn : pc + 3 = pc') (kk : SV E Γ nL (mm (up2 ci 38 1 v) cl cr dy) nx ce sl pc' lv (st)) : SV E Γ nL (mm ci cl cr dy) nx ce sl pc lv (.int v :: .ref 38 :: st) := by
  refine pt_X10_7 hΓ m_38 ⟨rfl, rfl⟩ (Nat.lt_of_succ_le (Nat.le_of_ble_eq_true rfl)) hd hn ?_
  refine SV_eq (M' := mm (up2 ci 38 1 v) cl cr dy) ?_ kk
  exact mm_i 37 1 rfl rfl
theorem p_X10_7_40 (hΓ : CK E RX10 cc nL ret nm d mc ms Γ) {v : Int32} (hd : decode cc pc = .ok (.putfield 7, 3)) (hn : pc + 3 = pc') (kk : SV E Γ nL (mm (up2 ci 40 1 v) cl cr dy) nx ce sl pc' lv (st)) : SV E Γ nL (mm ci cl cr dy) nx ce sl pc lv (.int v :: .ref 40 :: st) := by
  refine pt_X10_7 hΓ m_40 ⟨rfl, rfl⟩ (Nat.lt_of_succ_le (Nat.le_of_ble_eq_true rfl)) hd hn ?_
  refine SV_eq (M' := mm (up2 ci 40 1 v) cl cr dy) ?_ kk
  exact mm_i 39 1 rfl rfl
theorem pf_X10_13 (hΓ : CK E RX10 cc nL ret "<init>" d mc ms Γ) {a : Nat} {fs : List Value} {v : Value} (hM : M a = some (.inr (9, fs))) (hok : narrow (tyX10 0) (tv E v) = tv E v ∧ fits (tyX10 0) (tv E v) = true) (hlen : 0 < fs.length) (hd : decode cc pc = .ok (.putfield 13, 3)) (hn : pc + 3 = pc') (kk : SV E Γ nL (va_up M a (some (.inr (9, fs.set 0 v)))) nx ce sl pc' lv st) : SV E Γ nL M nx ce sl pc lv (v :: .ref a :: st) :=
  sv_putF hΓ i_X10 tyX10 tyX10_ok nmX10 rfl 0 (by decide) tb_165 rfl rfl rfl (by decide +kernel) hM hok hlen hd hn kk
theorem gt_X11_10 (hΓ : CK E RX11 cc nL ret nm d mc ms Γ) {a : Nat} {fs : List Value} {v : Value} (hM : M a = some (.inr (10, fs))) (hv : fs[0]? = some v) (hd : decode cc pc = .ok (.getfield 10, 3)) (hn : pc + 3 = pc') (kk : SV E Γ nL M nx ce sl pc' lv (v :: st)) : SV E Γ nL M nx ce sl pc lv (.ref a :: st) :=
  sv_get hΓ i_X11 rfl 0 (by decide) tb_220 rfl hM hv hd hn kk
theorem g_X11_10_1 (hΓ : CK E RX11 cc nL ret nm d mc ms Γ) (hd : decode cc pc = .ok (.getfield 10, 3)) (hn : pc + 3 = pc') (kk : SV E Γ nL (mm ci cl cr dy) nx ce sl pc' lv (.ref 2 :: st)) : SV E Γ nL (mm ci cl cr dy) nx ce sl pc lv (.ref 1 :: st) :=
  gt_X11_10 hΓ m_1 rfl hd hn kk
theorem gt_X11_19 (hΓ : CK E RX11 cc nL ret nm d mc ms Γ) {a : Nat} {fs : List Value} {v : Value} (hM : M a = some (.inr (10, fs))) (hv : fs[1]? = some v) (hd : decode cc pc = .ok (.getfield 19, 3)) (hn : pc + 3 = pc') (kk : SV E Γ nL M nx ce sl pc' lv (v :: st)) : SV E Γ nL M nx ce sl pc lv (.ref a :: st) :=
  sv_get hΓ i_X11 rfl 1 (by decide) tb_221 rfl hM hv hd hn kk
theorem g_X11_19_1 (hΓ : CK E RX11 cc nL ret nm d mc ms Γ) (hd : decode cc pc = .ok (.getfield 19, 3)) (hn : pc + 3 = pc') (kk : SV E Γ nL (mm ci cl cr dy) nx ce sl pc' lv (.ref 4 :: st)) : SV E Γ nL (mm ci cl cr dy) nx ce sl pc lv (.ref 1 :: st) :=
  gt_X11_19 hΓ m_1 rfl hd hn kk
theorem gt_X11_28 (hΓ : CK E RX11 cc nL ret nm d mc ms Γ) {a : Nat} {fs : List Value} {v : Value} (hM : M a = some (.inr (10, fs))) (hv : fs[2]? = some v) (hd : decode cc pc = .ok (.getfield 28, 3)) (hn : pc + 3 = pc') (kk : SV E Γ nL M nx ce sl pc' lv (v :: st)) : SV E Γ nL M nx ce sl pc lv (.ref a :: st) :=
  sv_get hΓ i_X11 rfl 2 (by decide) tb_222 rfl hM hv hd hn kk
theorem g_X11_28_1 (hΓ : CK E RX11 cc nL ret nm d mc ms Γ) (hd : decode cc pc = .ok (.getfield 28, 3)) (hn : pc + 3 = pc') (kk : SV E Γ nL (mm ci cl cr dy) nx ce sl pc' lv (.ref 8 :: st)) : SV E Γ nL (mm ci cl cr dy) nx ce sl pc lv (.ref 1 :: st) :=
  gt_X11_28 hΓ m_1 rfl hd hn kk
theorem gt_X11_37 (hΓ : CK E RX11 cc nL ret nm d mc ms Γ) {a : Nat} {fs : List Value} {v : Value} (hM : M a = some (.inr (10, fs))) (hv : fs[3]? = some v) (hd : decode cc pc = .ok (.getfield 37, 3)) (hn : pc + 3 = pc') (kk : SV E Γ nL M nx ce sl pc' lv (v :: st)) : SV E Γ nL M nx ce sl pc lv (.ref a :: st) :=
  sv_get hΓ i_X11 rfl 3 (by decide) tb_223 rfl hM hv hd hn kk
theorem g_X11_37_1 (hΓ : CK E RX11 cc nL ret nm d mc ms Γ) (hd : decode cc pc = .ok (.getfield 37, 3)) (hn : pc + 3 = pc') (kk : SV E Γ nL (mm ci cl cr dy) nx ce sl pc' lv (.ref 10 :: st)) : SV E Γ nL (mm ci cl cr dy) nx ce sl pc lv (.ref 1 :: st) :=
  gt_X11_37 hΓ m_1 rfl hd hn kk
theorem gt_X11_46 (hΓ : CK E RX11 cc nL ret nm d mc ms Γ) {a : Nat} {fs : List Value} {v : Value} (hM : M a = some (.inr (10, fs))) (hv : fs[4]? = some v) (hd : decode cc pc = .ok (.getfield 46, 3)) (hn : pc + 3 = pc') (kk : SV E Γ nL M nx ce sl pc' lv (v :: st)) : SV E Γ nL M nx ce sl pc lv (.ref a :: st) :=
  sv_get hΓ i_X11 rfl 4 (by decide) tb_224 rfl hM hv hd hn kk
theorem g_X11_46_1 (hΓ : CK E RX11 cc nL ret nm d mc ms Γ) (hd : decode cc pc = .ok (.getfield 46, 3)) (hn : pc + 3 = pc') (kk : SV E Γ nL (mm ci cl cr dy) nx ce sl pc' lv (.ref 14 :: st)) : SV E Γ nL (mm ci cl cr dy) nx ce sl pc lv (.ref 1 :: st) :=
  gt_X11_46 hΓ m_1 rfl hd hn kk
theorem gt_X11_55 (hΓ : CK E RX11 cc nL ret nm d mc ms Γ) {a : Nat} {fs : List Value} {v : Value} (hM : M a = some (.inr (10, fs))) (hv : fs[5]? = some v) (hd : decode cc pc = .ok (.getfield 55, 3)) (hn : pc + 3 = pc') (kk : SV E Γ nL M nx ce sl pc' lv (v :: st)) : SV E Γ nL M nx ce sl pc lv (.ref a :: st) :=
  sv_get hΓ i_X11 rfl 5 (by decide) tb_225 rfl hM hv hd hn kk
theorem g_X11_55_1 (hΓ : CK E RX11 cc nL ret nm d mc ms Γ) (hd : decode cc pc = .ok (.getfield 55, 3)) (hn : pc + 3 = pc') (kk : SV E Γ nL (mm ci cl cr dy) nx ce sl pc' lv (.ref 18 :: st)) : SV E Γ nL (mm ci cl cr dy) nx ce sl pc lv (.ref 1 :: st) :=
  gt_X11_55 hΓ m_1 rfl hd hn kk
theorem gt_X11_61 (hΓ : CK E RX11 cc nL ret nm d mc ms Γ) {a : Nat} {fs : List Value} {v : Value} (hM : M a = some (.inr (10, fs))) (hv : fs[6]? = some v) (hd : decode cc pc = .ok (.getfield 61, 3)) (hn : pc + 3 = pc') (kk : SV E Γ nL M nx ce sl pc' lv (v :: st)) : SV E Γ nL M nx ce sl pc lv (.ref a :: st) :=
  sv_get hΓ i_X11 rfl 6 (by decide) tb_226 rfl hM hv hd hn kk
theorem g_X11_61_1 (hΓ : CK E RX11 cc nL ret nm d mc ms Γ) (hd : decode cc pc = .ok (.getfield 61, 3)) (hn : pc + 3 = pc') (kk : SV E Γ nL (mm ci cl cr dy) nx ce sl pc' lv (.ref 42 :: st)) : SV E Γ nL (mm ci cl cr dy) nx ce sl pc lv (.ref 1 :: st) :=
  gt_X11_61 hΓ m_1 rfl hd hn kk
theorem gt_X11_65 (hΓ : CK E RX11 cc nL ret nm d mc ms Γ) {a : Nat} {fs : List Value} {v : Value} (hM : M a = some (.inr (10, fs))) (hv : fs[7]? = some v) (hd : decode cc pc = .ok (.getfield 65, 3)) (hn : pc + 3 = pc') (kk : SV E Γ nL M nx ce sl pc' lv (v :: st)) : SV E Γ nL M nx ce sl pc lv (.ref a :: st) :=
  sv_get hΓ i_X11 rfl 7 (by decide) tb_227 rfl hM hv hd hn kk
theorem g_X11_65_1 (hΓ : CK E RX11 cc nL ret nm d mc ms Γ) (hd : decode cc pc = .ok (.getfield 65, 3)) (hn : pc + 3 = pc') (kk : SV E Γ nL (mm ci cl cr dy) nx ce sl pc' lv (.int (ci 1 7) :: st)) : SV E Γ nL (mm ci cl cr dy) nx ce sl pc lv (.ref 1 :: st) :=
  gt_X11_65 hΓ m_1 rfl hd hn kk
theorem gt_X11_69 (hΓ : CK E RX11 cc nL ret nm d mc ms Γ) {a : Nat} {fs : List Value} {v : Value} (hM : M a = some (.inr (10, fs))) (hv : fs[8]? = some v) (hd : decode cc pc = .ok (.getfield 69, 3)) (hn : pc + 3 = pc') (kk : SV E Γ nL M nx ce sl pc' lv (v :: st)) : SV E Γ nL M nx ce sl pc lv (.ref a :: st) :=
  sv_get hΓ i_X11 rfl 8 (by decide) tb_228 rfl hM hv hd hn kk
theorem g_X11_69_1 (hΓ : CK E RX11 cc nL ret nm d mc ms Γ) (hd : decode cc pc = .ok (.getfield 69, 3)) (hn : pc + 3 = pc') (kk : SV E Γ nL (mm ci cl cr dy) nx ce sl pc' lv (.int (ci 1 8) :: st)) : SV E Γ nL (mm ci cl cr dy) nx ce sl pc lv (.ref 1 :: st) :=
  gt_X11_69 hΓ m_1 rfl hd hn kk
theorem gt_X11_108 (hΓ : CK E RX11 cc nL ret nm d mc ms Γ) {a : Nat} {fs : List Value} {v : Value} (hM : M a = some (.inr (0, fs))) (hv : fs[6]? = some v) (hd : decode cc pc = .ok (.getfield 108, 3)) (hn : pc + 3 = pc') (kk : SV E Γ nL M nx ce sl pc' lv (v :: st)) : SV E Γ nL M nx ce sl pc lv (.ref a :: st) :=
  sv_get hΓ i_X0 rfl 6 (by decide) tb_313 rfl hM hv hd hn kk
theorem gt_X11_140 (hΓ : CK E RX11 cc nL ret nm d mc ms Γ) {a : Nat} {fs : List Value} {v : Value} (hM : M a = some (.inr (8, fs))) (hv : fs[0]? = some v) (hd : decode cc pc = .ok (.getfield 140, 3)) (hn : pc + 3 = pc') (kk : SV E Γ nL M nx ce sl pc' lv (v :: st)) : SV E Γ nL M nx ce sl pc lv (.ref a :: st) :=
  sv_get hΓ i_X9 rfl 0 (by decide) tb_54 rfl hM hv hd hn kk
theorem g_X11_140_4 (hΓ : CK E RX11 cc nL ret nm d mc ms Γ) (hd : decode cc pc = .ok (.getfield 140, 3)) (hn : pc + 3 = pc') (kk : SV E Γ nL (mm ci cl cr dy) nx ce sl pc' lv (.ref 5 :: st)) : SV E Γ nL (mm ci cl cr dy) nx ce sl pc lv (.ref 4 :: st) :=
  gt_X11_140 hΓ m_4 rfl hd hn kk
theorem gt_X11_144 (hΓ : CK E RX11 cc nL ret nm d mc ms Γ) {a : Nat} {fs : List Value} {v : Value} (hM : M a = some (.inr (8, fs))) (hv : fs[1]? = some v) (hd : decode cc pc = .ok (.getfield 144, 3)) (hn : pc + 3 = pc') (kk : SV E Γ nL M nx ce sl pc' lv (v :: st)) : SV E Γ nL M nx ce sl pc lv (.ref a :: st) :=
  sv_get hΓ i_X9 rfl 1 (by decide) tb_56 rfl hM hv hd hn kk
theorem g_X11_144_4 (hΓ : CK E RX11 cc nL ret nm d mc ms Γ) (hd : decode cc pc = .ok (.getfield 144, 3)) (hn : pc + 3 = pc') (kk : SV E Γ nL (mm ci cl cr dy) nx ce sl pc' lv (.ref 6 :: st)) : SV E Γ nL (mm ci cl cr dy) nx ce sl pc lv (.ref 4 :: st) :=
  gt_X11_144 hΓ m_4 rfl hd hn kk
theorem gt_X11_147 (hΓ : CK E RX11 cc nL ret nm d mc ms Γ) {a : Nat} {fs : List Value} {v : Value} (hM : M a = some (.inr (8, fs))) (hv : fs[2]? = some v) (hd : decode cc pc = .ok (.getfield 147, 3)) (hn : pc + 3 = pc') (kk : SV E Γ nL M nx ce sl pc' lv (v :: st)) : SV E Γ nL M nx ce sl pc lv (.ref a :: st) :=
  sv_get hΓ i_X9 rfl 2 (by decide) tb_58 rfl hM hv hd hn kk
theorem g_X11_147_4 (hΓ : CK E RX11 cc nL ret nm d mc ms Γ) (hd : decode cc pc = .ok (.getfield 147, 3)) (hn : pc + 3 = pc') (kk : SV E Γ nL (mm ci cl cr dy) nx ce sl pc' lv (.ref 7 :: st)) : SV E Γ nL (mm ci cl cr dy) nx ce sl pc lv (.ref 4 :: st) :=
  gt_X11_147 hΓ m_4 rfl hd hn kk
theorem gt_X11_151 (hΓ : CK E RX11 cc nL ret nm d mc ms Γ) {a : Nat} {fs : List Value} {v : Value} (hM : M a = some (.inr (2, fs))) (hv : fs[1]? = some v) (hd : decode cc pc = .ok (.getfield 151, 3)) (hn : pc + 3 = pc') (kk : SV E Γ nL M nx ce sl pc' lv (v :: st)) : SV E Γ nL M nx ce sl pc lv (.ref a :: st) :=
  sv_get hΓ i_X3 rfl 1 (by decide) tb_175 rfl hM hv hd hn kk
theorem g_X11_151_18 (hΓ : CK E RX11 cc nL ret nm d mc ms Γ) (hd : decode cc pc = .ok (.getfield 151, 3)) (hn : pc + 3 = pc') (kk : SV E Γ nL (mm ci cl cr dy) nx ce sl pc' lv (.ref 19 :: st)) : SV E Γ nL (mm ci cl cr dy) nx ce sl pc lv (.ref 18 :: st) :=
  gt_X11_151 hΓ m_18 rfl hd hn kk
theorem gt_X11_169 (hΓ : CK E RX11 cc nL ret nm d mc ms Γ) {a : Nat} {fs : List Value} {v : Value} (hM : M a = some (.inr (2, fs))) (hv : fs[3]? = some v) (hd : decode cc pc = .ok (.getfield 169, 3)) (hn : pc + 3 = pc') (kk : SV E Γ nL M nx ce sl pc' lv (v :: st)) : SV E Γ nL M nx ce sl pc lv (.ref a :: st) :=
  sv_get hΓ i_X3 rfl 3 (by decide) tb_179 rfl hM hv hd hn kk
theorem g_X11_169_18 (hΓ : CK E RX11 cc nL ret nm d mc ms Γ) (hd : decode cc pc = .ok (.getfield 169, 3)) (hn : pc + 3 = pc') (kk : SV E Γ nL (mm ci cl cr dy) nx ce sl pc' lv (.ref 21 :: st)) : SV E Γ nL (mm ci cl cr dy) nx ce sl pc lv (.ref 18 :: st) :=
  gt_X11_169 hΓ m_18 rfl hd hn kk
theorem gt_X11_173 (hΓ : CK E RX11 cc nL ret nm d mc ms Γ) {a : Nat} {fs : List Value} {v : Value} (hM : M a = some (.inr (0, fs))) (hv : fs[0]? = some v) (hd : decode cc pc = .ok (.getfield 173, 3)) (hn : pc + 3 = pc') (kk : SV E Γ nL M nx ce sl pc' lv (v :: st)) : SV E Γ nL M nx ce sl pc lv (.ref a :: st) :=
  sv_get hΓ i_X0 rfl 0 (by decide) tb_291 rfl hM hv hd hn kk
theorem gt_X11_177 (hΓ : CK E RX11 cc nL ret nm d mc ms Γ) {a : Nat} {fs : List Value} {v : Value} (hM : M a = some (.inr (0, fs))) (hv : fs[1]? = some v) (hd : decode cc pc = .ok (.getfield 177, 3)) (hn : pc + 3 = pc') (kk : SV E Γ nL M nx ce sl pc' lv (v :: st)) : SV E Γ nL M nx ce sl pc lv (.ref a :: st) :=
  sv_get hΓ i_X0 rfl 1 (by decide) tb_294 rfl hM hv hd hn kk
theorem gt_X11_180 (hΓ : CK E RX11 cc nL ret nm d mc ms Γ) {a : Nat} {fs : List Value} {v : Value} (hM : M a = some (.inr (0, fs))) (hv : fs[3]? = some v) (hd : decode cc pc = .ok (.getfield 180, 3)) (hn : pc + 3 = pc') (kk : SV E Γ nL M nx ce sl pc' lv (v :: st)) : SV E Γ nL M nx ce sl pc lv (.ref a :: st) :=
  sv_get hΓ i_X0 rfl 3 (by decide) tb_303 rfl hM hv hd hn kk
theorem gt_X11_183 (hΓ : CK E RX11 cc nL ret nm d mc ms Γ) {a : Nat} {fs : List Value} {v : Value} (hM : M a = some (.inr (0, fs))) (hv : fs[4]? = some v) (hd : decode cc pc = .ok (.getfield 183, 3)) (hn : pc + 3 = pc') (kk : SV E Γ nL M nx ce sl pc' lv (v :: st)) : SV E Γ nL M nx ce sl pc lv (.ref a :: st) :=
  sv_get hΓ i_X0 rfl 4 (by decide) tb_307 rfl hM hv hd hn kk
theorem gt_X11_186 (hΓ : CK E RX11 cc nL ret nm d mc ms Γ) {a : Nat} {fs : List Value} {v : Value} (hM : M a = some (.inr (0, fs))) (hv : fs[5]? = some v) (hd : decode cc pc = .ok (.getfield 186, 3)) (hn : pc + 3 = pc') (kk : SV E Γ nL M nx ce sl pc' lv (v :: st)) : SV E Γ nL M nx ce sl pc lv (.ref a :: st) :=
  sv_get hΓ i_X0 rfl 5 (by decide) tb_310 rfl hM hv hd hn kk
theorem gt_X11_189 (hΓ : CK E RX11 cc nL ret nm d mc ms Γ) {a : Nat} {fs : List Value} {v : Value} (hM : M a = some (.inr (0, fs))) (hv : fs[2]? = some v) (hd : decode cc pc = .ok (.getfield 189, 3)) (hn : pc + 3 = pc') (kk : SV E Γ nL M nx ce sl pc' lv (v :: st)) : SV E Γ nL M nx ce sl pc lv (.ref a :: st) :=
  sv_get hΓ i_X0 rfl 2 (by decide) tb_298 rfl hM hv hd hn kk
theorem gt_X11_208 (hΓ : CK E RX11 cc nL ret nm d mc ms Γ) {a : Nat} {fs : List Value} {v : Value} (hM : M a = some (.inr (7, fs))) (hv : fs[1]? = some v) (hd : decode cc pc = .ok (.getfield 208, 3)) (hn : pc + 3 = pc') (kk : SV E Γ nL M nx ce sl pc' lv (v :: st)) : SV E Γ nL M nx ce sl pc lv (.ref a :: st) :=
  sv_get hΓ i_X8 rfl 1 (by decide) tb_273 rfl hM hv hd hn kk
theorem gt_X11_212 (hΓ : CK E RX11 cc nL ret nm d mc ms Γ) {a : Nat} {fs : List Value} {v : Value} (hM : M a = some (.inr (7, fs))) (hv : fs[0]? = some v) (hd : decode cc pc = .ok (.getfield 212, 3)) (hn : pc + 3 = pc') (kk : SV E Γ nL M nx ce sl pc' lv (v :: st)) : SV E Γ nL M nx ce sl pc lv (.ref a :: st) :=
  sv_get hΓ i_X8 rfl 0 (by decide) tb_271 rfl hM hv hd hn kk
theorem gt_X11_225 (hΓ : CK E RX11 cc nL ret nm d mc ms Γ) {a : Nat} {fs : List Value} {v : Value} (hM : M a = some (.inr (4, fs))) (hv : fs[6]? = some v) (hd : decode cc pc = .ok (.getfield 225, 3)) (hn : pc + 3 = pc') (kk : SV E Γ nL M nx ce sl pc' lv (v :: st)) : SV E Γ nL M nx ce sl pc lv (.ref a :: st) :=
  sv_get hΓ i_X5 rfl 6 (by decide) tb_104 rfl hM hv hd hn kk
theorem g_X11_225_10 (hΓ : CK E RX11 cc nL ret nm d mc ms Γ) (hd : decode cc pc = .ok (.getfield 225, 3)) (hn : pc + 3 = pc') (kk : SV E Γ nL (mm ci cl cr dy) nx ce sl pc' lv (.int (ci 10 6) :: st)) : SV E Γ nL (mm ci cl cr dy) nx ce sl pc lv (.ref 10 :: st) :=
  gt_X11_225 hΓ m_10 rfl hd hn kk
theorem gt_X11_228 (hΓ : CK E RX11 cc nL ret nm d mc ms Γ) {a : Nat} {fs : List Value} {v : Value} (hM : M a = some (.inr (4, fs))) (hv : fs[3]? = some v) (hd : decode cc pc = .ok (.getfield 228, 3)) (hn : pc + 3 = pc') (kk : SV E Γ nL M nx ce sl pc' lv (v :: st)) : SV E Γ nL M nx ce sl pc lv (.ref a :: st) :=
  sv_get hΓ i_X5 rfl 3 (by decide) tb_96 rfl hM hv hd hn kk
theorem g_X11_228_10 (hΓ : CK E RX11 cc nL ret nm d mc ms Γ) (hd : decode cc pc = .ok (.getfield 228, 3)) (hn : pc + 3 = pc') (kk : SV E Γ nL (mm ci cl cr dy) nx ce sl pc' lv (.ref 11 :: st)) : SV E Γ nL (mm ci cl cr dy) nx ce sl pc lv (.ref 10 :: st) :=
  gt_X11_228 hΓ m_10 rfl hd hn kk
theorem gt_X11_231 (hΓ : CK E RX11 cc nL ret nm d mc ms Γ) {a : Nat} {fs : List Value} {v : Value} (hM : M a = some (.inr (4, fs))) (hv : fs[4]? = some v) (hd : decode cc pc = .ok (.getfield 231, 3)) (hn : pc + 3 = pc') (kk : SV E Γ nL M nx ce sl pc' lv (v :: st)) : SV E Γ nL M nx ce sl pc lv (.ref a :: st) :=
  sv_get hΓ i_X5 rfl 4 (by decide) tb_99 rfl hM hv hd hn kk
theorem g_X11_231_10 (hΓ : CK E RX11 cc nL ret nm d mc ms Γ) (hd : decode cc pc = .ok (.getfield 231, 3)) (hn : pc + 3 = pc') (kk : SV E Γ nL (mm ci cl cr dy) nx ce sl pc' lv (.ref 12 :: st)) : SV E Γ nL (mm ci cl cr dy) nx ce sl pc lv (.ref 10 :: st) :=
  gt_X11_231 hΓ m_10 rfl hd hn kk
theorem gt_X11_241 (hΓ : CK E RX11 cc nL ret nm d mc ms Γ) {a : Nat} {fs : List Value} {v : Value} (hM : M a = some (.inr (5, fs))) (hv : fs[5]? = some v) (hd : decode cc pc = .ok (.getfield 241, 3)) (hn : pc + 3 = pc') (kk : SV E Γ nL M nx ce sl pc' lv (v :: st)) : SV E Γ nL M nx ce sl pc lv (.ref a :: st) :=
  sv_get hΓ i_X6 rfl 5 (by decide) tb_134 rfl hM hv hd hn kk
theorem g_X11_241_14 (hΓ : CK E RX11 cc nL ret nm d mc ms Γ) (hd : decode cc pc = .ok (.getfield 241, 3)) (hn : pc + 3 = pc') (kk : SV E Γ nL (mm ci cl cr dy) nx ce sl pc' lv (.ref 17 :: st)) : SV E Γ nL (mm ci cl cr dy) nx ce sl pc lv (.ref 14 :: st) :=
  gt_X11_241 hΓ m_14 rfl hd hn kk
theorem gt_X11_244 (hΓ : CK E RX11 cc nL ret nm d mc ms Γ) {a : Nat} {fs : List Value} {v : Value} (hM : M a = some (.inr (5, fs))) (hv : fs[3]? = some v) (hd : decode cc pc = .ok (.getfield 244, 3)) (hn : pc + 3 = pc') (kk : SV E Γ nL M nx ce sl pc' lv (v :: st)) : SV E Γ nL M nx ce sl pc lv (.ref a :: st) :=
  sv_get hΓ i_X6 rfl 3 (by decide) tb_130 rfl hM hv hd hn kk
theorem g_X11_244_14 (hΓ : CK E RX11 cc nL ret nm d mc ms Γ) (hd : decode cc pc = .ok (.getfield 244, 3)) (hn : pc + 3 = pc') (kk : SV E Γ nL (mm ci cl cr dy) nx ce sl pc' lv (.ref 15 :: st)) : SV E Γ nL (mm ci cl cr dy) nx ce sl pc lv (.ref 14 :: st) :=
  gt_X11_244 hΓ m_14 rfl hd hn kk
theorem gt_X11_247 (hΓ : CK E RX11 cc nL ret nm d mc ms Γ) {a : Nat} {fs : List Value} {v : Value} (hM : M a = some (.inr (5, fs))) (hv : fs[4]? = some v) (hd : decode cc pc = .ok (.getfield 247, 3)) (hn : pc + 3 = pc') (kk : SV E Γ nL M nx ce sl pc' lv (v :: st)) : SV E Γ nL M nx ce sl pc lv (.ref a :: st) :=
  sv_get hΓ i_X6 rfl 4 (by decide) tb_132 rfl hM hv hd hn kk
theorem g_X11_247_14 (hΓ : CK E RX11 cc nL ret nm d mc ms Γ) (hd : decode cc pc = .ok (.getfield 247, 3)) (hn : pc + 3 = pc') (kk : SV E Γ nL (mm ci cl cr dy) nx ce sl pc' lv (.ref 16 :: st)) : SV E Γ nL (mm ci cl cr dy) nx ce sl pc lv (.ref 14 :: st) :=
  gt_X11_247 hΓ m_14 rfl hd hn kk
theorem gt_X11_262 (hΓ : CK E RX11 cc nL ret nm d mc ms Γ) {a : Nat} {fs : List Value} {v : Value} (hM : M a = some (.inr (5, fs))) (hv : fs[6]? = some v) (hd : decode cc pc = .ok (.getfield 262, 3)) (hn : pc + 3 = pc') (kk : SV E Γ nL M nx ce sl pc' lv (v :: st)) : SV E Γ nL M nx ce sl pc lv (.ref a :: st) :=
  sv_get hΓ i_X6 rfl 6 (by decide) tb_136 rfl hM hv hd hn kk
theorem g_X11_262_14 (hΓ : CK E RX11 cc nL ret nm d mc ms Γ) (hd : decode cc pc = .ok (.getfield 262, 3)) (hn : pc + 3 = pc') (kk : SV E Γ nL (mm ci cl cr dy) nx ce sl pc' lv (.int (ci 14 6) :: st)) : SV E Γ nL (mm ci cl cr dy) nx ce sl pc lv (.ref 14 :: st) :=
  gt_X11_262 hΓ m_14 rfl hd hn kk
theorem gt_X11_279 (hΓ : CK E RX11 cc nL ret nm d mc ms Γ) {a : Nat} {fs : List Value} {v : Value} (hM : M a = some (.inr (2, fs))) (hv : fs[8]? = some v) (hd : decode cc pc = .ok (.getfield 279, 3)) (hn : pc + 3 = pc') (kk : SV E Γ nL M nx ce sl pc' lv (v :: st)) : SV E Γ nL M nx ce sl pc lv (.ref a :: st) :=
  sv_get hΓ i_X3 rfl 8 (by decide) tb_186 rfl hM hv hd hn kk
theorem g_X11_279_18 (hΓ : CK E RX11 cc nL ret nm d mc ms Γ) (hd : decode cc pc = .ok (.getfield 279, 3)) (hn : pc + 3 = pc') (kk : SV E Γ nL (mm ci cl cr dy) nx ce sl pc' lv (.int (ci 18 8) :: st)) : SV E Γ nL (mm ci cl cr dy) nx ce sl pc lv (.ref 18 :: st) :=
  gt_X11_279 hΓ m_18 rfl hd hn kk
theorem gt_X11_282 (hΓ : CK E RX11 cc nL ret nm d mc ms Γ) {a : Nat} {fs : List Value} {v : Value} (hM : M a = some (.inr (2, fs))) (hv : fs[9]? = some v) (hd : decode cc pc = .ok (.getfield 282, 3)) (hn : pc + 3 = pc') (kk : SV E Γ nL M nx ce sl pc' lv (v :: st)) : SV E Γ nL M nx ce sl pc lv (.ref a :: st) :=
  sv_get hΓ i_X3 rfl 9 (by decide) tb_188 rfl hM hv hd hn kk
theorem g_X11_282_18 (hΓ : CK E RX11 cc nL ret nm d mc ms Γ) (hd : decode cc pc = .ok (.getfield 282, 3)) (hn : pc + 3 = pc') (kk : SV E Γ nL (mm ci cl cr dy) nx ce sl pc' lv (.int (ci 18 9) :: st)) : SV E Γ nL (mm ci cl cr dy) nx ce sl pc lv (.ref 18 :: st) :=
  gt_X11_282 hΓ m_18 rfl hd hn kk
theorem gt_X11_285 (hΓ : CK E RX11 cc nL ret nm d mc ms Γ) {a : Nat} {fs : List Value} {v : Value} (hM : M a = some (.inr (2, fs))) (hv : fs[10]? = some v) (hd : decode cc pc = .ok (.getfield 285, 3)) (hn : pc + 3 = pc') (kk : SV E Γ nL M nx ce sl pc' lv (v :: st)) : SV E Γ nL M nx ce sl pc lv (.ref a :: st) :=
  sv_get hΓ i_X3 rfl 10 (by decide) tb_190 rfl hM hv hd hn kk
theorem g_X11_285_18 (hΓ : CK E RX11 cc nL ret nm d mc ms Γ) (hd : decode cc pc = .ok (.getfield 285, 3)) (hn : pc + 3 = pc') (kk : SV E Γ nL (mm ci cl cr dy) nx ce sl pc' lv (.int (ci 18 10) :: st)) : SV E Γ nL (mm ci cl cr dy) nx ce sl pc lv (.ref 18 :: st) :=
  gt_X11_285 hΓ m_18 rfl hd hn kk
theorem gt_X11_288 (hΓ : CK E RX11 cc nL ret nm d mc ms Γ) {a : Nat} {fs : List Value} {v : Value} (hM : M a = some (.inr (2, fs))) (hv : fs[11]? = some v) (hd : decode cc pc = .ok (.getfield 288, 3)) (hn : pc + 3 = pc') (kk : SV E Γ nL M nx ce sl pc' lv (v :: st)) : SV E Γ nL M nx ce sl pc lv (.ref a :: st) :=
  sv_get hΓ i_X3 rfl 11 (by decide) tb_192 rfl hM hv hd hn kk
theorem g_X11_288_18 (hΓ : CK E RX11 cc nL ret nm d mc ms Γ) (hd : decode cc pc = .ok (.getfield 288, 3)) (hn : pc + 3 = pc') (kk : SV E Γ nL (mm ci cl cr dy) nx ce sl pc' lv (.int (ci 18 11) :: st)) : SV E Γ nL (mm ci cl cr dy) nx ce sl pc lv (.ref 18 :: st) :=
  gt_X11_288 hΓ m_18 rfl hd hn kk
theorem gt_X11_291 (hΓ : CK E RX11 cc nL ret nm d mc ms Γ) {a : Nat} {fs : List Value} {v : Value} (hM : M a = some (.inr (2, fs))) (hv : fs[2]? = some v) (hd : decode cc pc = .ok (.getfield 291, 3)) (hn : pc + 3 = pc') (kk : SV E Γ nL M nx ce sl pc' lv (v :: st)) : SV E Γ nL M nx ce sl pc lv (.ref a :: st) :=
  sv_get hΓ i_X3 rfl 2 (by decide) tb_177 rfl hM hv hd hn kk
theorem g_X11_291_18 (hΓ : CK E RX11 cc nL ret nm d mc ms Γ) (hd : decode cc pc = .ok (.getfield 291, 3)) (hn : pc + 3 = pc') (kk : SV E Γ nL (mm ci cl cr dy) nx ce sl pc' lv (.ref 20 :: st)) : SV E Γ nL (mm ci cl cr dy) nx ce sl pc lv (.ref 18 :: st) :=
  gt_X11_291 hΓ m_18 rfl hd hn kk
theorem gt_X11_311 (hΓ : CK E RX11 cc nL ret nm d mc ms Γ) {a : Nat} {fs : List Value} {v : Value} (hM : M a = some (.inr (2, fs))) (hv : fs[4]? = some v) (hd : decode cc pc = .ok (.getfield 311, 3)) (hn : pc + 3 = pc') (kk : SV E Γ nL M nx ce sl pc' lv (v :: st)) : SV E Γ nL M nx ce sl pc lv (.ref a :: st) :=
  sv_get hΓ i_X3 rfl 4 (by decide) tb_181 rfl hM hv hd hn kk
theorem g_X11_311_18 (hΓ : CK E RX11 cc nL ret nm d mc ms Γ) (hd : decode cc pc = .ok (.getfield 311, 3)) (hn : pc + 3 = pc') (kk : SV E Γ nL (mm ci cl cr dy) nx ce sl pc' lv (.ref 22 :: st)) : SV E Γ nL (mm ci cl cr dy) nx ce sl pc lv (.ref 18 :: st) :=
  gt_X11_311 hΓ m_18 rfl hd hn kk
theorem gt_X11_343 (hΓ : CK E RX11 cc nL ret nm d mc ms Γ) {a : Nat} {fs : List Value} {v : Value} (hM : M a = some (.inr (6, fs))) (hv : fs[1]? = some v) (hd : decode cc pc = .ok (.getfield 343, 3)) (hn : pc + 3 = pc') (kk : SV E Γ nL M nx ce sl pc' lv (v :: st)) : SV E Γ nL M nx ce sl pc lv (.ref a :: st) :=
  sv_get hΓ i_X7 rfl 1 (by decide) tb_748 rfl hM hv hd hn kk
theorem gt_X11_348 (hΓ : CK E RX11 cc nL ret nm d mc ms Γ) {a : Nat} {fs : List Value} {v : Value} (hM : M a = some (.inr (6, fs))) (hv : fs[0]? = some v) (hd : decode cc pc = .ok (.getfield 348, 3)) (hn : pc + 3 = pc') (kk : SV E Γ nL M nx ce sl pc' lv (v :: st)) : SV E Γ nL M nx ce sl pc lv (.ref a :: st) :=
  sv_get hΓ i_X7 rfl 0 (by decide) tb_746 rfl hM hv hd hn kk
theorem pf_X11_10 (hΓ : CK E RX11 cc nL ret "<init>" d mc ms Γ) {a : Nat} {fs : List Value} {v : Value} (hM : M a = some (.inr (10, fs))) (hok : narrow (tyX11 0) (tv E v) = tv E v ∧ fits (tyX11 0) (tv E v) = true) (hlen : 0 < fs.length) (hd : decode cc pc = .ok (.putfield 10, 3)) (hn : pc + 3 = pc') (kk : SV E Γ nL (va_up M a (some (.inr (10, fs.set 0 v)))) nx ce sl pc' lv st) : SV E Γ nL M nx ce sl pc lv (v :: .ref a :: st) :=
  sv_putF hΓ i_X11 tyX11 tyX11_ok nmX11 rfl 0 (by decide) tb_220 rfl rfl rfl (by decide +kernel) hM hok hlen hd hn kk
theorem pf_X11_19 (hΓ : CK E RX11 cc nL ret "<init>" d mc ms Γ) {a : Nat} {fs : List Value} {v : Value} (hM : M a = some (.inr (10, fs))) (hok : narrow (tyX11 1) (tv E v) = tv E v ∧ fits (tyX11 1) (tv E v) = true) (hlen : 1 < fs.length) (hd : decode cc pc = .ok (.putfield 19, 3)) (hn : pc + 3 = pc') (kk : SV E Γ nL (va_up M a (some (.inr (10, fs.set 1 v)))) nx ce sl pc' lv st) : SV E Γ nL M nx ce sl pc lv (v :: .ref a :: st) :=
  sv_putF hΓ i_X11 tyX11 tyX11_ok nmX11 rfl 1 (by decide) tb_221 rfl rfl rfl (by decide +kernel) hM hok hlen hd hn kk
theorem pf_X11_28 (hΓ : CK E RX11 cc nL ret "<init>" d mc ms Γ) {a : Nat} {fs : List Value} {v : Value} (hM : M a = some (.inr (10, fs))) (hok : narrow (tyX11 2) (tv E v) = tv E v ∧ fits (tyX11 2) (tv E v) = true) (hlen : 2 < fs.length) (hd : decode cc pc = .ok (.putfield 28, 3)) (hn : pc + 3 = pc') (kk : SV E Γ nL (va_up M a (some (.inr (10, fs.set 2 v)))) nx ce sl pc' lv st) : SV E Γ nL M nx ce sl pc lv (v :: .ref a :: st) :=
  sv_putF hΓ i_X11 tyX11 tyX11_ok nmX11 rfl 2 (by decide) tb_222 rfl rfl rfl (by decide +kernel) hM hok hlen hd hn kk
theorem pf_X11_37 (hΓ : CK E RX11 cc nL ret "<init>" d mc ms Γ) {a : Nat} {fs : List Value} {v : Value} (hM : M a = some (.inr (10, fs))) (hok : narrow (tyX11 3) (tv E v) = tv E v ∧ fits (tyX11 3) (tv E v) = true) (hlen : 3 < fs.length) (hd : decode cc pc = .ok (.putfield 37, 3)) (hn : pc + 3 = pc') (kk : SV E Γ nL (va_up M a (some (.inr (10, fs.set 3 v)))) nx ce sl pc' lv st) : SV E Γ nL M nx ce sl pc lv (v :: .ref a :: st) :=
  sv_putF hΓ i_X11 tyX11 tyX11_ok nmX11 rfl 3 (by decide) tb_223 rfl rfl rfl (by decide +kernel) hM hok hlen hd hn kk
theorem pf_X11_46 (hΓ : CK E RX11 cc nL ret "<init>" d mc ms Γ) {a : Nat} {fs : List Value} {v : Value} (hM : M a = some (.inr (10, fs))) (hok : narrow (tyX11 4) (tv E v) = tv E v ∧ fits (tyX11 4) (tv E v) = true) (hlen : 4 < fs.length) (hd : decode cc pc = .ok (.putfield 46, 3)) (hn : pc + 3 = pc') (kk : SV E Γ nL (va_up M a (some (.inr (10, fs.set 4 v)))) nx ce sl pc' lv st) : SV E Γ nL M nx ce sl pc lv (v :: .ref a :: st) :=
  sv_putF hΓ i_X11 tyX11 tyX11_ok nmX11 rfl 4 (by decide) tb_224 rfl rfl rfl (by decide +kernel) hM hok hlen hd hn kk
theorem pf_X11_55 (hΓ : CK E RX11 cc nL ret "<init>" d mc ms Γ) {a : Nat} {fs : List Value} {v : Value} (hM : M a = some (.inr (10, fs))) (hok : narrow (tyX11 5) (tv E v) = tv E v ∧ fits (tyX11 5) (tv E v) = true) (hlen : 5 < fs.length) (hd : decode cc pc = .ok (.putfield 55, 3)) (hn : pc + 3 = pc') (kk : SV E Γ nL (va_up M a (some (.inr (10, fs.set 5 v)))) nx ce sl pc' lv st) : SV E Γ nL M nx ce sl pc lv (v :: .ref a :: st) :=
  sv_putF hΓ i_X11 tyX11 tyX11_ok nmX11 rfl 5 (by decide) tb_225 rfl rfl rfl (by decide +kernel) hM hok hlen hd hn kk
theorem pf_X11_61 (hΓ : CK E RX11 cc nL ret "<init>" d mc ms Γ) {a : Nat} {fs : List Value} {v : Value} (hM : M a = some (.inr (10, fs))) (hok : narrow (tyX11 6) (tv E v) = tv E v ∧ fits (tyX11 6) (tv E v) = true) (hlen : 6 < fs.length) (hd : decode cc pc = .ok (.putfield 61, 3)) (hn : pc + 3 = pc') (kk : SV E Γ nL (va_up M a (some (.inr (10, fs.set 6 v)))) nx ce sl pc' lv st) : SV E Γ nL M nx ce sl pc lv (v :: .ref a :: st) :=
  sv_putF hΓ i_X11 tyX11 tyX11_ok nmX11 rfl 6 (by decide) tb_226 rfl rfl rfl (by decide +kernel) hM hok hlen hd hn kk
theorem pt_X11_65 (hΓ : CK E RX11 cc nL ret nm d mc ms Γ) {a : Nat} {fs : List Value} {v : Value} (hM : M a = some (.inr (10, fs))) (hok : narrow .boolean (tv E v) = tv E v ∧ fits .boolean (tv E v) = true) (hlen : 7 < fs.length) (hd : decode cc pc = .ok (.putfield 65, 3)) (hn : pc + 3 = pc') (kk : SV E Γ nL (va_up M a (some (.inr (10, fs.set 7 v)))) nx ce sl pc' lv st) : SV E Γ nL M nx ce sl pc lv (v :: .ref a :: st) :=
  sv_put hΓ i_X11 tyX11 tyX11_ok nmX11 rfl 7 (by decide) tb_227 rfl rfl (by decide +kernel) hM hok hlen hd hn kk
theorem p_X11_65_1 (hΓ : CK E RX11 cc nL ret nm d mc ms Γ) {v : Int32} (hz : narrow .boolean (.int v) = .int v ∧ fits .boolean (.int v) = true) (hd : decode cc pc = .ok (.putfield 65, 3)) (hn : pc + 3 = pc') (kk : SV E Γ nL (mm (up2 ci 1 7 v) cl cr dy) nx ce sl pc' lv (st)) : SV E Γ nL (mm ci cl cr dy) nx ce sl pc lv (.int v :: .ref 1 :: st) := by
  refine pt_X11_65 hΓ m_1 hz (Nat.lt_of_succ_le (Nat.le_of_ble_eq_true rfl)) hd hn ?_
  refine SV_eq (M' := mm (up2 ci 1 7 v) cl cr dy) ?_ kk
  exact mm_i 0 7 rfl rfl
theorem pt_X11_69 (hΓ : CK E RX11 cc nL ret nm d mc ms Γ) {a : Nat} {fs : List Value} {v : Value} (hM : M a = some (.inr (10, fs))) (hok : narrow .boolean (tv E v) = tv E v ∧ fits .boolean (tv E v) = true) (hlen : 8 < fs.length) (hd : decode cc pc = .ok (.putfield 69, 3)) (hn : pc + 3 = pc') (kk : SV E Γ nL (va_up M a (some (.inr (10, fs.set 8 v)))) nx ce sl pc' lv st) : SV E Γ nL M nx ce sl pc lv (v :: .ref a :: st) :=
  sv_put hΓ i_X11 tyX11 tyX11_ok nmX11 rfl 8 (by decide) tb_228 rfl rfl (by decide +kernel) hM hok hlen hd hn kk
theorem p_X11_69_1 (hΓ : CK E RX11 cc nL ret nm d mc ms Γ) {v : Int32} (hz : narrow .boolean (.int v) = .int v ∧ fits .boolean (.int v) = true) (hd : decode cc pc = .ok (.putfield 69, 3)) (hn : pc + 3 = pc') (kk : SV E Γ nL (mm (up2 ci 1 8 v) cl cr dy) nx ce sl pc' lv (st)) : SV E Γ nL (mm ci cl cr dy) nx ce sl pc lv (.int v :: .ref 1 :: st) := by
  refine pt_X11_69 hΓ m_1 hz (Nat.lt_of_succ_le (Nat.le_of_ble_eq_true rfl)) hd hn ?_
  refine SV_eq (M' := mm (up2 ci 1 8 v) cl cr dy) ?_ kk
  exact mm_i 0 8 rfl rfl
theorem gt_X12_7 (hΓ : CK E RX12 cc nL ret nm d mc ms Γ) {a : Nat} {fs : List Value} {v : Value} (hM : M a = some (.inr (11, fs))) (hv : fs[2]? = some v) (hd : decode cc pc = .ok (.getfield 7, 3)) (hn : pc + 3 = pc') (kk : SV E Γ nL M nx ce sl pc' lv (v :: st)) : SV E Γ nL M nx ce sl pc lv (.ref a :: st) :=
  sv_get hΓ i_X12 rfl 2 (by decide) tb_948 rfl hM hv hd hn kk
theorem g_X12_7_43 (hΓ : CK E RX12 cc nL ret nm d mc ms Γ) (hd : decode cc pc = .ok (.getfield 7, 3)) (hn : pc + 3 = pc') (kk : SV E Γ nL (mm ci cl cr dy) nx ce sl pc' lv (.ref 44 :: st)) : SV E Γ nL (mm ci cl cr dy) nx ce sl pc lv (.ref 43 :: st) :=
  gt_X12_7 hΓ m_43 rfl hd hn kk
theorem gt_X12_13 (hΓ : CK E RX12 cc nL ret nm d mc ms Γ) {a : Nat} {fs : List Value} {v : Value} (hM : M a = some (.inr (11, fs))) (hv : fs[3]? = some v) (hd : decode cc pc = .ok (.getfield 13, 3)) (hn : pc + 3 = pc') (kk : SV E Γ nL M nx ce sl pc' lv (v :: st)) : SV E Γ nL M nx ce sl pc lv (.ref a :: st) :=
  sv_get hΓ i_X12 rfl 3 (by decide) tb_949 rfl hM hv hd hn kk
theorem g_X12_13_43 (hΓ : CK E RX12 cc nL ret nm d mc ms Γ) (hd : decode cc pc = .ok (.getfield 13, 3)) (hn : pc + 3 = pc') (kk : SV E Γ nL (mm ci cl cr dy) nx ce sl pc' lv (.ref 45 :: st)) : SV E Γ nL (mm ci cl cr dy) nx ce sl pc lv (.ref 43 :: st) :=
  gt_X12_13 hΓ m_43 rfl hd hn kk
theorem gt_X12_16 (hΓ : CK E RX12 cc nL ret nm d mc ms Γ) {a : Nat} {fs : List Value} {v : Value} (hM : M a = some (.inr (11, fs))) (hv : fs[4]? = some v) (hd : decode cc pc = .ok (.getfield 16, 3)) (hn : pc + 3 = pc') (kk : SV E Γ nL M nx ce sl pc' lv (v :: st)) : SV E Γ nL M nx ce sl pc lv (.ref a :: st) :=
  sv_get hΓ i_X12 rfl 4 (by decide) tb_950 rfl hM hv hd hn kk
theorem g_X12_16_43 (hΓ : CK E RX12 cc nL ret nm d mc ms Γ) (hd : decode cc pc = .ok (.getfield 16, 3)) (hn : pc + 3 = pc') (kk : SV E Γ nL (mm ci cl cr dy) nx ce sl pc' lv (.ref 46 :: st)) : SV E Γ nL (mm ci cl cr dy) nx ce sl pc lv (.ref 43 :: st) :=
  gt_X12_16 hΓ m_43 rfl hd hn kk
theorem gt_X12_19 (hΓ : CK E RX12 cc nL ret nm d mc ms Γ) {a : Nat} {fs : List Value} {v : Value} (hM : M a = some (.inr (11, fs))) (hv : fs[5]? = some v) (hd : decode cc pc = .ok (.getfield 19, 3)) (hn : pc + 3 = pc') (kk : SV E Γ nL M nx ce sl pc' lv (v :: st)) : SV E Γ nL M nx ce sl pc lv (.ref a :: st) :=
  sv_get hΓ i_X12 rfl 5 (by decide) tb_951 rfl hM hv hd hn kk
theorem g_X12_19_43 (hΓ : CK E RX12 cc nL ret nm d mc ms Γ) (hd : decode cc pc = .ok (.getfield 19, 3)) (hn : pc + 3 = pc') (kk : SV E Γ nL (mm ci cl cr dy) nx ce sl pc' lv (.ref 47 :: st)) : SV E Γ nL (mm ci cl cr dy) nx ce sl pc lv (.ref 43 :: st) :=
  gt_X12_19 hΓ m_43 rfl hd hn kk
theorem gt_X12_22 (hΓ : CK E RX12 cc nL ret nm d mc ms Γ) {a : Nat} {fs : List Value} {v : Value} (hM : M a = some (.inr (11, fs))) (hv : fs[6]? = some v) (hd : decode cc pc = .ok (.getfield 22, 3)) (hn : pc + 3 = pc') (kk : SV E Γ nL M nx ce sl pc' lv (v :: st)) : SV E Γ nL M nx ce sl pc lv (.ref a :: st) :=
  sv_get hΓ i_X12 rfl 6 (by decide) tb_952 rfl hM hv hd hn kk
theorem g_X12_22_43 (hΓ : CK E RX12 cc nL ret nm d mc ms Γ) (hd : decode cc pc = .ok (.getfield 22, 3)) (hn : pc + 3 = pc') (kk : SV E Γ nL (mm ci cl cr dy) nx ce sl pc' lv (.ref 48 :: st)) : SV E Γ nL (mm ci cl cr dy) nx ce sl pc lv (.ref 43 :: st) :=
  gt_X12_22 hΓ m_43 rfl hd hn kk
theorem gt_X12_26 (hΓ : CK E RX12 cc nL ret nm d mc ms Γ) {a : Nat} {fs : List Value} {v : Value} (hM : M a = some (.inr (11, fs))) (hv : fs[7]? = some v) (hd : decode cc pc = .ok (.getfield 26, 3)) (hn : pc + 3 = pc') (kk : SV E Γ nL M nx ce sl pc' lv (v :: st)) : SV E Γ nL M nx ce sl pc lv (.ref a :: st) :=
  sv_get hΓ i_X12 rfl 7 (by decide) tb_953 rfl hM hv hd hn kk
theorem g_X12_26_43 (hΓ : CK E RX12 cc nL ret nm d mc ms Γ) (hd : decode cc pc = .ok (.getfield 26, 3)) (hn : pc + 3 = pc') (kk : SV E Γ nL (mm ci cl cr dy) nx ce sl pc' lv (.ref 49 :: st)) : SV E Γ nL (mm ci cl cr dy) nx ce sl pc lv (.ref 43 :: st) :=
  gt_X12_26 hΓ m_43 rfl hd hn kk
theorem gt_X12_29 (hΓ : CK E RX12 cc nL ret nm d mc ms Γ) {a : Nat} {fs : List Value} {v : Value} (hM : M a = some (.inr (11, fs))) (hv : fs[8]? = some v) (hd : decode cc pc = .ok (.getfield 29, 3)) (hn : pc + 3 = pc') (kk : SV E Γ nL M nx ce sl pc' lv (v :: st)) : SV E Γ nL M nx ce sl pc lv (.ref a :: st) :=
  sv_get hΓ i_X12 rfl 8 (by decide) tb_954 rfl hM hv hd hn kk
theorem g_X12_29_43 (hΓ : CK E RX12 cc nL ret nm d mc ms Γ) (hd : decode cc pc = .ok (.getfield 29, 3)) (hn : pc + 3 = pc') (kk : SV E Γ nL (mm ci cl cr dy) nx ce sl pc' lv (.ref 50 :: st)) : SV E Γ nL (mm ci cl cr dy) nx ce sl pc lv (.ref 43 :: st) :=
  gt_X12_29 hΓ m_43 rfl hd hn kk
theorem gt_X12_32 (hΓ : CK E RX12 cc nL ret nm d mc ms Γ) {a : Nat} {fs : List Value} {v : Value} (hM : M a = some (.inr (11, fs))) (hv : fs[9]? = some v) (hd : decode cc pc = .ok (.getfield 32, 3)) (hn : pc + 3 = pc') (kk : SV E Γ nL M nx ce sl pc' lv (v :: st)) : SV E Γ nL M nx ce sl pc lv (.ref a :: st) :=
  sv_get hΓ i_X12 rfl 9 (by decide) tb_955 rfl hM hv hd hn kk
theorem g_X12_32_43 (hΓ : CK E RX12 cc nL ret nm d mc ms Γ) (hd : decode cc pc = .ok (.getfield 32, 3)) (hn : pc + 3 = pc') (kk : SV E Γ nL (mm ci cl cr dy) nx ce sl pc' lv (.ref 51 :: st)) : SV E Γ nL (mm ci cl cr dy) nx ce sl pc lv (.ref 43 :: st) :=
  gt_X12_32 hΓ m_43 rfl hd hn kk
theorem gt_X12_36 (hΓ : CK E RX12 cc nL ret nm d mc ms Γ) {a : Nat} {fs : List Value} {v : Value} (hM : M a = some (.inr (11, fs))) (hv : fs[10]? = some v) (hd : decode cc pc = .ok (.getfield 36, 3)) (hn : pc + 3 = pc') (kk : SV E Γ nL M nx ce sl pc' lv (v :: st)) : SV E Γ nL M nx ce sl pc lv (.ref a :: st) :=
  sv_get hΓ i_X12 rfl 10 (by decide) tb_956 rfl hM hv hd hn kk
theorem g_X12_36_43 (hΓ : CK E RX12 cc nL ret nm d mc ms Γ) (hd : decode cc pc = .ok (.getfield 36, 3)) (hn : pc + 3 = pc') (kk : SV E Γ nL (mm ci cl cr dy) nx ce sl pc' lv (.ref 52 :: st)) : SV E Γ nL (mm ci cl cr dy) nx ce sl pc lv (.ref 43 :: st) :=
  gt_X12_36 hΓ m_43 rfl hd hn kk
theorem gt_X12_39 (hΓ : CK E RX12 cc nL ret nm d mc ms Γ) {a : Nat} {fs : List Value} {v : Value} (hM : M a = some (.inr (11, fs))) (hv : fs[11]? = some v) (hd : decode cc pc = .ok (.getfield 39, 3)) (hn : pc + 3 = pc') (kk : SV E Γ nL M nx ce sl pc' lv (v :: st)) : SV E Γ nL M nx ce sl pc lv (.ref a :: st) :=
  sv_get hΓ i_X12 rfl 11 (by decide) tb_957 rfl hM hv hd hn kk
theorem g_X12_39_43 (hΓ : CK E RX12 cc nL ret nm d mc ms Γ) (hd : decode cc pc = .ok (.getfield 39, 3)) (hn : pc + 3 = pc') (kk : SV E Γ nL (mm ci cl cr dy) nx ce sl pc' lv (.ref 53 :: st)) : SV E Γ nL (mm ci cl cr dy) nx ce sl pc lv (.ref 43 :: st) :=
  gt_X12_39 hΓ m_43 rfl hd hn kk
theorem gt_X12_42 (hΓ : CK E RX12 cc nL ret nm d mc ms Γ) {a : Nat} {fs : List Value} {v : Value} (hM : M a = some (.inr (11, fs))) (hv : fs[12]? = some v) (hd : decode cc pc = .ok (.getfield 42, 3)) (hn : pc + 3 = pc') (kk : SV E Γ nL M nx ce sl pc' lv (v :: st)) : SV E Γ nL M nx ce sl pc lv (.ref a :: st) :=
  sv_get hΓ i_X12 rfl 12 (by decide) tb_958 rfl hM hv hd hn kk
theorem g_X12_42_43 (hΓ : CK E RX12 cc nL ret nm d mc ms Γ) (hd : decode cc pc = .ok (.getfield 42, 3)) (hn : pc + 3 = pc') (kk : SV E Γ nL (mm ci cl cr dy) nx ce sl pc' lv (.ref 54 :: st)) : SV E Γ nL (mm ci cl cr dy) nx ce sl pc lv (.ref 43 :: st) :=
  gt_X12_42 hΓ m_43 rfl hd hn kk
theorem gt_X12_45 (hΓ : CK E RX12 cc nL ret nm d mc ms Γ) {a : Nat} {fs : List Value} {v : Value} (hM : M a = some (.inr (11, fs))) (hv : fs[14]? = some v) (hd : decode cc pc = .ok (.getfield 45, 3)) (hn : pc + 3 = pc') (kk : SV E Γ nL M nx ce sl pc' lv (v :: st)) : SV E Γ nL M nx ce sl pc lv (.ref a :: st) :=
  sv_get hΓ i_X12 rfl 14 (by decide) tb_960 rfl hM hv hd hn kk
theorem g_X12_45_43 (hΓ : CK E RX12 cc nL ret nm d mc ms Γ) (hd : decode cc pc = .ok (.getfield 45, 3)) (hn : pc + 3 = pc') (kk : SV E Γ nL (mm ci cl cr dy) nx ce sl pc' lv (.ref 55 :: st)) : SV E Γ nL (mm ci cl cr dy) nx ce sl pc lv (.ref 43 :: st) :=
  gt_X12_45 hΓ m_43 rfl hd hn kk
theorem gt_X12_48 (hΓ : CK E RX12 cc nL ret nm d mc ms Γ) {a : Nat} {fs : List Value} {v : Value} (hM : M a = some (.inr (11, fs))) (hv : fs[15]? = some v) (hd : decode cc pc = .ok (.getfield 48, 3)) (hn : pc + 3 = pc') (kk : SV E Γ nL M nx ce sl pc' lv (v :: st)) : SV E Γ nL M nx ce sl pc lv (.ref a :: st) :=
  sv_get hΓ i_X12 rfl 15 (by decide) tb_961 rfl hM hv hd hn kk
theorem g_X12_48_43 (hΓ : CK E RX12 cc nL ret nm d mc ms Γ) (hd : decode cc pc = .ok (.getfield 48, 3)) (hn : pc + 3 = pc') (kk : SV E Γ nL (mm ci cl cr dy) nx ce sl pc' lv (.ref 56 :: st)) : SV E Γ nL (mm ci cl cr dy) nx ce sl pc lv (.ref 43 :: st) :=
  gt_X12_48 hΓ m_43 rfl hd hn kk
theorem gt_X12_51 (hΓ : CK E RX12 cc nL ret nm d mc ms Γ) {a : Nat} {fs : List Value} {v : Value} (hM : M a = some (.inr (11, fs))) (hv : fs[17]? = some v) (hd : decode cc pc = .ok (.getfield 51, 3)) (hn : pc + 3 = pc') (kk : SV E Γ nL M nx ce sl pc' lv (v :: st)) : SV E Γ nL M nx ce sl pc lv (.ref a :: st) :=
  sv_get hΓ i_X12 rfl 17 (by decide) tb_963 rfl hM hv hd hn kk
theorem g_X12_51_43 (hΓ : CK E RX12 cc nL ret nm d mc ms Γ) (hd : decode cc pc = .ok (.getfield 51, 3)) (hn : pc + 3 = pc') (kk : SV E Γ nL (mm ci cl cr dy) nx ce sl pc' lv (.ref 57 :: st)) : SV E Γ nL (mm ci cl cr dy) nx ce sl pc lv (.ref 43 :: st) :=
  gt_X12_51 hΓ m_43 rfl hd hn kk
theorem gt_X12_54 (hΓ : CK E RX12 cc nL ret nm d mc ms Γ) {a : Nat} {fs : List Value} {v : Value} (hM : M a = some (.inr (11, fs))) (hv : fs[24]? = some v) (hd : decode cc pc = .ok (.getfield 54, 3)) (hn : pc + 3 = pc') (kk : SV E Γ nL M nx ce sl pc' lv (v :: st)) : SV E Γ nL M nx ce sl pc lv (.ref a :: st) :=
  sv_get hΓ i_X12 rfl 24 (by decide) tb_970 rfl hM hv hd hn kk
theorem g_X12_54_43 (hΓ : CK E RX12 cc nL ret nm d mc ms Γ) (hd : decode cc pc = .ok (.getfield 54, 3)) (hn : pc + 3 = pc') (kk : SV E Γ nL (mm ci cl cr dy) nx ce sl pc' lv (.ref 58 :: st)) : SV E Γ nL (mm ci cl cr dy) nx ce sl pc lv (.ref 43 :: st) :=
  gt_X12_54 hΓ m_43 rfl hd hn kk
theorem gt_X12_57 (hΓ : CK E RX12 cc nL ret nm d mc ms Γ) {a : Nat} {fs : List Value} {v : Value} (hM : M a = some (.inr (11, fs))) (hv : fs[25]? = some v) (hd : decode cc pc = .ok (.getfield 57, 3)) (hn : pc + 3 = pc') (kk : SV E Γ nL M nx ce sl pc' lv (v :: st)) : SV E Γ nL M nx ce sl pc lv (.ref a :: st) :=
  sv_get hΓ i_X12 rfl 25 (by decide) tb_971 rfl hM hv hd hn kk
theorem g_X12_57_43 (hΓ : CK E RX12 cc nL ret nm d mc ms Γ) (hd : decode cc pc = .ok (.getfield 57, 3)) (hn : pc + 3 = pc') (kk : SV E Γ nL (mm ci cl cr dy) nx ce sl pc' lv (.ref 59 :: st)) : SV E Γ nL (mm ci cl cr dy) nx ce sl pc lv (.ref 43 :: st) :=
  gt_X12_57 hΓ m_43 rfl hd hn kk
theorem gt_X12_60 (hΓ : CK E RX12 cc nL ret nm d mc ms Γ) {a : Nat} {fs : List Value} {v : Value} (hM : M a = some (.inr (11, fs))) (hv : fs[26]? = some v) (hd : decode cc pc = .ok (.getfield 60, 3)) (hn : pc + 3 = pc') (kk : SV E Γ nL M nx ce sl pc' lv (v :: st)) : SV E Γ nL M nx ce sl pc lv (.ref a :: st) :=
  sv_get hΓ i_X12 rfl 26 (by decide) tb_972 rfl hM hv hd hn kk
theorem g_X12_60_43 (hΓ : CK E RX12 cc nL ret nm d mc ms Γ) (hd : decode cc pc = .ok (.getfield 60, 3)) (hn : pc + 3 = pc') (kk : SV E Γ nL (mm ci cl cr dy) nx ce sl pc' lv (.ref 60 :: st)) : SV E Γ nL (mm ci cl cr dy) nx ce sl pc lv (.ref 43 :: st) :=
  gt_X12_60 hΓ m_43 rfl hd hn kk
theorem gt_X12_63 (hΓ : CK E RX12 cc nL ret nm d mc ms Γ) {a : Nat} {fs : List Value} {v : Value} (hM : M a = some (.inr (11, fs))) (hv : fs[27]? = some v) (hd : decode cc pc = .ok (.getfield 63, 3)) (hn : pc + 3 = pc') (kk : SV E Γ nL M nx ce sl pc' lv (v :: st)) : SV E Γ nL M nx ce sl pc lv (.ref a :: st) :=
  sv_get hΓ i_X12 rfl 27 (by decide) tb_973 rfl hM hv hd hn kk
theorem g_X12_63_43 (hΓ : CK E RX12 cc nL ret nm d mc ms Γ) (hd : decode cc pc = .ok (.getfield 63, 3)) (hn : pc + 3 = pc') (kk : SV E Γ nL (mm ci cl cr dy) nx ce sl pc' lv (.ref 61 :: st)) : SV E Γ nL (mm ci cl cr dy) nx ce sl pc lv (.ref 43 :: st) :=
  gt_X12_63 hΓ m_43 rfl hd hn kk
theorem gt_X12_66 (hΓ : CK E RX12 cc nL ret nm d mc ms Γ) {a : Nat} {fs : List Value} {v : Value} (hM : M a = some (.inr (11, fs))) (hv : fs[28]? = some v) (hd : decode cc pc = .ok (.getfield 66, 3)) (hn : pc + 3 = pc') (kk : SV E Γ nL M nx ce sl pc' lv (v :: st)) : SV E Γ nL M nx ce sl pc lv (.ref a :: st) :=
  sv_get hΓ i_X12 rfl 28 (by decide) tb_974 rfl hM hv hd hn kk
theorem g_X12_66_43 (hΓ : CK E RX12 cc nL ret nm d mc ms Γ) (hd : decode cc pc = .ok (.getfield 66, 3)) (hn : pc + 3 = pc') (kk : SV E Γ nL (mm ci cl cr dy) nx ce sl pc' lv (.ref 62 :: st)) : SV E Γ nL (mm ci cl cr dy) nx ce sl pc lv (.ref 43 :: st) :=
  gt_X12_66 hΓ m_43 rfl hd hn kk
theorem gt_X12_69 (hΓ : CK E RX12 cc nL ret nm d mc ms Γ) {a : Nat} {fs : List Value} {v : Value} (hM : M a = some (.inr (11, fs))) (hv : fs[31]? = some v) (hd : decode cc pc = .ok (.getfield 69, 3)) (hn : pc + 3 = pc') (kk : SV E Γ nL M nx ce sl pc' lv (v :: st)) : SV E Γ nL M nx ce sl pc lv (.ref a :: st) :=
  sv_get hΓ i_X12 rfl 31 (by decide) tb_977 rfl hM hv hd hn kk
theorem g_X12_69_43 (hΓ : CK E RX12 cc nL ret nm d mc ms Γ) (hd : decode cc pc = .ok (.getfield 69, 3)) (hn : pc + 3 = pc') (kk : SV E Γ nL (mm ci cl cr dy) nx ce sl pc' lv (.ref 63 :: st)) : SV E Γ nL (mm ci cl cr dy) nx ce sl pc lv (.ref 43 :: st) :=
  gt_X12_69 hΓ m_43 rfl hd hn kk
theorem gt_X12_72 (hΓ : CK E RX12 cc nL ret nm d mc ms Γ) {a : Nat} {fs : List Value} {v : Value} (hM : M a = some (.inr (11, fs))) (hv : fs[32]? = some v) (hd : decode cc pc = .ok (.getfield 72, 3)) (hn : pc + 3 = pc') (kk : SV E Γ nL M nx ce sl pc' lv (v :: st)) : SV E Γ nL M nx ce sl pc lv (.ref a :: st) :=
  sv_get hΓ i_X12 rfl 32 (by decide) tb_978 rfl hM hv hd hn kk
theorem g_X12_72_43 (hΓ : CK E RX12 cc nL ret nm d mc ms Γ) (hd : decode cc pc = .ok (.getfield 72, 3)) (hn : pc + 3 = pc') (kk : SV E Γ nL (mm ci cl cr dy) nx ce sl pc' lv (.ref 64 :: st)) : SV E Γ nL (mm ci cl cr dy) nx ce sl pc lv (.ref 43 :: st) :=
  gt_X12_72 hΓ m_43 rfl hd hn kk
theorem gt_X12_75 (hΓ : CK E RX12 cc nL ret nm d mc ms Γ) {a : Nat} {fs : List Value} {v : Value} (hM : M a = some (.inr (11, fs))) (hv : fs[33]? = some v) (hd : decode cc pc = .ok (.getfield 75, 3)) (hn : pc + 3 = pc') (kk : SV E Γ nL M nx ce sl pc' lv (v :: st)) : SV E Γ nL M nx ce sl pc lv (.ref a :: st) :=
  sv_get hΓ i_X12 rfl 33 (by decide) tb_979 rfl hM hv hd hn kk
theorem g_X12_75_43 (hΓ : CK E RX12 cc nL ret nm d mc ms Γ) (hd : decode cc pc = .ok (.getfield 75, 3)) (hn : pc + 3 = pc') (kk : SV E Γ nL (mm ci cl cr dy) nx ce sl pc' lv (.ref 65 :: st)) : SV E Γ nL (mm ci cl cr dy) nx ce sl pc lv (.ref 43 :: st) :=
  gt_X12_75 hΓ m_43 rfl hd hn kk
theorem gt_X12_78 (hΓ : CK E RX12 cc nL ret nm d mc ms Γ) {a : Nat} {fs : List Value} {v : Value} (hM : M a = some (.inr (11, fs))) (hv : fs[34]? = some v) (hd : decode cc pc = .ok (.getfield 78, 3)) (hn : pc + 3 = pc') (kk : SV E Γ nL M nx ce sl pc' lv (v :: st)) : SV E Γ nL M nx ce sl pc lv (.ref a :: st) :=
  sv_get hΓ i_X12 rfl 34 (by decide) tb_980 rfl hM hv hd hn kk
theorem g_X12_78_43 (hΓ : CK E RX12 cc nL ret nm d mc ms Γ) (hd : decode cc pc = .ok (.getfield 78, 3)) (hn : pc + 3 = pc') (kk : SV E Γ nL (mm ci cl cr dy) nx ce sl pc' lv (.ref 66 :: st)) : SV E Γ nL (mm ci cl cr dy) nx ce sl pc lv (.ref 43 :: st) :=
  gt_X12_78 hΓ m_43 rfl hd hn kk
theorem gt_X12_81 (hΓ : CK E RX12 cc nL ret nm d mc ms Γ) {a : Nat} {fs : List Value} {v : Value} (hM : M a = some (.inr (11, fs))) (hv : fs[35]? = some v) (hd : decode cc pc = .ok (.getfield 81, 3)) (hn : pc + 3 = pc') (kk : SV E Γ nL M nx ce sl pc' lv (v :: st)) : SV E Γ nL M nx ce sl pc lv (.ref a :: st) :=
  sv_get hΓ i_X12 rfl 35 (by decide) tb_981 rfl hM hv hd hn kk
theorem g_X12_81_43 (hΓ : CK E RX12 cc nL ret nm d mc ms Γ) (hd : decode cc pc = .ok (.getfield 81, 3)) (hn : pc + 3 = pc') (kk : SV E Γ nL (mm ci cl cr dy) nx ce sl pc' lv (.ref 67 :: st)) : SV E Γ nL (mm ci cl cr dy) nx ce sl pc lv (.ref 43 :: st) :=
  gt_X12_81 hΓ m_43 rfl hd hn kk
theorem gt_X12_84 (hΓ : CK E RX12 cc nL ret nm d mc ms Γ) {a : Nat} {fs : List Value} {v : Value} (hM : M a = some (.inr (11, fs))) (hv : fs[36]? = some v) (hd : decode cc pc = .ok (.getfield 84, 3)) (hn : pc + 3 = pc') (kk : SV E Γ nL M nx ce sl pc' lv (v :: st)) : SV E Γ nL M nx ce sl pc lv (.ref a :: st) :=
  sv_get hΓ i_X12 rfl 36 (by decide) tb_982 rfl hM hv hd hn kk
theorem g_X12_84_43 (hΓ : CK E RX12 cc nL ret nm d mc ms Γ) (hd : decode cc pc = .ok (.getfield 84, 3)) (hn : pc + 3 = pc') (kk : SV E Γ nL (mm ci cl cr dy) nx ce sl pc' lv (.ref 68 :: st)) : SV E Γ nL (mm ci cl cr dy) nx ce sl pc lv (.ref 43 :: st) :=
  gt_X12_84 hΓ m_43 rfl hd hn kk
theorem gt_X12_87 (hΓ : CK E RX12 cc nL ret nm d mc ms Γ) {a : Nat} {fs : List Value} {v : Value} (hM : M a = some (.inr (11, fs))) (hv : fs[37]? = some v) (hd : decode cc pc = .ok (.getfield 87, 3)) (hn : pc + 3 = pc') (kk : SV E Γ nL M nx ce sl pc' lv (v :: st)) : SV E Γ nL M nx ce sl pc lv (.ref a :: st) :=
  sv_get hΓ i_X12 rfl 37 (by decide) tb_983 rfl hM hv hd hn kk
theorem g_X12_87_43 (hΓ : CK E RX12 cc nL ret nm d mc ms Γ) (hd : decode cc pc = .ok (.getfield 87, 3)) (hn : pc + 3 = pc') (kk : SV E Γ nL (mm ci cl cr dy) nx ce sl pc' lv (.ref 69 :: st)) : SV E Γ nL (mm ci cl cr dy) nx ce sl pc lv (.ref 43 :: st) :=
  gt_X12_87 hΓ m_43 rfl hd hn kk
theorem gt_X12_90 (hΓ : CK E RX12 cc nL ret nm d mc ms Γ) {a : Nat} {fs : List Value} {v : Value} (hM : M a = some (.inr (11, fs))) (hv : fs[38]? = some v) (hd : decode cc pc = .ok (.getfield 90, 3)) (hn : pc + 3 = pc') (kk : SV E Γ nL M nx ce sl pc' lv (v :: st)) : SV E Γ nL M nx ce sl pc lv (.ref a :: st) :=
  sv_get hΓ i_X12 rfl 38 (by decide) tb_984 rfl hM hv hd hn kk
theorem g_X12_90_43 (hΓ : CK E RX12 cc nL ret nm d mc ms Γ) (hd : decode cc pc = .ok (.getfield 90, 3)) (hn : pc + 3 = pc') (kk : SV E Γ nL (mm ci cl cr dy) nx ce sl pc' lv (.ref 70 :: st)) : SV E Γ nL (mm ci cl cr dy) nx ce sl pc lv (.ref 43 :: st) :=
  gt_X12_90 hΓ m_43 rfl hd hn kk
theorem gt_X12_93 (hΓ : CK E RX12 cc nL ret nm d mc ms Γ) {a : Nat} {fs : List Value} {v : Value} (hM : M a = some (.inr (11, fs))) (hv : fs[39]? = some v) (hd : decode cc pc = .ok (.getfield 93, 3)) (hn : pc + 3 = pc') (kk : SV E Γ nL M nx ce sl pc' lv (v :: st)) : SV E Γ nL M nx ce sl pc lv (.ref a :: st) :=
  sv_get hΓ i_X12 rfl 39 (by decide) tb_985 rfl hM hv hd hn kk
theorem g_X12_93_43 (hΓ : CK E RX12 cc nL ret nm d mc ms Γ) (hd : decode cc pc = .ok (.getfield 93, 3)) (hn : pc + 3 = pc') (kk : SV E Γ nL (mm ci cl cr dy) nx ce sl pc' lv (.ref 71 :: st)) : SV E Γ nL (mm ci cl cr dy) nx ce sl pc lv (.ref 43 :: st) :=
  gt_X12_93 hΓ m_43 rfl hd hn kk
theorem gt_X12_96 (hΓ : CK E RX12 cc nL ret nm d mc ms Γ) {a : Nat} {fs : List Value} {v : Value} (hM : M a = some (.inr (11, fs))) (hv : fs[40]? = some v) (hd : decode cc pc = .ok (.getfield 96, 3)) (hn : pc + 3 = pc') (kk : SV E Γ nL M nx ce sl pc' lv (v :: st)) : SV E Γ nL M nx ce sl pc lv (.ref a :: st) :=
  sv_get hΓ i_X12 rfl 40 (by decide) tb_986 rfl hM hv hd hn kk
theorem g_X12_96_43 (hΓ : CK E RX12 cc nL ret nm d mc ms Γ) (hd : decode cc pc = .ok (.getfield 96, 3)) (hn : pc + 3 = pc') (kk : SV E Γ nL (mm ci cl cr dy) nx ce sl pc' lv (.ref 72 :: st)) : SV E Γ nL (mm ci cl cr dy) nx ce sl pc lv (.ref 43 :: st) :=
  gt_X12_96 hΓ m_43 rfl hd hn kk
theorem gt_X12_99 (hΓ : CK E RX12 cc nL ret nm d mc ms Γ) {a : Nat} {fs : List Value} {v : Value} (hM : M a = some (.inr (11, fs))) (hv : fs[0]? = some v) (hd : decode cc pc = .ok (.getfield 99, 3)) (hn : pc + 3 = pc') (kk : SV E Γ nL M nx ce sl pc' lv (v :: st)) : SV E Γ nL M nx ce sl pc lv (.ref a :: st) :=
  sv_get hΓ i_X12 rfl 0 (by decide) tb_946 rfl hM hv hd hn kk
theorem g_X12_99_43 (hΓ : CK E RX12 cc nL ret nm d mc ms Γ) (hd : decode cc pc = .ok (.getfield 99, 3)) (hn : pc + 3 = pc') (kk : SV E Γ nL (mm ci cl cr dy) nx ce sl pc' lv (.int (ci 43 0) :: st)) : SV E Γ nL (mm ci cl cr dy) nx ce sl pc lv (.ref 43 :: st) :=
  gt_X12_99 hΓ m_43 rfl hd hn kk
theorem gt_X12_103 (hΓ : CK E RX12 cc nL ret nm d mc ms Γ) {a : Nat} {fs : List Value} {v : Value} (hM : M a = some (.inr (11, fs))) (hv : fs[1]? = some v) (hd : decode cc pc = .ok (.getfield 103, 3)) (hn : pc + 3 = pc') (kk : SV E Γ nL M nx ce sl pc' lv (v :: st)) : SV E Γ nL M nx ce sl pc lv (.ref a :: st) :=
  sv_get hΓ i_X12 rfl 1 (by decide) tb_947 rfl hM hv hd hn kk
theorem g_X12_103_43 (hΓ : CK E RX12 cc nL ret nm d mc ms Γ) (hd : decode cc pc = .ok (.getfield 103, 3)) (hn : pc + 3 = pc') (kk : SV E Γ nL (mm ci cl cr dy) nx ce sl pc' lv (.int (ci 43 1) :: st)) : SV E Γ nL (mm ci cl cr dy) nx ce sl pc lv (.ref 43 :: st) :=
  gt_X12_103 hΓ m_43 rfl hd hn kk
theorem gt_X12_106 (hΓ : CK E RX12 cc nL ret nm d mc ms Γ) {a : Nat} {fs : List Value} {v : Value} (hM : M a = some (.inr (11, fs))) (hv : fs[13]? = some v) (hd : decode cc pc = .ok (.getfield 106, 3)) (hn : pc + 3 = pc') (kk : SV E Γ nL M nx ce sl pc' lv (v :: st)) : SV E Γ nL M nx ce sl pc lv (.ref a :: st) :=
  sv_get hΓ i_X12 rfl 13 (by decide) tb_959 rfl hM hv hd hn kk
theorem g_X12_106_43 (hΓ : CK E RX12 cc nL ret nm d mc ms Γ) (hd : decode cc pc = .ok (.getfield 106, 3)) (hn : pc + 3 = pc') (kk : SV E Γ nL (mm ci cl cr dy) nx ce sl pc' lv (.int (ci 43 13) :: st)) : SV E Γ nL (mm ci cl cr dy) nx ce sl pc lv (.ref 43 :: st) :=
  gt_X12_106 hΓ m_43 rfl hd hn kk
theorem gt_X12_110 (hΓ : CK E RX12 cc nL ret nm d mc ms Γ) {a : Nat} {fs : List Value} {v : Value} (hM : M a = some (.inr (11, fs))) (hv : fs[19]? = some v) (hd : decode cc pc = .ok (.getfield 110, 3)) (hn : pc + 3 = pc') (kk : SV E Γ nL M nx ce sl pc' lv (v :: st)) : SV E Γ nL M nx ce sl pc lv (.ref a :: st) :=
  sv_get hΓ i_X12 rfl 19 (by decide) tb_965 rfl hM hv hd hn kk
theorem g_X12_110_43 (hΓ : CK E RX12 cc nL ret nm d mc ms Γ) (hd : decode cc pc = .ok (.getfield 110, 3)) (hn : pc + 3 = pc') (kk : SV E Γ nL (mm ci cl cr dy) nx ce sl pc' lv (.int (ci 43 19) :: st)) : SV E Γ nL (mm ci cl cr dy) nx ce sl pc lv (.ref 43 :: st) :=
  gt_X12_110 hΓ m_43 rfl hd hn kk
theorem gt_X12_150 (hΓ : CK E RX12 cc nL ret nm d mc ms Γ) {a : Nat} {fs : List Value} {v : Value} (hM : M a = some (.inr (11, fs))) (hv : fs[29]? = some v) (hd : decode cc pc = .ok (.getfield 150, 3)) (hn : pc + 3 = pc') (kk : SV E Γ nL M nx ce sl pc' lv (v :: st)) : SV E Γ nL M nx ce sl pc lv (.ref a :: st) :=
  sv_get hΓ i_X12 rfl 29 (by decide) tb_975 rfl hM hv hd hn kk
theorem g_X12_150_43 (hΓ : CK E RX12 cc nL ret nm d mc ms Γ) (hd : decode cc pc = .ok (.getfield 150, 3)) (hn : pc + 3 = pc') (kk : SV E Γ nL (mm ci cl cr dy) nx ce sl pc' lv (.long (cl 43 29) :: st)) : SV E Γ nL (mm ci cl cr dy) nx ce sl pc lv (.ref 43 :: st) :=
  gt_X12_150 hΓ m_43 rfl hd hn kk
theorem gt_X12_154 (hΓ : CK E RX12 cc nL ret nm d mc ms Γ) {a : Nat} {fs : List Value} {v : Value} (hM : M a = some (.inr (11, fs))) (hv : fs[30]? = some v) (hd : decode cc pc = .ok (.getfield 154, 3)) (hn : pc + 3 = pc') (kk : SV E Γ nL M nx ce sl pc' lv (v :: st)) : SV E Γ nL M nx ce sl pc lv (.ref a :: st) :=
  sv_get hΓ i_X12 rfl 30 (by decide) tb_976 rfl hM hv hd hn kk
theorem g_X12_154_43 (hΓ : CK E RX12 cc nL ret nm d mc ms Γ) (hd : decode cc pc = .ok (.getfield 154, 3)) (hn : pc + 3 = pc') (kk : SV E Γ nL (mm ci cl cr dy) nx ce sl pc' lv (.long (cl 43 30) :: st)) : SV E Γ nL (mm ci cl cr dy) nx ce sl pc lv (.ref 43 :: st) :=
  gt_X12_154 hΓ m_43 rfl hd hn kk
theorem gt_X12_207 (hΓ : CK E RX12 cc nL ret nm d mc ms Γ) {a : Nat} {fs : List Value} {v : Value} (hM : M a = some (.inr (11, fs))) (hv : fs[18]? = some v) (hd : decode cc pc = .ok (.getfield 207, 3)) (hn : pc + 3 = pc') (kk : SV E Γ nL M nx ce sl pc' lv (v :: st)) : SV E Γ nL M nx ce sl pc lv (.ref a :: st) :=
  sv_get hΓ i_X12 rfl 18 (by decide) tb_964 rfl hM hv hd hn kk
theorem g_X12_207_43 (hΓ : CK E RX12 cc nL ret nm d mc ms Γ) (hd : decode cc pc = .ok (.getfield 207, 3)) (hn : pc + 3 = pc') (kk : SV E Γ nL (mm ci cl cr dy) nx ce sl pc' lv (.int (ci 43 18) :: st)) : SV E Γ nL (mm ci cl cr dy) nx ce sl pc lv (.ref 43 :: st) :=
  gt_X12_207 hΓ m_43 rfl hd hn kk
theorem gt_X12_210 (hΓ : CK E RX12 cc nL ret nm d mc ms Γ) {a : Nat} {fs : List Value} {v : Value} (hM : M a = some (.inr (11, fs))) (hv : fs[16]? = some v) (hd : decode cc pc = .ok (.getfield 210, 3)) (hn : pc + 3 = pc') (kk : SV E Γ nL M nx ce sl pc' lv (v :: st)) : SV E Γ nL M nx ce sl pc lv (.ref a :: st) :=
  sv_get hΓ i_X12 rfl 16 (by decide) tb_962 rfl hM hv hd hn kk
theorem g_X12_210_43 (hΓ : CK E RX12 cc nL ret nm d mc ms Γ) (hd : decode cc pc = .ok (.getfield 210, 3)) (hn : pc + 3 = pc') (kk : SV E Γ nL (mm ci cl cr dy) nx ce sl pc' lv (.int (ci 43 16) :: st)) : SV E Γ nL (mm ci cl cr dy) nx ce sl pc lv (.ref 43 :: st) :=
  gt_X12_210 hΓ m_43 rfl hd hn kk
theorem gt_X12_247 (hΓ : CK E RX12 cc nL ret nm d mc ms Γ) {a : Nat} {fs : List Value} {v : Value} (hM : M a = some (.inr (11, fs))) (hv : fs[22]? = some v) (hd : decode cc pc = .ok (.getfield 247, 3)) (hn : pc + 3 = pc') (kk : SV E Γ nL M nx ce sl pc' lv (v :: st)) : SV E Γ nL M nx ce sl pc lv (.ref a :: st) :=
  sv_get hΓ i_X12 rfl 22 (by decide) tb_968 rfl hM hv hd hn kk
theorem g_X12_247_43 (hΓ : CK E RX12 cc nL ret nm d mc ms Γ) (hd : decode cc pc = .ok (.getfield 247, 3)) (hn : pc + 3 = pc') (kk : SV E Γ nL (mm ci cl cr dy) nx ce sl pc' lv (.int (ci 43 22) :: st)) : SV E Γ nL (mm ci cl cr dy) nx ce sl pc lv (.ref 43 :: st) :=
  gt_X12_247 hΓ m_43 rfl hd hn kk
theorem gt_X12_257 (hΓ : CK E RX12 cc nL ret nm d mc ms Γ) {a : Nat} {fs : List Value} {v : Value} (hM : M a = some (.inr (11, fs))) (hv : fs[20]? = some v) (hd : decode cc pc = .ok (.getfield 257, 3)) (hn : pc + 3 = pc') (kk : SV E Γ nL M nx ce sl pc' lv (v :: st)) : SV E Γ nL M nx ce sl pc lv (.ref a :: st) :=
  sv_get hΓ i_X12 rfl 20 (by decide) tb_966 rfl hM hv hd hn kk
theorem g_X12_257_43 (hΓ : CK E RX12 cc nL ret nm d mc ms Γ) (hd : decode cc pc = .ok (.getfield 257, 3)) (hn : pc + 3 = pc') (kk : SV E Γ nL (mm ci cl cr dy) nx ce sl pc' lv (.int (ci 43 20) :: st)) : SV E Γ nL (mm ci cl cr dy) nx ce sl pc lv (.ref 43 :: st) :=
  gt_X12_257 hΓ m_43 rfl hd hn kk
theorem gt_X12_260 (hΓ : CK E RX12 cc nL ret nm d mc ms Γ) {a : Nat} {fs : List Value} {v : Value} (hM : M a = some (.inr (11, fs))) (hv : fs[21]? = some v) (hd : decode cc pc = .ok (.getfield 260, 3)) (hn : pc + 3 = pc') (kk : SV E Γ nL M nx ce sl pc' lv (v :: st)) : SV E Γ nL M nx ce sl pc lv (.ref a :: st) :=
  sv_get hΓ i_X12 rfl 21 (by decide) tb_967 rfl hM hv hd hn kk
theorem g_X12_260_43 (hΓ : CK E RX12 cc nL ret nm d mc ms Γ) (hd : decode cc pc = .ok (.getfield 260, 3)) (hn : pc + 3 = pc') (kk : SV E Γ nL (mm ci cl cr dy) nx ce sl pc' lv (.int (ci 43 21) :: st)) : SV E Γ nL (mm ci cl cr dy) nx ce sl pc lv (.ref 43 :: st) :=
  gt_X12_260 hΓ m_43 rfl hd hn kk
theorem gt_X12_266 (hΓ : CK E RX12 cc nL ret nm d mc ms Γ) {a : Nat} {fs : List Value} {v : Value} (hM : M a = some (.inr (11, fs))) (hv : fs[23]? = some v) (hd : decode cc pc = .ok (.getfield 266, 3)) (hn : pc + 3 = pc') (kk : SV E Γ nL M nx ce sl pc' lv (v :: st)) : SV E Γ nL M nx ce sl pc lv (.ref a :: st) :=
  sv_get hΓ i_X12 rfl 23 (by decide) tb_969 rfl hM hv hd hn kk
theorem g_X12_266_43 (hΓ : CK E RX12 cc nL ret nm d mc ms Γ) (hd : decode cc pc = .ok (.getfield 266, 3)) (hn : pc + 3 = pc') (kk : SV E Γ nL (mm ci cl cr dy) nx ce sl pc' lv (.int (ci 43 23) :: st)) : SV E Γ nL (mm ci cl cr dy) nx ce sl pc lv (.ref 43 :: st) :=
  gt_X12_266 hΓ m_43 rfl hd hn kk
theorem pf_X12_7 (hΓ : CK E RX12 cc nL ret "<init>" d mc ms Γ) {a : Nat} {fs : List Value} {v : Value} (hM : M a = some (.inr (11, fs))) (hok : narrow (tyX12 2) (tv E v) = tv E v ∧ fits (tyX12 2) (tv E v) = true) (hlen : 2 < fs.length) (hd : decode cc pc = .ok (.putfield 7, 3)) (hn : pc + 3 = pc') (kk : SV E Γ nL (va_up M a (some (.inr (11, fs.set 2 v)))) nx ce sl pc' lv st) : SV E Γ nL M nx ce sl pc lv (v :: .ref a :: st) :=
  sv_putF hΓ i_X12 tyX12 tyX12_ok nmX12 rfl 2 (by decide) tb_948 rfl rfl rfl (by decide +kernel) hM hok hlen hd hn kk
theorem pf_X12_13 (hΓ : CK E RX12 cc nL ret "<init>" d mc ms Γ) {a : Nat} {fs : List Value} {v : Value} (hM : M a = some (.inr (11, fs))) (hok : narrow (tyX12 3) (tv E v) = tv E v ∧ fits (tyX12 3) (tv E v) = true) (hlen : 3 < fs.length) (hd : decode cc pc = .ok (.putfield 13, 3)) (hn : pc + 3 = pc') (kk : SV E Γ nL (va_up M a (some (.inr (11, fs.set 3 v)))) nx ce sl pc' lv st) : SV E Γ nL M nx ce sl pc lv (v :: .ref a :: st) :=
  sv_putF hΓ i_X12 tyX12 tyX12_ok nmX12 rfl 3 (by decide) tb_949 rfl rfl rfl (by decide +kernel) hM hok hlen hd hn kk
theorem pf_X12_16 (hΓ : CK E RX12 cc nL ret "<init>" d mc ms Γ) {a : Nat} {fs : List Value} {v : Value} (hM : M a = some (.inr (11, fs))) (hok : narrow (tyX12 4) (tv E v) = tv E v ∧ fits (tyX12 4) (tv E v) = true) (hlen : 4 < fs.length) (hd : decode cc pc = .ok (.putfield 16, 3)) (hn : pc + 3 = pc') (kk : SV E Γ nL (va_up M a (some (.inr (11, fs.set 4 v)))) nx ce sl pc' lv st) : SV E Γ nL M nx ce sl pc lv (v :: .ref a :: st) :=
  sv_putF hΓ i_X12 tyX12 tyX12_ok nmX12 rfl 4 (by decide) tb_950 rfl rfl rfl (by decide +kernel) hM hok hlen hd hn kk
theorem pf_X12_19 (hΓ : CK E RX12 cc nL ret "<init>" d mc ms Γ) {a : Nat} {fs : List Value} {v : Value} (hM : M a = some (.inr (11, fs))) (hok : narrow (tyX12 5) (tv E v) = tv E v ∧ fits (tyX12 5) (tv E v) = true) (hlen : 5 < fs.length) (hd : decode cc pc = .ok (.putfield 19, 3)) (hn : pc + 3 = pc') (kk : SV E Γ nL (va_up M a (some (.inr (11, fs.set 5 v)))) nx ce sl pc' lv st) : SV E Γ nL M nx ce sl pc lv (v :: .ref a :: st) :=
  sv_putF hΓ i_X12 tyX12 tyX12_ok nmX12 rfl 5 (by decide) tb_951 rfl rfl rfl (by decide +kernel) hM hok hlen hd hn kk
theorem pf_X12_22 (hΓ : CK E RX12 cc nL ret "<init>" d mc ms Γ) {a : Nat} {fs : List Value} {v : Value} (hM : M a = some (.inr (11, fs))) (hok : narrow (tyX12 6) (tv E v) = tv E v ∧ fits (tyX12 6) (tv E v) = true) (hlen : 6 < fs.length) (hd : decode cc pc = .ok (.putfield 22, 3)) (hn : pc + 3 = pc') (kk : SV E Γ nL (va_up M a (some (.inr (11, fs.set 6 v)))) nx ce sl pc' lv st) : SV E Γ nL M nx ce sl pc lv (v :: .ref a :: st) :=
  sv_putF hΓ i_X12 tyX12 tyX12_ok nmX12 rfl 6 (by decide) tb_952 rfl rfl rfl (by decide +kernel) hM hok hlen hd hn kk
theorem pf_X12_26 (hΓ : CK E RX12 cc nL ret "<init>" d mc ms Γ) {a : Nat} {fs : List Value} {v : Value} (hM : M a = some (.inr (11, fs))) (hok : narrow (tyX12 7) (tv E v) = tv E v ∧ fits (tyX12 7) (tv E v) = true) (hlen : 7 < fs.length) (hd : decode cc pc = .ok (.putfield 26, 3)) (hn : pc + 3 = pc') (kk : SV E Γ nL (va_up M a (some (.inr (11, fs.set 7 v)))) nx ce sl pc' lv st) : SV E Γ nL M nx ce sl pc lv (v :: .ref a :: st) :=
  sv_putF hΓ i_X12 tyX12 tyX12_ok nmX12 rfl 7 (by decide) tb_953 rfl rfl rfl (by decide +kernel) hM hok hlen hd hn kk
theorem pf_X12_29 (hΓ : CK E RX12 cc nL ret "<init>" d mc ms Γ) {a : Nat} {fs : List Value} {v : Value} (hM : M a = some (.inr (11, fs))) (hok : narrow (tyX12 8) (tv E v) = tv E v ∧ fits (tyX12 8) (tv E v) = true) (hlen : 8 < fs.length) (hd : decode cc pc = .ok (.putfield 29, 3)) (hn : pc + 3 = pc') (kk : SV E Γ nL (va_up M a (some (.inr (11, fs.set 8 v)))) nx ce sl pc' lv st) : SV E Γ nL M nx ce sl pc lv (v :: .ref a :: st) :=
  sv_putF hΓ i_X12 tyX12 tyX12_ok nmX12 rfl 8 (by decide) tb_954 rfl rfl rfl (by decide +kernel) hM hok hlen hd hn kk
theorem pf_X12_32 (hΓ : CK E RX12 cc nL ret "<init>" d mc ms Γ) {a : Nat} {fs : List Value} {v : Value} (hM : M a = some (.inr (11, fs))) (hok : narrow (tyX12 9) (tv E v) = tv E v ∧ fits (tyX12 9) (tv E v) = true) (hlen : 9 < fs.length) (hd : decode cc pc = .ok (.putfield 32, 3)) (hn : pc + 3 = pc') (kk : SV E Γ nL (va_up M a (some (.inr (11, fs.set 9 v)))) nx ce sl pc' lv st) : SV E Γ nL M nx ce sl pc lv (v :: .ref a :: st) :=
  sv_putF hΓ i_X12 tyX12 tyX12_ok nmX12 rfl 9 (by decide) tb_955 rfl rfl rfl (by decide +kernel) hM hok hlen hd hn kk
theorem pf_X12_36 (hΓ : CK E RX12 cc nL ret "<init>" d mc ms Γ) {a : Nat} {fs : List Value} {v : Value} (hM : M a = some (.inr (11, fs))) (hok : narrow (tyX12 10) (tv E v) = tv E v ∧ fits (tyX12 10) (tv E v) = true) (hlen : 10 < fs.length) (hd : decode cc pc = .ok (.putfield 36, 3)) (hn : pc + 3 = pc') (kk : SV E Γ nL (va_up M a (some (.inr (11, fs.set 10 v)))) nx ce sl pc' lv st) : SV E Γ nL M nx ce sl pc lv (v :: .ref a :: st) :=
  sv_putF hΓ i_X12 tyX12 tyX12_ok nmX12 rfl 10 (by decide) tb_956 rfl rfl rfl (by decide +kernel) hM hok hlen hd hn kk
theorem pf_X12_39 (hΓ : CK E RX12 cc nL ret "<init>" d mc ms Γ) {a : Nat} {fs : List Value} {v : Value} (hM : M a = some (.inr (11, fs))) (hok : narrow (tyX12 11) (tv E v) = tv E v ∧ fits (tyX12 11) (tv E v) = true) (hlen : 11 < fs.length) (hd : decode cc pc = .ok (.putfield 39, 3)) (hn : pc + 3 = pc') (kk : SV E Γ nL (va_up M a (some (.inr (11, fs.set 11 v)))) nx ce sl pc' lv st) : SV E Γ nL M nx ce sl pc lv (v :: .ref a :: st) :=
  sv_putF hΓ i_X12 tyX12 tyX12_ok nmX12 rfl 11 (by decide) tb_957 rfl rfl rfl (by decide +kernel) hM hok hlen hd hn kk
theorem pf_X12_42 (hΓ : CK E RX12 cc nL ret "<init>" d mc ms Γ) {a : Nat} {fs : List Value} {v : Value} (hM : M a = some (.inr (11, fs))) (hok : narrow (tyX12 12) (tv E v) = tv E v ∧ fits (tyX12 12) (tv E v) = true) (hlen : 12 < fs.length) (hd : decode cc pc = .ok (.putfield 42, 3)) (hn : pc + 3 = pc') (kk : SV E Γ nL (va_up M a (some (.inr (11, fs.set 12 v)))) nx ce sl pc' lv st) : SV E Γ nL M nx ce sl pc lv (v :: .ref a :: st) :=
  sv_putF hΓ i_X12 tyX12 tyX12_ok nmX12 rfl 12 (by decide) tb_958 rfl rfl rfl (by decide +kernel) hM hok hlen hd hn kk
theorem pf_X12_45 (hΓ : CK E RX12 cc nL ret "<init>" d mc ms Γ) {a : Nat} {fs : List Value} {v : Value} (hM : M a = some (.inr (11, fs))) (hok : narrow (tyX12 14) (tv E v) = tv E v ∧ fits (tyX12 14) (tv E v) = true) (hlen : 14 < fs.length) (hd : decode cc pc = .ok (.putfield 45, 3)) (hn : pc + 3 = pc') (kk : SV E Γ nL (va_up M a (some (.inr (11, fs.set 14 v)))) nx ce sl pc' lv st) : SV E Γ nL M nx ce sl pc lv (v :: .ref a :: st) :=
  sv_putF hΓ i_X12 tyX12 tyX12_ok nmX12 rfl 14 (by decide) tb_960 rfl rfl rfl (by decide +kernel) hM hok hlen hd hn kk
theorem pf_X12_48 (hΓ : CK E RX12 cc nL ret "<init>" d mc ms Γ) {a : Nat} {fs : List Value} {v : Value} (hM : M a = some (.inr (11, fs))) (hok : narrow (tyX12 15) (tv E v) = tv E v ∧ fits (tyX12 15) (tv E v) = true) (hlen : 15 < fs.length) (hd : decode cc pc = .ok (.putfield 48, 3)) (hn : pc + 3 = pc') (kk : SV E Γ nL (va_up M a (some (.inr (11, fs.set 15 v)))) nx ce sl pc' lv st) : SV E Γ nL M nx ce sl pc lv (v :: .ref a :: st) :=
  sv_putF hΓ i_X12 tyX12 tyX12_ok nmX12 rfl 15 (by decide) tb_961 rfl rfl rfl (by decide +kernel) hM hok hlen hd hn kk
theorem pf_X12_51 (hΓ : CK E RX12 cc nL ret "<init>" d mc ms Γ) {a : Nat} {fs : List Value} {v : Value} (hM : M a = some (.inr (11, fs))) (hok : narrow (tyX12 17) (tv E v) = tv E v ∧ fits (tyX12 17) (tv E v) = true) (hlen : 17 < fs.length) (hd : decode cc pc = .ok (.putfield 51, 3)) (hn : pc + 3 = pc') (kk : SV E Γ nL (va_up M a (some (.inr (11, fs.set 17 v)))) nx ce sl pc' lv st) : SV E Γ nL M nx ce sl pc lv (v :: .ref a :: st) :=
  sv_putF hΓ i_X12 tyX12 tyX12_ok nmX12 rfl 17 (by decide) tb_963 rfl rfl rfl (by decide +kernel) hM hok hlen hd hn kk
theorem pf_X12_54 (hΓ : CK E RX12 cc nL ret "<init>" d mc ms Γ) {a : Nat} {fs : List Value} {v : Value} (hM : M a = some (.inr (11, fs))) (hok : narrow (tyX12 24) (tv E v) = tv E v ∧ fits (tyX12 24) (tv E v) = true) (hlen : 24 < fs.length) (hd : decode cc pc = .ok (.putfield 54, 3)) (hn : pc + 3 = pc') (kk : SV E Γ nL (va_up M a (some (.inr (11, fs.set 24 v)))) nx ce sl pc' lv st) : SV E Γ nL M nx ce sl pc lv (v :: .ref a :: st) :=
  sv_putF hΓ i_X12 tyX12 tyX12_ok nmX12 rfl 24 (by decide) tb_970 rfl rfl rfl (by decide +kernel) hM hok hlen hd hn kk
theorem pf_X12_57 (hΓ : CK E RX12 cc nL ret "<init>" d mc ms Γ) {a : Nat} {fs : List Value} {v : Value} (hM : M a = some (.inr (11, fs))) (hok : narrow (tyX12 25) (tv E v) = tv E v ∧ fits (tyX12 25) (tv E v) = true) (hlen : 25 < fs.length) (hd : decode cc pc = .ok (.putfield 57, 3)) (hn : pc + 3 = pc') (kk : SV E Γ nL (va_up M a (some (.inr (11, fs.set 25 v)))) nx ce sl pc' lv st) : SV E Γ nL M nx ce sl pc lv (v :: .ref a :: st) :=
  sv_putF hΓ i_X12 tyX12 tyX12_ok nmX12 rfl 25 (by decide) tb_971 rfl rfl rfl (by decide +kernel) hM hok hlen hd hn kk
theorem pf_X12_60 (hΓ : CK E RX12 cc nL ret "<init>" d mc ms Γ) {a : Nat} {fs : List Value} {v : Value} (hM : M a = some (.inr (11, fs))) (hok : narrow (tyX12 26) (tv E v) = tv E v ∧ fits (tyX12 26) (tv E v) = true) (hlen : 26 < fs.length) (hd : decode cc pc = .ok (.putfield 60, 3)) (hn : pc + 3 = pc') (kk : SV E Γ nL (va_up M a (some (.inr (11, fs.set 26 v)))) nx ce sl pc' lv st) : SV E Γ nL M nx ce sl pc lv (v :: .ref a :: st) :=
  sv_putF hΓ i_X12 tyX12 tyX12_ok nmX12 rfl 26 (by decide) tb_972 rfl rfl rfl (by decide +kernel) hM hok hlen hd hn kk
theorem pf_X12_63 (hΓ : CK E RX12 cc nL ret "<init>" d mc ms Γ) {a : Nat} {fs : List Value} {v : Value} (hM : M a = some (.inr (11, fs))) (hok : narrow (tyX12 27) (tv E v) = tv E v ∧ fits (tyX12 27) (tv E v) = true) (hlen : 27 < fs.length) (hd : decode cc pc = .ok (.putfield 63, 3)) (hn : pc + 3 = pc') (kk : SV E Γ nL (va_up M a (some (.inr (11, fs.set 27 v)))) nx ce sl pc' lv st) : SV E Γ nL M nx ce sl pc lv (v :: .ref a :: st) :=
  sv_putF hΓ i_X12 tyX12 tyX12_ok nmX12 rfl 27 (by decide) tb_973 rfl rfl rfl (by decide +kernel) hM hok hlen hd hn kk
theorem pf_X12_66 (hΓ : CK E RX12 cc nL ret "<init>" d mc ms Γ) {a : Nat} {fs : List Value} {v : Value} (hM : M a = some (.inr (11, fs))) (hok : narrow (tyX12 28) (tv E v) = tv E v ∧ fits (tyX12 28) (tv E v) = true) (hlen : 28 < fs.length) (hd : decode cc pc = .ok (.putfield 66, 3)) (hn : pc + 3 = pc') (kk : SV E Γ nL (va_up M a (some (.inr (11, fs.set 28 v)))) nx ce sl pc' lv st) : SV E Γ nL M nx ce sl pc lv (v :: .ref a :: st) :=
  sv_putF hΓ i_X12 tyX12 tyX12_ok nmX12 rfl 28 (by decide) tb_974 rfl rfl rfl (by decide +kernel) hM hok hlen hd hn kk
theorem pf_X12_69 (hΓ : CK E RX12 cc nL ret "<init>" d mc ms Γ) {a : Nat} {fs : List Value} {v : Value} (hM : M a = some (.inr (11, fs))) (hok : narrow (tyX12 31) (tv E v) = tv E v ∧ fits (tyX12 31) (tv E v) = true) (hlen : 31 < fs.length) (hd : decode cc pc = .ok (.putfield 69, 3)) (hn : pc + 3 = pc') (kk : SV E Γ nL (va_up M a (some (.inr (11, fs.set 31 v)))) nx ce sl pc' lv st) : SV E Γ nL M nx ce sl pc lv (v :: .ref a :: st) :=
  sv_putF hΓ i_X12 tyX12 tyX12_ok nmX12 rfl 31 (by decide) tb_977 rfl rfl rfl (by decide +kernel) hM hok hlen hd hn kk
theorem pf_X12_72 (hΓ : CK E RX12 cc nL ret "<init>" d mc ms Γ) {a : Nat} {fs : List Value} {v : Value} (hM : M a = some (.inr (11, fs))) (hok : narrow (tyX12 32) (tv E v) = tv E v ∧ fits (tyX12 32) (tv E v) = true) (hlen : 32 < fs.length) (hd : decode cc pc = .ok (.putfield 72, 3)) (hn : pc + 3 = pc') (kk : SV E Γ nL (va_up M a (some (.inr (11, fs.set 32 v)))) nx ce sl pc' lv st) : SV E Γ nL M nx ce sl pc lv (v :: .ref a :: st) :=
  sv_putF hΓ i_X12 tyX12 tyX12_ok nmX12 rfl 32 (by decide) tb_978 rfl rfl rfl (by decide +kernel) hM hok hlen hd hn kk
theorem pf_X12_75 (hΓ : CK E RX12 cc nL ret "<init>" d mc ms Γ) {a : Nat} {fs : List Value} {v : Value} (hM : M a = some (.inr (11, fs))) (hok : narrow (tyX12 33) (tv E v) = tv E v ∧ fits (tyX12 33) (tv E v) = true) (hlen : 33 < fs.length) (hd : decode cc pc = .ok (.putfield 75, 3)) (hn : pc + 3 = pc') (kk : SV E Γ nL (va_up M a (some (.inr (11, fs.set 33 v)))) nx ce sl pc' lv st) : SV E Γ nL M nx ce sl pc lv (v :: .ref a :: st) :=
  sv_putF hΓ i_X12 tyX12 tyX12_ok nmX12 rfl 33 (by decide) tb_979 rfl rfl rfl (by decide +kernel) hM hok hlen hd hn kk
theorem pf_X12_78 (hΓ : CK E RX12 cc nL ret "<init>" d mc ms Γ) {a : Nat} {fs : List Value} {v : Value} (hM : M a = some (.inr (11, fs))) (hok : narrow (tyX12 34) (tv E v) = tv E v ∧ fits (tyX12 34) (tv E v) = true) (hlen : 34 < fs.length) (hd : decode cc pc = .ok (.putfield 78, 3)) (hn : pc + 3 = pc') (kk : SV E Γ nL (va_up M a (some (.inr (11, fs.set 34 v)))) nx ce sl pc' lv st) : SV E Γ nL M nx ce sl pc lv (v :: .ref a :: st) :=
  sv_putF hΓ i_X12 tyX12 tyX12_ok nmX12 rfl 34 (by decide) tb_980 rfl rfl rfl (by decide +kernel) hM hok hlen hd hn kk
theorem pf_X12_81 (hΓ : CK E RX12 cc nL ret "<init>" d mc ms Γ) {a : Nat} {fs : List Value} {v : Value} (hM : M a = some (.inr (11, fs))) (hok : narrow (tyX12 35) (tv E v) = tv E v ∧ fits (tyX12 35) (tv E v) = true) (hlen : 35 < fs.length) (hd : decode cc pc = .ok (.putfield 81, 3)) (hn : pc + 3 = pc') (kk : SV E Γ nL (va_up M a (some (.inr (11, fs.set 35 v)))) nx ce sl pc' lv st) : SV E Γ nL M nx ce sl pc lv (v :: .ref a :: st) :=
  sv_putF hΓ i_X12 tyX12 tyX12_ok nmX12 rfl 35 (by decide) tb_981 rfl rfl rfl (by decide +kernel) hM hok hlen hd hn kk
theorem pf_X12_84 (hΓ : CK E RX12 cc nL ret "<init>" d mc ms Γ) {a : Nat} {fs : List Value} {v : Value} (hM : M a = some (.inr (11, fs))) (hok : narrow (tyX12 36) (tv E v) = tv E v ∧ fits (tyX12 36) (tv E v) = true) (hlen : 36 < fs.length) (hd : decode cc pc = .ok (.putfield 84, 3)) (hn : pc + 3 = pc') (kk : SV E Γ nL (va_up M a (some (.inr (11, fs.set 36 v)))) nx ce sl pc' lv st) : SV E Γ nL M nx ce sl pc lv (v :: .ref a :: st) :=
  sv_putF hΓ i_X12 tyX12 tyX12_ok nmX12 rfl 36 (by decide) tb_982 rfl rfl rfl (by decide +kernel) hM hok hlen hd hn kk
theorem pf_X12_87 (hΓ : CK E RX12 cc nL ret "<init>" d mc ms Γ) {a : Nat} {fs : List Value} {v : Value} (hM : M a = some (.inr (11, fs))) (hok : narrow (tyX12 37) (tv E v) = tv E v ∧ fits (tyX12 37) (tv E v) = true) (hlen : 37 < fs.length) (hd : decode cc pc = .ok (.putfield 87, 3)) (hn : pc + 3 = pc') (kk : SV E Γ nL (va_up M a (some (.inr (11, fs.set 37 v)))) nx ce sl pc' lv st) : SV E Γ nL M nx ce sl pc lv (v :: .ref a :: st) :=
  sv_putF hΓ i_X12 tyX12 tyX12_ok nmX12 rfl 37 (by decide) tb_983 rfl rfl rfl (by decide +kernel) hM hok hlen hd hn kk
theorem pf_X12_90 (hΓ : CK E RX12 cc nL ret "<init>" d mc ms Γ) {a : Nat} {fs : List Value} {v : Value} (hM : M a = some (.inr (11, fs))) (hok : narrow (tyX12 38) (tv E v) = tv E v ∧ fits (tyX12 38) (tv E v) = true) (hlen : 38 < fs.length) (hd : decode cc pc = .ok (.putfield 90, 3)) (hn : pc + 3 = pc') (kk : SV E Γ nL (va_up M a (some (.inr (11, fs.set 38 v)))) nx ce sl pc' lv st) : SV E Γ nL M nx ce sl pc lv (v :: .ref a :: st) :=
  sv_putF hΓ i_X12 tyX12 tyX12_ok nmX12 rfl 38 (by decide) tb_984 rfl rfl rfl (by decide +kernel) hM hok hlen hd hn kk
theorem pf_X12_93 (hΓ : CK E RX12 cc nL ret "<init>" d mc ms Γ) {a : Nat} {fs : List Value} {v : Value} (hM : M a = some (.inr (11, fs))) (hok : narrow (tyX12 39) (tv E v) = tv E v ∧ fits (tyX12 39) (tv E v) = true) (hlen : 39 < fs.length) (hd : decode cc pc = .ok (.putfield 93, 3)) (hn : pc + 3 = pc') (kk : SV E Γ nL (va_up M a (some (.inr (11, fs.set 39 v)))) nx ce sl pc' lv st) : SV E Γ nL M nx ce sl pc lv (v :: .ref a :: st) :=
  sv_putF hΓ i_X12 tyX12 tyX12_ok nmX12 rfl 39 (by decide) tb_985 rfl rfl rfl (by decide +kernel) hM hok hlen hd hn kk
theorem pf_X12_96 (hΓ : CK E RX12 cc nL ret "<init>" d mc ms Γ) {a : Nat} {fs : List Value} {v : Value} (hM : M a = some (.inr (11, fs))) (hok : narrow (tyX12 40) (tv E v) = tv E v ∧ fits (tyX12 40) (tv E v) = true) (hlen : 40 < fs.length) (hd : decode cc pc = .ok (.putfield 96, 3)) (hn : pc + 3 = pc') (kk : SV E Γ nL (va_up M a (some (.inr (11, fs.set 40 v)))) nx ce sl pc' lv st) : SV E Γ nL M nx ce sl pc lv (v :: .ref a :: st) :=
  sv_putF hΓ i_X12 tyX12 tyX12_ok nmX12 rfl 40 (by decide) tb_986 rfl rfl rfl (by decide +kernel) hM hok hlen hd hn kk
theorem pt_X12_99 (hΓ : CK E RX12 cc nL ret nm d mc ms Γ) {a : Nat} {fs : List Value} {v : Value} (hM : M a = some (.inr (11, fs))) (hok : narrow .int (tv E v) = tv E v ∧ fits .int (tv E v) = true) (hlen : 0 < fs.length) (hd : decode cc pc = .ok (.putfield 99, 3)) (hn : pc + 3 = pc') (kk : SV E Γ nL (va_up M a (some (.inr (11, fs.set 0 v)))) nx ce sl pc' lv st) : SV E Γ nL M nx ce sl pc lv (v :: .ref a :: st) :=
  sv_put hΓ i_X12 tyX12 tyX12_ok nmX12 rfl 0 (by decide) tb_946 rfl rfl (by decide +kernel) hM hok hlen hd hn kk
theorem p_X12_99_43 (hΓ : CK E RX12 cc nL ret nm d mc ms Γ) {v : Int32} (hd : decode cc pc = .ok (.putfield 99, 3)) (hn : pc + 3 = pc') (kk : SV E Γ nL (mm (up2 ci 43 0 v) cl cr dy) nx ce sl pc' lv (st)) : SV E Γ nL (mm ci cl cr dy) nx ce sl pc lv (.int v :: .ref 43 :: st) := by
  refine pt_X12_99 hΓ m_43 ⟨rfl, rfl⟩ (Nat.lt_of_succ_le (Nat.le_of_ble_eq_true rfl)) hd hn ?_
  refine SV_eq (M' := mm (up2 ci 43 0 v) cl cr dy) ?_ kk
  exact mm_i 42 0 rfl rfl
theorem pt_X12_103 (hΓ : CK E RX12 cc nL ret nm d mc ms Γ) {a : Nat} {fs : List Value} {v : Value} (hM : M a = some (.inr (11, fs))) (hok : narrow .int (tv E v) = tv E v ∧ fits .int (tv E v) = true) (hlen : 1 < fs.length) (hd : decode cc pc = .ok (.putfield 103, 3)) (hn : pc + 3 = pc') (kk : SV E Γ nL (va_up M a (some (.inr (11, fs.set 1 v)))) nx ce sl pc' lv st) : SV E Γ nL M nx ce sl pc lv (v :: .ref a :: st) :=
  sv_put hΓ i_X12 tyX12 tyX12_ok nmX12 rfl 1 (by decide) tb_947 rfl rfl (by decide +kernel) hM hok hlen hd hn kk
theorem p_X12_103_43 (hΓ : CK E RX12 cc nL ret nm d mc ms Γ) {v : Int32} (hd : decode cc pc = .ok (.putfield 103, 3)) (hn : pc + 3 = pc') (kk : SV E Γ nL (mm (up2 ci 43 1 v) cl cr dy) nx ce sl pc' lv (st)) : SV E Γ nL (mm ci cl cr dy) nx ce sl pc lv (.int v :: .ref 43 :: st) := by
  refine pt_X12_103 hΓ m_43 ⟨rfl, rfl⟩ (Nat.lt_of_succ_le (Nat.le_of_ble_eq_true rfl)) hd hn ?_
  refine SV_eq (M' := mm (up2 ci 43 1 v) cl cr dy) ?_ kk
  exact mm_i 42 1 rfl rfl
theorem pt_X12_106 (hΓ : CK E RX12 cc nL ret nm d mc ms Γ) {a : Nat} {fs : List Value} {v : Value} (hM : M a = some (.inr (11, fs))) (hok : narrow .boolean (tv E v) = tv E v ∧ fits .boolean (tv E v) = true) (hlen : 13 < fs.length) (hd : decode cc pc = .ok (.putfield 106, 3)) (hn : pc + 3 = pc') (kk : SV E Γ nL (va_up M a (some (.inr (11, fs.set 13 v)))) nx ce sl pc' lv st) : SV E Γ nL M nx ce sl pc lv (v :: .ref a :: st) :=
  sv_put hΓ i_X12 tyX12 tyX12_ok nmX12 rfl 13 (by decide) tb_959 rfl rfl (by decide +kernel) hM hok hlen hd hn kk
theorem p_X12_106_43 (hΓ : CK E RX12 cc nL ret nm d mc ms Γ) {v : Int32} (hz : narrow .boolean (.int v) = .int v ∧ fits .boolean (.int v) = true) (hd : decode cc pc = .ok (.putfield 106, 3)) (hn : pc + 3 = pc') (kk : SV E Γ nL (mm (up2 ci 43 13 v) cl cr dy) nx ce sl pc' lv (st)) : SV E Γ nL (mm ci cl cr dy) nx ce sl pc lv (.int v :: .ref 43 :: st) := by
  refine pt_X12_106 hΓ m_43 hz (Nat.lt_of_succ_le (Nat.le_of_ble_eq_true rfl)) hd hn ?_
  refine SV_eq (M' := mm (up2 ci 43 13 v) cl cr dy) ?_ kk
  exact mm_i 42 13 rfl rfl
theorem pt_X12_110 (hΓ : CK E RX12 cc nL ret nm d mc ms Γ) {a : Nat} {fs : List Value} {v : Value} (hM : M a = some (.inr (11, fs))) (hok : narrow .boolean (tv E v) = tv E v ∧ fits .boolean (tv E v) = true) (hlen : 19 < fs.length) (hd : decode cc pc = .ok (.putfield 110, 3)) (hn : pc + 3 = pc') (kk : SV E Γ nL (va_up M a (some (.inr (11, fs.set 19 v)))) nx ce sl pc' lv st) : SV E Γ nL M nx ce sl pc lv (v :: .ref a :: st) :=
  sv_put hΓ i_X12 tyX12 tyX12_ok nmX12 rfl 19 (by decide) tb_965 rfl rfl (by decide +kernel) hM hok hlen hd hn kk
theorem p_X12_110_43 (hΓ : CK E RX12 cc nL ret nm d mc ms Γ) {v : Int32} (hz : narrow .boolean (.int v) = .int v ∧ fits .boolean (.int v) = true) (hd : decode cc pc = .ok (.putfield 110, 3)) (hn : pc + 3 = pc') (kk : SV E Γ nL (mm (up2 ci 43 19 v) cl cr dy) nx ce sl pc' lv (st)) : SV E Γ nL (mm ci cl cr dy) nx ce sl pc lv (.int v :: .ref 43 :: st) := by
  refine pt_X12_110 hΓ m_43 hz (Nat.lt_of_succ_le (Nat.le_of_ble_eq_true rfl)) hd hn ?_
  refine SV_eq (M' := mm (up2 ci 43 19 v) cl cr dy) ?_ kk
  exact mm_i 42 19 rfl rfl
theorem pt_X12_150 (hΓ : CK E RX12 cc nL ret nm d mc ms Γ) {a : Nat} {fs : List Value} {v : Value} (hM : M a = some (.inr (11, fs))) (hok : narrow .long (tv E v) = tv E v ∧ fits .long (tv E v) = true) (hlen : 29 < fs.length) (hd : decode cc pc = .ok (.putfield 150, 3)) (hn : pc + 3 = pc') (kk : SV E Γ nL (va_up M a (some (.inr (11, fs.set 29 v)))) nx ce sl pc' lv st) : SV E Γ nL M nx ce sl pc lv (v :: .ref a :: st) :=
  sv_put hΓ i_X12 tyX12 tyX12_ok nmX12 rfl 29 (by decide) tb_975 rfl rfl (by decide +kernel) hM hok hlen hd hn kk
theorem p_X12_150_43 (hΓ : CK E RX12 cc nL ret nm d mc ms Γ) {v : Int64} (hd : decode cc pc = .ok (.putfield 150, 3)) (hn : pc + 3 = pc') (kk : SV E Γ nL (mm ci (up2 cl 43 29 v) cr dy) nx ce sl pc' lv (st)) : SV E Γ nL (mm ci cl cr dy) nx ce sl pc lv (.long v :: .ref 43 :: st) := by
  refine pt_X12_150 hΓ m_43 ⟨rfl, rfl⟩ (Nat.lt_of_succ_le (Nat.le_of_ble_eq_true rfl)) hd hn ?_
  refine SV_eq (M' := mm ci (up2 cl 43 29 v) cr dy) ?_ kk
  exact mm_l 42 29 rfl rfl
theorem pt_X12_154 (hΓ : CK E RX12 cc nL ret nm d mc ms Γ) {a : Nat} {fs : List Value} {v : Value} (hM : M a = some (.inr (11, fs))) (hok : narrow .long (tv E v) = tv E v ∧ fits .long (tv E v) = true) (hlen : 30 < fs.length) (hd : decode cc pc = .ok (.putfield 154, 3)) (hn : pc + 3 = pc') (kk : SV E Γ nL (va_up M a (some (.inr (11, fs.set 30 v)))) nx ce sl pc' lv st) : SV E Γ nL M nx ce sl pc lv (v :: .ref a :: st) :=
  sv_put hΓ i_X12 tyX12 tyX12_ok nmX12 rfl 30 (by decide) tb_976 rfl rfl (by decide +kernel) hM hok hlen hd hn kk
theorem p_X12_154_43 (hΓ : CK E RX12 cc nL ret nm d mc ms Γ) {v : Int64} (hd : decode cc pc = .ok (.putfield 154, 3)) (hn : pc + 3 = pc') (kk : SV E Γ nL (mm ci (up2 cl 43 30 v) cr dy) nx ce sl pc' lv (st)) : SV E Γ nL (mm ci cl cr dy) nx ce sl pc lv (.long v :: .ref 43 :: st) := by
  refine pt_X12_154 hΓ m_43 ⟨rfl, rfl⟩ (Nat.lt_of_succ_le (Nat.le_of_ble_eq_true rfl)) hd hn ?_
  refine SV_eq (M' := mm ci (up2 cl 43 30 v) cr dy) ?_ kk
  exact mm_l 42 30 rfl rfl
theorem pt_X12_207 (hΓ : CK E RX12 cc nL ret nm d mc ms Γ) {a : Nat} {fs : List Value} {v : Value} (hM : M a = some (.inr (11, fs))) (hok : narrow .int (tv E v) = tv E v ∧ fits .int (tv E v) = true) (hlen : 18 < fs.length) (hd : decode cc pc = .ok (.putfield 207, 3)) (hn : pc + 3 = pc') (kk : SV E Γ nL (va_up M a (some (.inr (11, fs.set 18 v)))) nx ce sl pc' lv st) : SV E Γ nL M nx ce sl pc lv (v :: .ref a :: st) :=
  sv_put hΓ i_X12 tyX12 tyX12_ok nmX12 rfl 18 (by decide) tb_964 rfl rfl (by decide +kernel) hM hok hlen hd hn kk
theorem p_X12_207_43 (hΓ : CK E RX12 cc nL ret nm d mc ms Γ) {v : Int32} (hd : decode cc pc = .ok (.putfield 207, 3)) (hn : pc + 3 = pc') (kk : SV E Γ nL (mm (up2 ci 43 18 v) cl cr dy) nx ce sl pc' lv (st)) : SV E Γ nL (mm ci cl cr dy) nx ce sl pc lv (.int v :: .ref 43 :: st) := by
  refine pt_X12_207 hΓ m_43 ⟨rfl, rfl⟩ (Nat.lt_of_succ_le (Nat.le_of_ble_eq_true rfl)) hd hn ?_
  refine SV_eq (M' := mm (up2 ci 43 18 v) cl cr dy) ?_ kk
  exact mm_i 42 18 rfl rfl
theorem pt_X12_210 (hΓ : CK E RX12 cc nL ret nm d mc ms Γ) {a : Nat} {fs : List Value} {v : Value} (hM : M a = some (.inr (11, fs))) (hok : narrow .int (tv E v) = tv E v ∧ fits .int (tv E v) = true) (hlen : 16 < fs.length) (hd : decode cc pc = .ok (.putfield 210, 3)) (hn : pc + 3 = pc') (kk : SV E Γ nL (va_up M a (some (.inr (11, fs.set 16 v)))) nx ce sl pc' lv st) : SV E Γ nL M nx ce sl pc lv (v :: .ref a :: st) :=
  sv_put hΓ i_X12 tyX12 tyX12_ok nmX12 rfl 16 (by decide) tb_962 rfl rfl (by decide +kernel) hM hok hlen hd hn kk
theorem p_X12_210_43 (hΓ : CK E RX12 cc nL ret nm d mc ms Γ) {v : Int32} (hd : decode cc pc = .ok (.putfield 210, 3)) (hn : pc + 3 = pc') (kk : SV E Γ nL (mm (up2 ci 43 16 v) cl cr dy) nx ce sl pc' lv (st)) : SV E Γ nL (mm ci cl cr dy) nx ce sl pc lv (.int v :: .ref 43 :: st) := by
  refine pt_X12_210 hΓ m_43 ⟨rfl, rfl⟩ (Nat.lt_of_succ_le (Nat.le_of_ble_eq_true rfl)) hd hn ?_
  refine SV_eq (M' := mm (up2 ci 43 16 v) cl cr dy) ?_ kk
  exact mm_i 42 16 rfl rfl
theorem pt_X12_247 (hΓ : CK E RX12 cc nL ret nm d mc ms Γ) {a : Nat} {fs : List Value} {v : Value} (hM : M a = some (.inr (11, fs))) (hok : narrow .int (tv E v) = tv E v ∧ fits .int (tv E v) = true) (hlen : 22 < fs.length) (hd : decode cc pc = .ok (.putfield 247, 3)) (hn : pc + 3 = pc') (kk : SV E Γ nL (va_up M a (some (.inr (11, fs.set 22 v)))) nx ce sl pc' lv st) : SV E Γ nL M nx ce sl pc lv (v :: .ref a :: st) :=
  sv_put hΓ i_X12 tyX12 tyX12_ok nmX12 rfl 22 (by decide) tb_968 rfl rfl (by decide +kernel) hM hok hlen hd hn kk
theorem p_X12_247_43 (hΓ : CK E RX12 cc nL ret nm d mc ms Γ) {v : Int32} (hd : decode cc pc = .ok (.putfield 247, 3)) (hn : pc + 3 = pc') (kk : SV E Γ nL (mm (up2 ci 43 22 v) cl cr dy) nx ce sl pc' lv (st)) : SV E Γ nL (mm ci cl cr dy) nx ce sl pc lv (.int v :: .ref 43 :: st) := by
  refine pt_X12_247 hΓ m_43 ⟨rfl, rfl⟩ (Nat.lt_of_succ_le (Nat.le_of_ble_eq_true rfl)) hd hn ?_
  refine SV_eq (M' := mm (up2 ci 43 22 v) cl cr dy) ?_ kk
  exact mm_i 42 22 rfl rfl
theorem pt_X12_257 (hΓ : CK E RX12 cc nL ret nm d mc ms Γ) {a : Nat} {fs : List Value} {v : Value} (hM : M a = some (.inr (11, fs))) (hok : narrow .int (tv E v) = tv E v ∧ fits .int (tv E v) = true) (hlen : 20 < fs.length) (hd : decode cc pc = .ok (.putfield 257, 3)) (hn : pc + 3 = pc') (kk : SV E Γ nL (va_up M a (some (.inr (11, fs.set 20 v)))) nx ce sl pc' lv st) : SV E Γ nL M nx ce sl pc lv (v :: .ref a :: st) :=
  sv_put hΓ i_X12 tyX12 tyX12_ok nmX12 rfl 20 (by decide) tb_966 rfl rfl (by decide +kernel) hM hok hlen hd hn kk
theorem p_X12_257_43 (hΓ : CK E RX12 cc nL ret nm d mc ms Γ) {v : Int32} (hd : decode cc pc = .ok (.putfield 257, 3)) (hn : pc + 3 = pc') (kk : SV E Γ nL (mm (up2 ci 43 20 v) cl cr dy) nx ce sl pc' lv (st)) : SV E Γ nL (mm ci cl cr dy) nx ce sl pc lv (.int v :: .ref 43 :: st) := by
  refine pt_X12_257 hΓ m_43 ⟨rfl, rfl⟩ (Nat.lt_of_succ_le (Nat.le_of_ble_eq_true rfl)) hd hn ?_
  refine SV_eq (M' := mm (up2 ci 43 20 v) cl cr dy) ?_ kk
  exact mm_i 42 20 rfl rfl
theorem pt_X12_260 (hΓ : CK E RX12 cc nL ret nm d mc ms Γ) {a : Nat} {fs : List Value} {v : Value} (hM : M a = some (.inr (11, fs))) (hok : narrow .int (tv E v) = tv E v ∧ fits .int (tv E v) = true) (hlen : 21 < fs.length) (hd : decode cc pc = .ok (.putfield 260, 3)) (hn : pc + 3 = pc') (kk : SV E Γ nL (va_up M a (some (.inr (11, fs.set 21 v)))) nx ce sl pc' lv st) : SV E Γ nL M nx ce sl pc lv (v :: .ref a :: st) :=
  sv_put hΓ i_X12 tyX12 tyX12_ok nmX12 rfl 21 (by decide) tb_967 rfl rfl (by decide +kernel) hM hok hlen hd hn kk
theorem p_X12_260_43 (hΓ : CK E RX12 cc nL ret nm d mc ms Γ) {v : Int32} (hd : decode cc pc = .ok (.putfield 260, 3)) (hn : pc + 3 = pc') (kk : SV E Γ nL (mm (up2 ci 43 21 v) cl cr dy) nx ce sl pc' lv (st)) : SV E Γ nL (mm ci cl cr dy) nx ce sl pc lv (.int v :: .ref 43 :: st) := by
  refine pt_X12_260 hΓ m_43 ⟨rfl, rfl⟩ (Nat.lt_of_succ_le (Nat.le_of_ble_eq_true rfl)) hd hn ?_
  refine SV_eq (M' := mm (up2 ci 43 21 v) cl cr dy) ?_ kk
  exact mm_i 42 21 rfl rfl
theorem pt_X12_266 (hΓ : CK E RX12 cc nL ret nm d mc ms Γ) {a : Nat} {fs : List Value} {v : Value} (hM : M a = some (.inr (11, fs))) (hok : narrow .int (tv E v) = tv E v ∧ fits .int (tv E v) = true) (hlen : 23 < fs.length) (hd : decode cc pc = .ok (.putfield 266, 3)) (hn : pc + 3 = pc') (kk : SV E Γ nL (va_up M a (some (.inr (11, fs.set 23 v)))) nx ce sl pc' lv st) : SV E Γ nL M nx ce sl pc lv (v :: .ref a :: st) :=
  sv_put hΓ i_X12 tyX12 tyX12_ok nmX12 rfl 23 (by decide) tb_969 rfl rfl (by decide +kernel) hM hok hlen hd hn kk
theorem p_X12_266_43 (hΓ : CK E RX12 cc nL ret nm d mc ms Γ) {v : Int32} (hd : decode cc pc = .ok (.putfield 266, 3)) (hn : pc + 3 = pc') (kk : SV E Γ nL (mm (up2 ci 43 23 v) cl cr dy) nx ce sl pc' lv (st)) : SV E Γ nL (mm ci cl cr dy) nx ce sl pc lv (.int v :: .ref 43 :: st) := by
  refine pt_X12_266 hΓ m_43 ⟨rfl, rfl⟩ (Nat.lt_of_succ_le (Nat.le_of_ble_eq_true rfl)) hd hn ?_
  refine SV_eq (M' := mm (up2 ci 43 23 v) cl cr dy) ?_ kk
  exact mm_i 42 23 rfl rfl
theorem gt_X3_11 (hΓ : CK E RX3 cc nL ret nm d mc ms Γ) {a : Nat} {fs : List Value} {v : Value} (hM : M a = some (.inr (2, fs))) (hv : fs[1]? = some v) (hd : decode cc pc = .ok (.getfield 11, 3)) (hn : pc + 3 = pc') (kk : SV E Γ nL M nx ce sl pc' lv (v :: st)) : SV E Γ nL M nx ce sl pc lv (.ref a :: st) :=
  sv_get hΓ i_X3 rfl 1 (by decide) tb_174 rfl hM hv hd hn kk
theorem g_X3_11_18 (hΓ : CK E RX3 cc nL ret nm d mc ms Γ) (hd : decode cc pc = .ok (.getfield 11, 3)) (hn : pc + 3 = pc') (kk : SV E Γ nL (mm ci cl cr dy) nx ce sl pc' lv (.ref 19 :: st)) : SV E Γ nL (mm ci cl cr dy) nx ce sl pc lv (.ref 18 :: st) :=
  gt_X3_11 hΓ m_18 rfl hd hn kk
theorem gt_X3_17 (hΓ : CK E RX3 cc nL ret nm d mc ms Γ) {a : Nat} {fs : List Value} {v : Value} (hM : M a = some (.inr (2, fs))) (hv : fs[2]? = some v) (hd : decode cc pc = .ok (.getfield 17, 3)) (hn : pc + 3 = pc') (kk : SV E Γ nL M nx ce sl pc' lv (v :: st)) : SV E Γ nL M nx ce sl pc lv (.ref a :: st) :=
  sv_get hΓ i_X3 rfl 2 (by decide) tb_176 rfl hM hv hd hn kk
theorem g_X3_17_18 (hΓ : CK E RX3 cc nL ret nm d mc ms Γ) (hd : decode cc pc = .ok (.getfield 17, 3)) (hn : pc + 3 = pc') (kk : SV E Γ nL (mm ci cl cr dy) nx ce sl pc' lv (.ref 20 :: st)) : SV E Γ nL (mm ci cl cr dy) nx ce sl pc lv (.ref 18 :: st) :=
  gt_X3_17 hΓ m_18 rfl hd hn kk
theorem gt_X3_20 (hΓ : CK E RX3 cc nL ret nm d mc ms Γ) {a : Nat} {fs : List Value} {v : Value} (hM : M a = some (.inr (2, fs))) (hv : fs[3]? = some v) (hd : decode cc pc = .ok (.getfield 20, 3)) (hn : pc + 3 = pc') (kk : SV E Γ nL M nx ce sl pc' lv (v :: st)) : SV E Γ nL M nx ce sl pc lv (.ref a :: st) :=
  sv_get hΓ i_X3 rfl 3 (by decide) tb_178 rfl hM hv hd hn kk
theorem g_X3_20_18 (hΓ : CK E RX3 cc nL ret nm d mc ms Γ) (hd : decode cc pc = .ok (.getfield 20, 3)) (hn : pc + 3 = pc') (kk : SV E Γ nL (mm ci cl cr dy) nx ce sl pc' lv (.ref 21 :: st)) : SV E Γ nL (mm ci cl cr dy) nx ce sl pc lv (.ref 18 :: st) :=
  gt_X3_20 hΓ m_18 rfl hd hn kk
theorem gt_X3_24 (hΓ : CK E RX3 cc nL ret nm d mc ms Γ) {a : Nat} {fs : List Value} {v : Value} (hM : M a = some (.inr (2, fs))) (hv : fs[4]? = some v) (hd : decode cc pc = .ok (.getfield 24, 3)) (hn : pc + 3 = pc') (kk : SV E Γ nL M nx ce sl pc' lv (v :: st)) : SV E Γ nL M nx ce sl pc lv (.ref a :: st) :=
  sv_get hΓ i_X3 rfl 4 (by decide) tb_180 rfl hM hv hd hn kk
theorem g_X3_24_18 (hΓ : CK E RX3 cc nL ret nm d mc ms Γ) (hd : decode cc pc = .ok (.getfield 24, 3)) (hn : pc + 3 = pc') (kk : SV E Γ nL (mm ci cl cr dy) nx ce sl pc' lv (.ref 22 :: st)) : SV E Γ nL (mm ci cl cr dy) nx ce sl pc lv (.ref 18 :: st) :=
  gt_X3_24 hΓ m_18 rfl hd hn kk
theorem gt_X3_27 (hΓ : CK E RX3 cc nL ret nm d mc ms Γ) {a : Nat} {fs : List Value} {v : Value} (hM : M a = some (.inr (2, fs))) (hv : fs[5]? = some v) (hd : decode cc pc = .ok (.getfield 27, 3)) (hn : pc + 3 = pc') (kk : SV E Γ nL M nx ce sl pc' lv (v :: st)) : SV E Γ nL M nx ce sl pc lv (.ref a :: st) :=
  sv_get hΓ i_X3 rfl 5 (by decide) tb_182 rfl hM hv hd hn kk
theorem g_X3_27_18 (hΓ : CK E RX3 cc nL ret nm d mc ms Γ) (hd : decode cc pc = .ok (.getfield 27, 3)) (hn : pc + 3 = pc') (kk : SV E Γ nL (mm ci cl cr dy) nx ce sl pc' lv (.ref 23 :: st)) : SV E Γ nL (mm ci cl cr dy) nx ce sl pc lv (.ref 18 :: st) :=
  gt_X3_27 hΓ m_18 rfl hd hn kk
theorem gt_X3_31 (hΓ : CK E RX3 cc nL ret nm d mc ms Γ) {a : Nat} {fs : List Value} {v : Value} (hM : M a = some (.inr (2, fs))) (hv : fs[6]? = some v) (hd : decode cc pc = .ok (.getfield 31, 3)) (hn : pc + 3 = pc') (kk : SV E Γ nL M nx ce sl pc' lv (v :: st)) : SV E Γ nL M nx ce sl pc lv (.ref a :: st) :=
  sv_get hΓ i_X3 rfl 6 (by decide) tb_183 rfl hM hv hd hn kk
theorem g_X3_31_18 (hΓ : CK E RX3 cc nL ret nm d mc ms Γ) (hd : decode cc pc = .ok (.getfield 31, 3)) (hn : pc + 3 = pc') (kk : SV E Γ nL (mm ci cl cr dy) nx ce sl pc' lv (.ref 24 :: st)) : SV E Γ nL (mm ci cl cr dy) nx ce sl pc lv (.ref 18 :: st) :=
  gt_X3_31 hΓ m_18 rfl hd hn kk
theorem gt_X3_34 (hΓ : CK E RX3 cc nL ret nm d mc ms Γ) {a : Nat} {fs : List Value} {v : Value} (hM : M a = some (.inr (2, fs))) (hv : fs[7]? = some v) (hd : decode cc pc = .ok (.getfield 34, 3)) (hn : pc + 3 = pc') (kk : SV E Γ nL M nx ce sl pc' lv (v :: st)) : SV E Γ nL M nx ce sl pc lv (.ref a :: st) :=
  sv_get hΓ i_X3 rfl 7 (by decide) tb_184 rfl hM hv hd hn kk
theorem g_X3_34_18 (hΓ : CK E RX3 cc nL ret nm d mc ms Γ) (hd : decode cc pc = .ok (.getfield 34, 3)) (hn : pc + 3 = pc') (kk : SV E Γ nL (mm ci cl cr dy) nx ce sl pc' lv (.ref 25 :: st)) : SV E Γ nL (mm ci cl cr dy) nx ce sl pc lv (.ref 18 :: st) :=
  gt_X3_34 hΓ m_18 rfl hd hn kk
theorem gt_X3_41 (hΓ : CK E RX3 cc nL ret nm d mc ms Γ) {a : Nat} {fs : List Value} {v : Value} (hM : M a = some (.inr (2, fs))) (hv : fs[9]? = some v) (hd : decode cc pc = .ok (.getfield 41, 3)) (hn : pc + 3 = pc') (kk : SV E Γ nL M nx ce sl pc' lv (v :: st)) : SV E Γ nL M nx ce sl pc lv (.ref a :: st) :=
  sv_get hΓ i_X3 rfl 9 (by decide) tb_187 rfl hM hv hd hn kk
theorem g_X3_41_18 (hΓ : CK E RX3 cc nL ret nm d mc ms Γ) (hd : decode cc pc = .ok (.getfield 41, 3)) (hn : pc + 3 = pc') (kk : SV E Γ nL (mm ci cl cr dy) nx ce sl pc' lv (.int (ci 18 9) :: st)) : SV E Γ nL (mm ci cl cr dy) nx ce sl pc lv (.ref 18 :: st) :=
  gt_X3_41 hΓ m_18 rfl hd hn kk
theorem gt_X3_44 (hΓ : CK E RX3 cc nL ret nm d mc ms Γ) {a : Nat} {fs : List Value} {v : Value} (hM : M a = some (.inr (2, fs))) (hv : fs[10]? = some v) (hd : decode cc pc = .ok (.getfield 44, 3)) (hn : pc + 3 = pc') (kk : SV E Γ nL M nx ce sl pc' lv (v :: st)) : SV E Γ nL M nx ce sl pc lv (.ref a :: st) :=
  sv_get hΓ i_X3 rfl 10 (by decide) tb_189 rfl hM hv hd hn kk
theorem g_X3_44_18 (hΓ : CK E RX3 cc nL ret nm d mc ms Γ) (hd : decode cc pc = .ok (.getfield 44, 3)) (hn : pc + 3 = pc') (kk : SV E Γ nL (mm ci cl cr dy) nx ce sl pc' lv (.int (ci 18 10) :: st)) : SV E Γ nL (mm ci cl cr dy) nx ce sl pc lv (.ref 18 :: st) :=
  gt_X3_44 hΓ m_18 rfl hd hn kk
theorem gt_X3_50 (hΓ : CK E RX3 cc nL ret nm d mc ms Γ) {a : Nat} {fs : List Value} {v : Value} (hM : M a = some (.inr (2, fs))) (hv : fs[0]? = some v) (hd : decode cc pc = .ok (.getfield 50, 3)) (hn : pc + 3 = pc') (kk : SV E Γ nL M nx ce sl pc' lv (v :: st)) : SV E Γ nL M nx ce sl pc lv (.ref a :: st) :=
  sv_get hΓ i_X3 rfl 0 (by decide) tb_173 rfl hM hv hd hn kk
theorem g_X3_50_18 (hΓ : CK E RX3 cc nL ret nm d mc ms Γ) (hd : decode cc pc = .ok (.getfield 50, 3)) (hn : pc + 3 = pc') (kk : SV E Γ nL (mm ci cl cr dy) nx ce sl pc' lv (.ref 2 :: st)) : SV E Γ nL (mm ci cl cr dy) nx ce sl pc lv (.ref 18 :: st) :=
  gt_X3_50 hΓ m_18 rfl hd hn kk
theorem gt_X3_61 (hΓ : CK E RX3 cc nL ret nm d mc ms Γ) {a : Nat} {fs : List Value} {v : Value} (hM : M a = some (.inr (4, fs))) (hv : fs[5]? = some v) (hd : decode cc pc = .ok (.getfield 61, 3)) (hn : pc + 3 = pc') (kk : SV E Γ nL M nx ce sl pc' lv (v :: st)) : SV E Γ nL M nx ce sl pc lv (.ref a :: st) :=
  sv_get hΓ i_X5 rfl 5 (by decide) tb_101 rfl hM hv hd hn kk
theorem g_X3_61_10 (hΓ : CK E RX3 cc nL ret nm d mc ms Γ) (hd : decode cc pc = .ok (.getfield 61, 3)) (hn : pc + 3 = pc') (kk : SV E Γ nL (mm ci cl cr dy) nx ce sl pc' lv (.ref 13 :: st)) : SV E Γ nL (mm ci cl cr dy) nx ce sl pc lv (.ref 10 :: st) :=
  gt_X3_61 hΓ m_10 rfl hd hn kk
theorem gt_X3_66 (hΓ : CK E RX3 cc nL ret nm d mc ms Γ) {a : Nat} {fs : List Value} {v : Value} (hM : M a = some (.inr (4, fs))) (hv : fs[6]? = some v) (hd : decode cc pc = .ok (.getfield 66, 3)) (hn : pc + 3 = pc') (kk : SV E Γ nL M nx ce sl pc' lv (v :: st)) : SV E Γ nL M nx ce sl pc lv (.ref a :: st) :=
  sv_get hΓ i_X5 rfl 6 (by decide) tb_103 rfl hM hv hd hn kk
theorem g_X3_66_10 (hΓ : CK E RX3 cc nL ret nm d mc ms Γ) (hd : decode cc pc = .ok (.getfield 66, 3)) (hn : pc + 3 = pc') (kk : SV E Γ nL (mm ci cl cr dy) nx ce sl pc' lv (.int (ci 10 6) :: st)) : SV E Γ nL (mm ci cl cr dy) nx ce sl pc lv (.ref 10 :: st) :=
  gt_X3_66 hΓ m_10 rfl hd hn kk
theorem gt_X3_69 (hΓ : CK E RX3 cc nL ret nm d mc ms Γ) {a : Nat} {fs : List Value} {v : Value} (hM : M a = some (.inr (4, fs))) (hv : fs[3]? = some v) (hd : decode cc pc = .ok (.getfield 69, 3)) (hn : pc + 3 = pc') (kk : SV E Γ nL M nx ce sl pc' lv (v :: st)) : SV E Γ nL M nx ce sl pc lv (.ref a :: st) :=
  sv_get hΓ i_X5 rfl 3 (by decide) tb_94 rfl hM hv hd hn kk
theorem g_X3_69_10 (hΓ : CK E RX3 cc nL ret nm d mc ms Γ) (hd : decode cc pc = .ok (.getfield 69, 3)) (hn : pc + 3 = pc') (kk : SV E Γ nL (mm ci cl cr dy) nx ce sl pc' lv (.ref 11 :: st)) : SV E Γ nL (mm ci cl cr dy) nx ce sl pc lv (.ref 10 :: st) :=
  gt_X3_69 hΓ m_10 rfl hd hn kk
theorem gt_X3_109 (hΓ : CK E RX3 cc nL ret nm d mc ms Γ) {a : Nat} {fs : List Value} {v : Value} (hM : M a = some (.inr (0, fs))) (hv : fs[1]? = some v) (hd : decode cc pc = .ok (.getfield 109, 3)) (hn : pc + 3 = pc') (kk : SV E Γ nL M nx ce sl pc' lv (v :: st)) : SV E Γ nL M nx ce sl pc lv (.ref a :: st) :=
  sv_get hΓ i_X0 rfl 1 (by decide) tb_293 rfl hM hv hd hn kk
theorem gt_X3_120 (hΓ : CK E RX3 cc nL ret nm d mc ms Γ) {a : Nat} {fs : List Value} {v : Value} (hM : M a = some (.inr (0, fs))) (hv : fs[0]? = some v) (hd : decode cc pc = .ok (.getfield 120, 3)) (hn : pc + 3 = pc') (kk : SV E Γ nL M nx ce sl pc' lv (v :: st)) : SV E Γ nL M nx ce sl pc lv (.ref a :: st) :=
  sv_get hΓ i_X0 rfl 0 (by decide) tb_290 rfl hM hv hd hn kk
theorem gt_X3_123 (hΓ : CK E RX3 cc nL ret nm d mc ms Γ) {a : Nat} {fs : List Value} {v : Value} (hM : M a = some (.inr (0, fs))) (hv : fs[2]? = some v) (hd : decode cc pc = .ok (.getfield 123, 3)) (hn : pc + 3 = pc') (kk : SV E Γ nL M nx ce sl pc' lv (v :: st)) : SV E Γ nL M nx ce sl pc lv (.ref a :: st) :=
  sv_get hΓ i_X0 rfl 2 (by decide) tb_297 rfl hM hv hd hn kk
theorem gt_X3_127 (hΓ : CK E RX3 cc nL ret nm d mc ms Γ) {a : Nat} {fs : List Value} {v : Value} (hM : M a = some (.inr (0, fs))) (hv : fs[4]? = some v) (hd : decode cc pc = .ok (.getfield 127, 3)) (hn : pc + 3 = pc') (kk : SV E Γ nL M nx ce sl pc' lv (v :: st)) : SV E Γ nL M nx ce sl pc lv (.ref a :: st) :=
  sv_get hΓ i_X0 rfl 4 (by decide) tb_306 rfl hM hv hd hn kk
theorem gt_X3_130 (hΓ : CK E RX3 cc nL ret nm d mc ms Γ) {a : Nat} {fs : List Value} {v : Value} (hM : M a = some (.inr (0, fs))) (hv : fs[3]? = some v) (hd : decode cc pc = .ok (.getfield 130, 3)) (hn : pc + 3 = pc') (kk : SV E Γ nL M nx ce sl pc' lv (v :: st)) : SV E Γ nL M nx ce sl pc lv (.ref a :: st) :=
  sv_get hΓ i_X0 rfl 3 (by decide) tb_302 rfl hM hv hd hn kk
theorem gt_X3_137 (hΓ : CK E RX3 cc nL ret nm d mc ms Γ) {a : Nat} {fs : List Value} {v : Value} (hM : M a = some (.inr (0, fs))) (hv : fs[6]? = some v) (hd : decode cc pc = .ok (.getfield 137, 3)) (hn : pc + 3 = pc') (kk : SV E Γ nL M nx ce sl pc' lv (v :: st)) : SV E Γ nL M nx ce sl pc lv (.ref a :: st) :=
  sv_get hΓ i_X0 rfl 6 (by decide) tb_314 rfl hM hv hd hn kk
theorem gt_X3_141 (hΓ : CK E RX3 cc nL ret nm d mc ms Γ) {a : Nat} {fs : List Value} {v : Value} (hM : M a = some (.inr (7, fs))) (hv : fs[0]? = some v) (hd : decode cc pc = .ok (.getfield 141, 3)) (hn : pc + 3 = pc') (kk : SV E Γ nL M nx ce sl pc' lv (v :: st)) : SV E Γ nL M nx ce sl pc lv (.ref a :: st) :=
  sv_get hΓ i_X8 rfl 0 (by decide) tb_270 rfl hM hv hd hn kk
theorem gt_X3_150 (hΓ : CK E RX3 cc nL ret nm d mc ms Γ) {a : Nat} {fs : List Value} {v : Value} (hM : M a = some (.inr (0, fs))) (hv : fs[5]? = some v) (hd : decode cc pc = .ok (.getfield 150, 3)) (hn : pc + 3 = pc') (kk : SV E Γ nL M nx ce sl pc' lv (v :: st)) : SV E Γ nL M nx ce sl pc lv (.ref a :: st) :=
  sv_get hΓ i_X0 rfl 5 (by decide) tb_309 rfl hM hv hd hn kk
theorem pf_X3_11 (hΓ : CK E RX3 cc nL ret "<init>" d mc ms Γ) {a : Nat} {fs : List Value} {v : Value} (hM : M a = some (.inr (2, fs))) (hok : narrow (tyX3 1) (tv E v) = tv E v ∧ fits (tyX3 1) (tv E v) = true) (hlen : 1 < fs.length) (hd : decode cc pc = .ok (.putfield 11, 3)) (hn : pc + 3 = pc') (kk : SV E Γ nL (va_up M a (some (.inr (2, fs.set 1 v)))) nx ce sl pc' lv st) : SV E Γ nL M nx ce sl pc lv (v :: .ref a :: st) :=
  sv_putF hΓ i_X3 tyX3 tyX3_ok nmX3 rfl 1 (by decide) tb_174 rfl rfl rfl (by decide +kernel) hM hok hlen hd hn kk
theorem pf_X3_17 (hΓ : CK E RX3 cc nL ret "<init>" d mc ms Γ) {a : Nat} {fs : List Value} {v : Value} (hM : M a = some (.inr (2, fs))) (hok : narrow (tyX3 2) (tv E v) = tv E v ∧ fits (tyX3 2) (tv E v) = true) (hlen : 2 < fs.length) (hd : decode cc pc = .ok (.putfield 17, 3)) (hn : pc + 3 = pc') (kk : SV E Γ nL (va_up M a (some (.inr (2, fs.set 2 v)))) nx ce sl pc' lv st) : SV E Γ nL M nx ce sl pc lv (v :: .ref a :: st) :=
  sv_putF hΓ i_X3 tyX3 tyX3_ok nmX3 rfl 2 (by decide) tb_176 rfl rfl rfl (by decide +kernel) hM hok hlen hd hn kk
theorem pf_X3_20 (hΓ : CK E RX3 cc nL ret "<init>" d mc ms Γ) {a : Nat} {fs : List Value} {v : Value} (hM : M a = some (.inr (2, fs))) (hok : narrow (tyX3 3) (tv E v) = tv E v ∧ fits (tyX3 3) (tv E v) = true) (hlen : 3 < fs.length) (hd : decode cc pc = .ok (.putfield 20, 3)) (hn : pc + 3 = pc') (kk : SV E Γ nL (va_up M a (some (.inr (2, fs.set 3 v)))) nx ce sl pc' lv st) : SV E Γ nL M nx ce sl pc lv (v :: .ref a :: st) :=
  sv_putF hΓ i_X3 tyX3 tyX3_ok nmX3 rfl 3 (by decide) tb_178 rfl rfl rfl (by decide +kernel) hM hok hlen hd hn kk
theorem pf_X3_24 (hΓ : CK E RX3 cc nL ret "<init>" d mc ms Γ) {a : Nat} {fs : List Value} {v : Value} (hM : M a = some (.inr (2, fs))) (hok : narrow (tyX3 4) (tv E v) = tv E v ∧ fits (tyX3 4) (tv E v) = true) (hlen : 4 < fs.length) (hd : decode cc pc = .ok (.putfield 24, 3)) (hn : pc + 3 = pc') (kk : SV E Γ nL (va_up M a (some (.inr (2, fs.set 4 v)))) nx ce sl pc' lv st) : SV E Γ nL M nx ce sl pc lv (v :: .ref a :: st) :=
  sv_putF hΓ i_X3 tyX3 tyX3_ok nmX3 rfl 4 (by decide) tb_180 rfl rfl rfl (by decide +kernel) hM hok hlen hd hn kk
theorem pf_X3_27 (hΓ : CK E RX3 cc nL ret "<init>" d mc ms Γ) {a : Nat} {fs : List Value} {v : Value} (hM : M a = some (.inr (2, fs))) (hok : narrow (tyX3 5) (tv E v) = tv E v ∧ fits (tyX3 5) (tv E v) = true) (hlen : 5 < fs.length) (hd : decode cc pc = .ok (.putfield 27, 3)) (hn : pc + 3 = pc') (kk : SV E Γ nL (va_up M a (some (.inr (2, fs.set 5 v)))) nx ce sl pc' lv st) : SV E Γ nL M nx ce sl pc lv (v :: .ref a :: st) :=
  sv_putF hΓ i_X3 tyX3 tyX3_ok nmX3 rfl 5 (by decide) tb_182 rfl rfl rfl (by decide +kernel) hM hok hlen hd hn kk
theorem pf_X3_31 (hΓ : CK E RX3 cc nL ret "<init>" d mc ms Γ) {a : Nat} {fs : List Value} {v : Value} (hM : M a = some (.inr (2, fs))) (hok : narrow (tyX3 6) (tv E v) = tv E v ∧ fits (tyX3 6) (tv E v) = true) (hlen : 6 < fs.length) (hd : decode cc pc = .ok (.putfield 31, 3)) (hn : pc + 3 = pc') (kk : SV E Γ nL (va_up M a (some (.inr (2, fs.set 6 v)))) nx ce sl pc' lv st) : SV E Γ nL M nx ce sl pc lv (v :: .ref a :: st) :=
  sv_putF hΓ i_X3 tyX3 tyX3_ok nmX3 rfl 6 (by decide) tb_183 rfl rfl rfl (by decide +kernel) hM hok hlen hd hn kk
theorem pf_X3_34 (hΓ : CK E RX3 cc nL ret "<init>" d mc ms Γ) {a : Nat} {fs : List Value} {v : Value} (hM : M a = some (.inr (2, fs))) (hok : narrow (tyX3 7) (tv E v) = tv E v ∧ fits (tyX3 7) (tv E v) = true) (hlen : 7 < fs.length) (hd : decode cc pc = .ok (.putfield 34, 3)) (hn : pc + 3 = pc') (kk : SV E Γ nL (va_up M a (some (.inr (2, fs.set 7 v)))) nx ce sl pc' lv st) : SV E Γ nL M nx ce sl pc lv (v :: .ref a :: st) :=
  sv_putF hΓ i_X3 tyX3 tyX3_ok nmX3 rfl 7 (by decide) tb_184 rfl rfl rfl (by decide +kernel) hM hok hlen hd hn kk
theorem pt_X3_37 (hΓ : CK E RX3 cc nL ret nm d mc ms Γ) {a : Nat} {fs : List Value} {v : Value} (hM : M a = some (.inr (2, fs))) (hok : narrow .int (tv E v) = tv E v ∧ fits .int (tv E v) = true) (hlen : 8 < fs.length) (hd : decode cc pc = .ok (.putfield 37, 3)) (hn : pc + 3 = pc') (kk : SV E Γ nL (va_up M a (some (.inr (2, fs.set 8 v)))) nx ce sl pc' lv st) : SV E Γ nL M nx ce sl pc lv (v :: .ref a :: st) :=
  sv_put hΓ i_X3 tyX3 tyX3_ok nmX3 rfl 8 (by decide) tb_185 rfl rfl (by decide +kernel) hM hok hlen hd hn kk
theorem p_X3_37_18 (hΓ : CK E RX3 cc nL ret nm d mc ms Γ) {v : Int32} (hd : decode cc pc = .ok (.putfield 37, 3)) (hn : pc + 3 = pc') (kk : SV E Γ nL (mm (up2 ci 18 8 v) cl cr dy) nx ce sl pc' lv (st)) : SV E Γ nL (mm ci cl cr dy) nx ce sl pc lv (.int v :: .ref 18 :: st) := by
  refine pt_X3_37 hΓ m_18 ⟨rfl, rfl⟩ (Nat.lt_of_succ_le (Nat.le_of_ble_eq_true rfl)) hd hn ?_
  refine SV_eq (M' := mm (up2 ci 18 8 v) cl cr dy) ?_ kk
  exact mm_i 17 8 rfl rfl
theorem pt_X3_41 (hΓ : CK E RX3 cc nL ret nm d mc ms Γ) {a : Nat} {fs : List Value} {v : Value} (hM : M a = some (.inr (2, fs))) (hok : narrow .int (tv E v) = tv E v ∧ fits .int (tv E v) = true) (hlen : 9 < fs.length) (hd : decode cc pc = .ok (.putfield 41, 3)) (hn : pc + 3 = pc') (kk : SV E Γ nL (va_up M a (some (.inr (2, fs.set 9 v)))) nx ce sl pc' lv st) : SV E Γ nL M nx ce sl pc lv (v :: .ref a :: st) :=
  sv_put hΓ i_X3 tyX3 tyX3_ok nmX3 rfl 9 (by decide) tb_187 rfl rfl (by decide +kernel) hM hok hlen hd hn kk
theorem p_X3_41_18 (hΓ : CK E RX3 cc nL ret nm d mc ms Γ) {v : Int32} (hd : decode cc pc = .ok (.putfield 41, 3)) (hn : pc + 3 = pc') (kk : SV E Γ nL (mm (up2 ci 18 9 v) cl cr dy) nx ce sl pc' lv (st)) : SV E Γ nL (mm ci cl cr dy) nx ce sl pc lv (.int v :: .ref 18 :: st) := by
  refine pt_X3_41 hΓ m_18 ⟨rfl, rfl⟩ (Nat.lt_of_succ_le (Nat.le_of_ble_eq_true rfl)) hd hn ?_
  refine SV_eq (M' := mm (up2 ci 18 9 v) cl cr dy) ?_ kk
  exact mm_i 17 9 rfl rfl
theorem pt_X3_44 (hΓ : CK E RX3 cc nL ret nm d mc ms Γ) {a : Nat} {fs : List Value} {v : Value} (hM : M a = some (.inr (2, fs))) (hok : narrow .int (tv E v) = tv E v ∧ fits .int (tv E v) = true) (hlen : 10 < fs.length) (hd : decode cc pc = .ok (.putfield 44, 3)) (hn : pc + 3 = pc') (kk : SV E Γ nL (va_up M a (some (.inr (2, fs.set 10 v)))) nx ce sl pc' lv st) : SV E Γ nL M nx ce sl pc lv (v :: .ref a :: st) :=
  sv_put hΓ i_X3 tyX3 tyX3_ok nmX3 rfl 10 (by decide) tb_189 rfl rfl (by decide +kernel) hM hok hlen hd hn kk
theorem p_X3_44_18 (hΓ : CK E RX3 cc nL ret nm d mc ms Γ) {v : Int32} (hd : decode cc pc = .ok (.putfield 44, 3)) (hn : pc + 3 = pc') (kk : SV E Γ nL (mm (up2 ci 18 10 v) cl cr dy) nx ce sl pc' lv (st)) : SV E Γ nL (mm ci cl cr dy) nx ce sl pc lv (.int v :: .ref 18 :: st) := by
  refine pt_X3_44 hΓ m_18 ⟨rfl, rfl⟩ (Nat.lt_of_succ_le (Nat.le_of_ble_eq_true rfl)) hd hn ?_
  refine SV_eq (M' := mm (up2 ci 18 10 v) cl cr dy) ?_ kk
  exact mm_i 17 10 rfl rfl
theorem pt_X3_47 (hΓ : CK E RX3 cc nL ret nm d mc ms Γ) {a : Nat} {fs : List Value} {v : Value} (hM : M a = some (.inr (2, fs))) (hok : narrow .int (tv E v) = tv E v ∧ fits .int (tv E v) = true) (hlen : 11 < fs.length) (hd : decode cc pc = .ok (.putfield 47, 3)) (hn : pc + 3 = pc') (kk : SV E Γ nL (va_up M a (some (.inr (2, fs.set 11 v)))) nx ce sl pc' lv st) : SV E Γ nL M nx ce sl pc lv (v :: .ref a :: st) :=
  sv_put hΓ i_X3 tyX3 tyX3_ok nmX3 rfl 11 (by decide) tb_191 rfl rfl (by decide +kernel) hM hok hlen hd hn kk
theorem p_X3_47_18 (hΓ : CK E RX3 cc nL ret nm d mc ms Γ) {v : Int32} (hd : decode cc pc = .ok (.putfield 47, 3)) (hn : pc + 3 = pc') (kk : SV E Γ nL (mm (up2 ci 18 11 v) cl cr dy) nx ce sl pc' lv (st)) : SV E Γ nL (mm ci cl cr dy) nx ce sl pc lv (.int v :: .ref 18 :: st) := by
  refine pt_X3_47 hΓ m_18 ⟨rfl, rfl⟩ (Nat.lt_of_succ_le (Nat.le_of_ble_eq_true rfl)) hd hn ?_
  refine SV_eq (M' := mm (up2 ci 18 11 v) cl cr dy) ?_ kk
  exact mm_i 17 11 rfl rfl
theorem pf_X3_50 (hΓ : CK E RX3 cc nL ret "<init>" d mc ms Γ) {a : Nat} {fs : List Value} {v : Value} (hM : M a = some (.inr (2, fs))) (hok : narrow (tyX3 0) (tv E v) = tv E v ∧ fits (tyX3 0) (tv E v) = true) (hlen : 0 < fs.length) (hd : decode cc pc = .ok (.putfield 50, 3)) (hn : pc + 3 = pc') (kk : SV E Γ nL (va_up M a (some (.inr (2, fs.set 0 v)))) nx ce sl pc' lv st) : SV E Γ nL M nx ce sl pc lv (v :: .ref a :: st) :=
  sv_putF hΓ i_X3 tyX3 tyX3_ok nmX3 rfl 0 (by decide) tb_173 rfl rfl rfl (by decide +kernel) hM hok hlen hd hn kk
theorem gt_X4_9 (hΓ : CK E RX4 cc nL ret nm d mc ms Γ) {a : Nat} {fs : List Value} {v : Value} (hM : M a = some (.inr (3, fs))) (hv : fs[2]? = some v) (hd : decode cc pc = .ok (.getfield 9, 3)) (hn : pc + 3 = pc') (kk : SV E Γ nL M nx ce sl pc' lv (v :: st)) : SV E Γ nL M nx ce sl pc lv (.ref a :: st) :=
  sv_get hΓ i_X4 rfl 2 (by decide) tb_76 rfl hM hv hd hn kk
theorem g_X4_9_8 (hΓ : CK E RX4 cc nL ret nm d mc ms Γ) (hd : decode cc pc = .ok (.getfield 9, 3)) (hn : pc + 3 = pc') (kk : SV E Γ nL (mm ci cl cr dy) nx ce sl pc' lv (.ref 9 :: st)) : SV E Γ nL (mm ci cl cr dy) nx ce sl pc lv (.ref 8 :: st) :=
  gt_X4_9 hΓ m_8 rfl hd hn kk
theorem gt_X4_15 (hΓ : CK E RX4 cc nL ret nm d mc ms Γ) {a : Nat} {fs : List Value} {v : Value} (hM : M a = some (.inr (3, fs))) (hv : fs[0]? = some v) (hd : decode cc pc = .ok (.getfield 15, 3)) (hn : pc + 3 = pc') (kk : SV E Γ nL M nx ce sl pc' lv (v :: st)) : SV E Γ nL M nx ce sl pc lv (.ref a :: st) :=
  sv_get hΓ i_X4 rfl 0 (by decide) tb_74 rfl hM hv hd hn kk
theorem g_X4_15_8 (hΓ : CK E RX4 cc nL ret nm d mc ms Γ) (hd : decode cc pc = .ok (.getfield 15, 3)) (hn : pc + 3 = pc') (kk : SV E Γ nL (mm ci cl cr dy) nx ce sl pc' lv (.ref 2 :: st)) : SV E Γ nL (mm ci cl cr dy) nx ce sl pc lv (.ref 8 :: st) :=
  gt_X4_15 hΓ m_8 rfl hd hn kk
theorem gt_X4_19 (hΓ : CK E RX4 cc nL ret nm d mc ms Γ) {a : Nat} {fs : List Value} {v : Value} (hM : M a = some (.inr (3, fs))) (hv : fs[1]? = some v) (hd : decode cc pc = .ok (.getfield 19, 3)) (hn : pc + 3 = pc') (kk : SV E Γ nL M nx ce sl pc' lv (v :: st)) : SV E Γ nL M nx ce sl pc lv (.ref a :: st) :=
  sv_get hΓ i_X4 rfl 1 (by decide) tb_75 rfl hM hv hd hn kk
theorem g_X4_19_8 (hΓ : CK E RX4 cc nL ret nm d mc ms Γ) (hd : decode cc pc = .ok (.getfield 19, 3)) (hn : pc + 3 = pc') (kk : SV E Γ nL (mm ci cl cr dy) nx ce sl pc' lv (.ref 4 :: st)) : SV E Γ nL (mm ci cl cr dy) nx ce sl pc lv (.ref 8 :: st) :=
  gt_X4_19 hΓ m_8 rfl hd hn kk
theorem gt_X4_65 (hΓ : CK E RX4 cc nL ret nm d mc ms Γ) {a : Nat} {fs : List Value} {v : Value} (hM : M a = some (.inr (0, fs))) (hv : fs[0]? = some v) (hd : decode cc pc = .ok (.getfield 65, 3)) (hn : pc + 3 = pc') (kk : SV E Γ nL M nx ce sl pc' lv (v :: st)) : SV E Γ nL M nx ce sl pc lv (.ref a :: st) :=
  sv_get hΓ i_X0 rfl 0 (by decide) tb_288 rfl hM hv hd hn kk
theorem gt_X4_69 (hΓ : CK E RX4 cc nL ret nm d mc ms Γ) {a : Nat} {fs : List Value} {v : Value} (hM : M a = some (.inr (0, fs))) (hv : fs[3]? = some v) (hd : decode cc pc = .ok (.getfield 69, 3)) (hn : pc + 3 = pc') (kk : SV E Γ nL M nx ce sl pc' lv (v :: st)) : SV E Γ nL M nx ce sl pc lv (.ref a :: st) :=
  sv_get hΓ i_X0 rfl 3 (by decide) tb_300 rfl hM hv hd hn kk
theorem gt_X4_72 (hΓ : CK E RX4 cc nL ret nm d mc ms Γ) {a : Nat} {fs : List Value} {v : Value} (hM : M a = some (.inr (0, fs))) (hv : fs[6]? = some v) (hd : decode cc pc = .ok (.getfield 72, 3)) (hn : pc + 3 = pc') (kk : SV E Γ nL M nx ce sl pc' lv (v :: st)) : SV E Γ nL M nx ce sl pc lv (.ref a :: st) :=
  sv_get hΓ i_X0 rfl 6 (by decide) tb_312 rfl hM hv hd hn kk
theorem gt_X4_82 (hΓ : CK E RX4 cc nL ret nm d mc ms Γ) {a : Nat} {fs : List Value} {v : Value} (hM : M a = some (.inr (0, fs))) (hv : fs[2]? = some v) (hd : decode cc pc = .ok (.getfield 82, 3)) (hn : pc + 3 = pc') (kk : SV E Γ nL M nx ce sl pc' lv (v :: st)) : SV E Γ nL M nx ce sl pc lv (.ref a :: st) :=
  sv_get hΓ i_X0 rfl 2 (by decide) tb_296 rfl hM hv hd hn kk
theorem pf_X4_9 (hΓ : CK E RX4 cc nL ret "<init>" d mc ms Γ) {a : Nat} {fs : List Value} {v : Value} (hM : M a = some (.inr (3, fs))) (hok : narrow (tyX4 2) (tv E v) = tv E v ∧ fits (tyX4 2) (tv E v) = true) (hlen : 2 < fs.length) (hd : decode cc pc = .ok (.putfield 9, 3)) (hn : pc + 3 = pc') (kk : SV E Γ nL (va_up M a (some (.inr (3, fs.set 2 v)))) nx ce sl pc' lv st) : SV E Γ nL M nx ce sl pc lv (v :: .ref a :: st) :=
  sv_putF hΓ i_X4 tyX4 tyX4_ok nmX4 rfl 2 (by decide) tb_76 rfl rfl rfl (by decide +kernel) hM hok hlen hd hn kk
theorem pf_X4_15 (hΓ : CK E RX4 cc nL ret "<init>" d mc ms Γ) {a : Nat} {fs : List Value} {v : Value} (hM : M a = some (.inr (3, fs))) (hok : narrow (tyX4 0) (tv E v) = tv E v ∧ fits (tyX4 0) (tv E v) = true) (hlen : 0 < fs.length) (hd : decode cc pc = .ok (.putfield 15, 3)) (hn : pc + 3 = pc') (kk : SV E Γ nL (va_up M a (some (.inr (3, fs.set 0 v)))) nx ce sl pc' lv st) : SV E Γ nL M nx ce sl pc lv (v :: .ref a :: st) :=
  sv_putF hΓ i_X4 tyX4 tyX4_ok nmX4 rfl 0 (by decide) tb_74 rfl rfl rfl (by decide +kernel) hM hok hlen hd hn kk
theorem pf_X4_19 (hΓ : CK E RX4 cc nL ret "<init>" d mc ms Γ) {a : Nat} {fs : List Value} {v : Value} (hM : M a = some (.inr (3, fs))) (hok : narrow (tyX4 1) (tv E v) = tv E v ∧ fits (tyX4 1) (tv E v) = true) (hlen : 1 < fs.length) (hd : decode cc pc = .ok (.putfield 19, 3)) (hn : pc + 3 = pc') (kk : SV E Γ nL (va_up M a (some (.inr (3, fs.set 1 v)))) nx ce sl pc' lv st) : SV E Γ nL M nx ce sl pc lv (v :: .ref a :: st) :=
  sv_putF hΓ i_X4 tyX4 tyX4_ok nmX4 rfl 1 (by decide) tb_75 rfl rfl rfl (by decide +kernel) hM hok hlen hd hn kk
theorem gt_X5_9 (hΓ : CK E RX5 cc nL ret nm d mc ms Γ) {a : Nat} {fs : List Value} {v : Value} (hM : M a = some (.inr (4, fs))) (hv : fs[3]? = some v) (hd : decode cc pc = .ok (.getfield 9, 3)) (hn : pc + 3 = pc') (kk : SV E Γ nL M nx ce sl pc' lv (v :: st)) : SV E Γ nL M nx ce sl pc lv (.ref a :: st) :=
  sv_get hΓ i_X5 rfl 3 (by decide) tb_93 rfl hM hv hd hn kk
theorem g_X5_9_10 (hΓ : CK E RX5 cc nL ret nm d mc ms Γ) (hd : decode cc pc = .ok (.getfield 9, 3)) (hn : pc + 3 = pc') (kk : SV E Γ nL (mm ci cl cr dy) nx ce sl pc' lv (.ref 11 :: st)) : SV E Γ nL (mm ci cl cr dy) nx ce sl pc lv (.ref 10 :: st) :=
  gt_X5_9 hΓ m_10 rfl hd hn kk
theorem gt_X5_15 (hΓ : CK E RX5 cc nL ret nm d mc ms Γ) {a : Nat} {fs : List Value} {v : Value} (hM : M a = some (.inr (4, fs))) (hv : fs[4]? = some v) (hd : decode cc pc = .ok (.getfield 15, 3)) (hn : pc + 3 = pc') (kk : SV E Γ nL M nx ce sl pc' lv (v :: st)) : SV E Γ nL M nx ce sl pc lv (.ref a :: st) :=
  sv_get hΓ i_X5 rfl 4 (by decide) tb_97 rfl hM hv hd hn kk
theorem g_X5_15_10 (hΓ : CK E RX5 cc nL ret nm d mc ms Γ) (hd : decode cc pc = .ok (.getfield 15, 3)) (hn : pc + 3 = pc') (kk : SV E Γ nL (mm ci cl cr dy) nx ce sl pc' lv (.ref 12 :: st)) : SV E Γ nL (mm ci cl cr dy) nx ce sl pc lv (.ref 10 :: st) :=
  gt_X5_15 hΓ m_10 rfl hd hn kk
theorem gt_X5_18 (hΓ : CK E RX5 cc nL ret nm d mc ms Γ) {a : Nat} {fs : List Value} {v : Value} (hM : M a = some (.inr (4, fs))) (hv : fs[5]? = some v) (hd : decode cc pc = .ok (.getfield 18, 3)) (hn : pc + 3 = pc') (kk : SV E Γ nL M nx ce sl pc' lv (v :: st)) : SV E Γ nL M nx ce sl pc lv (.ref a :: st) :=
  sv_get hΓ i_X5 rfl 5 (by decide) tb_100 rfl hM hv hd hn kk
theorem g_X5_18_10 (hΓ : CK E RX5 cc nL ret nm d mc ms Γ) (hd : decode cc pc = .ok (.getfield 18, 3)) (hn : pc + 3 = pc') (kk : SV E Γ nL (mm ci cl cr dy) nx ce sl pc' lv (.ref 13 :: st)) : SV E Γ nL (mm ci cl cr dy) nx ce sl pc lv (.ref 10 :: st) :=
  gt_X5_18 hΓ m_10 rfl hd hn kk
theorem gt_X5_21 (hΓ : CK E RX5 cc nL ret nm d mc ms Γ) {a : Nat} {fs : List Value} {v : Value} (hM : M a = some (.inr (4, fs))) (hv : fs[6]? = some v) (hd : decode cc pc = .ok (.getfield 21, 3)) (hn : pc + 3 = pc') (kk : SV E Γ nL M nx ce sl pc' lv (v :: st)) : SV E Γ nL M nx ce sl pc lv (.ref a :: st) :=
  sv_get hΓ i_X5 rfl 6 (by decide) tb_102 rfl hM hv hd hn kk
theorem g_X5_21_10 (hΓ : CK E RX5 cc nL ret nm d mc ms Γ) (hd : decode cc pc = .ok (.getfield 21, 3)) (hn : pc + 3 = pc') (kk : SV E Γ nL (mm ci cl cr dy) nx ce sl pc' lv (.int (ci 10 6) :: st)) : SV E Γ nL (mm ci cl cr dy) nx ce sl pc lv (.ref 10 :: st) :=
  gt_X5_21 hΓ m_10 rfl hd hn kk
theorem gt_X5_25 (hΓ : CK E RX5 cc nL ret nm d mc ms Γ) {a : Nat} {fs : List Value} {v : Value} (hM : M a = some (.inr (4, fs))) (hv : fs[0]? = some v) (hd : decode cc pc = .ok (.getfield 25, 3)) (hn : pc + 3 = pc') (kk : SV E Γ nL M nx ce sl pc' lv (v :: st)) : SV E Γ nL M nx ce sl pc lv (.ref a :: st) :=
  sv_get hΓ i_X5 rfl 0 (by decide) tb_90 rfl hM hv hd hn kk
theorem g_X5_25_10 (hΓ : CK E RX5 cc nL ret nm d mc ms Γ) (hd : decode cc pc = .ok (.getfield 25, 3)) (hn : pc + 3 = pc') (kk : SV E Γ nL (mm ci cl cr dy) nx ce sl pc' lv (.ref 2 :: st)) : SV E Γ nL (mm ci cl cr dy) nx ce sl pc lv (.ref 10 :: st) :=
  gt_X5_25 hΓ m_10 rfl hd hn kk
theorem gt_X5_29 (hΓ : CK E RX5 cc nL ret nm d mc ms Γ) {a : Nat} {fs : List Value} {v : Value} (hM : M a = some (.inr (4, fs))) (hv : fs[1]? = some v) (hd : decode cc pc = .ok (.getfield 29, 3)) (hn : pc + 3 = pc') (kk : SV E Γ nL M nx ce sl pc' lv (v :: st)) : SV E Γ nL M nx ce sl pc lv (.ref a :: st) :=
  sv_get hΓ i_X5 rfl 1 (by decide) tb_91 rfl hM hv hd hn kk
theorem g_X5_29_10 (hΓ : CK E RX5 cc nL ret nm d mc ms Γ) (hd : decode cc pc = .ok (.getfield 29, 3)) (hn : pc + 3 = pc') (kk : SV E Γ nL (mm ci cl cr dy) nx ce sl pc' lv (.ref 4 :: st)) : SV E Γ nL (mm ci cl cr dy) nx ce sl pc lv (.ref 10 :: st) :=
  gt_X5_29 hΓ m_10 rfl hd hn kk
theorem gt_X5_33 (hΓ : CK E RX5 cc nL ret nm d mc ms Γ) {a : Nat} {fs : List Value} {v : Value} (hM : M a = some (.inr (4, fs))) (hv : fs[2]? = some v) (hd : decode cc pc = .ok (.getfield 33, 3)) (hn : pc + 3 = pc') (kk : SV E Γ nL M nx ce sl pc' lv (v :: st)) : SV E Γ nL M nx ce sl pc lv (.ref a :: st) :=
  sv_get hΓ i_X5 rfl 2 (by decide) tb_92 rfl hM hv hd hn kk
theorem g_X5_33_10 (hΓ : CK E RX5 cc nL ret nm d mc ms Γ) (hd : decode cc pc = .ok (.getfield 33, 3)) (hn : pc + 3 = pc') (kk : SV E Γ nL (mm ci cl cr dy) nx ce sl pc' lv (.ref 8 :: st)) : SV E Γ nL (mm ci cl cr dy) nx ce sl pc lv (.ref 10 :: st) :=
  gt_X5_33 hΓ m_10 rfl hd hn kk
theorem gt_X5_82 (hΓ : CK E RX5 cc nL ret nm d mc ms Γ) {a : Nat} {fs : List Value} {v : Value} (hM : M a = some (.inr (8, fs))) (hv : fs[0]? = some v) (hd : decode cc pc = .ok (.getfield 82, 3)) (hn : pc + 3 = pc') (kk : SV E Γ nL M nx ce sl pc' lv (v :: st)) : SV E Γ nL M nx ce sl pc lv (.ref a :: st) :=
  sv_get hΓ i_X9 rfl 0 (by decide) tb_53 rfl hM hv hd hn kk
theorem g_X5_82_4 (hΓ : CK E RX5 cc nL ret nm d mc ms Γ) (hd : decode cc pc = .ok (.getfield 82, 3)) (hn : pc + 3 = pc') (kk : SV E Γ nL (mm ci cl cr dy) nx ce sl pc' lv (.ref 5 :: st)) : SV E Γ nL (mm ci cl cr dy) nx ce sl pc lv (.ref 4 :: st) :=
  gt_X5_82 hΓ m_4 rfl hd hn kk
theorem pf_X5_9 (hΓ : CK E RX5 cc nL ret "<init>" d mc ms Γ) {a : Nat} {fs : List Value} {v : Value} (hM : M a = some (.inr (4, fs))) (hok : narrow (tyX5 3) (tv E v) = tv E v ∧ fits (tyX5 3) (tv E v) = true) (hlen : 3 < fs.length) (hd : decode cc pc = .ok (.putfield 9, 3)) (hn : pc + 3 = pc') (kk : SV E Γ nL (va_up M a (some (.inr (4, fs.set 3 v)))) nx ce sl pc' lv st) : SV E Γ nL M nx ce sl pc lv (v :: .ref a :: st) :=
  sv_putF hΓ i_X5 tyX5 tyX5_ok nmX5 rfl 3 (by decide) tb_93 rfl rfl rfl (by decide +kernel) hM hok hlen hd hn kk
theorem pf_X5_15 (hΓ : CK E RX5 cc nL ret "<init>" d mc ms Γ) {a : Nat} {fs : List Value} {v : Value} (hM : M a = some (.inr (4, fs))) (hok : narrow (tyX5 4) (tv E v) = tv E v ∧ fits (tyX5 4) (tv E v) = true) (hlen : 4 < fs.length) (hd : decode cc pc = .ok (.putfield 15, 3)) (hn : pc + 3 = pc') (kk : SV E Γ nL (va_up M a (some (.inr (4, fs.set 4 v)))) nx ce sl pc' lv st) : SV E Γ nL M nx ce sl pc lv (v :: .ref a :: st) :=
  sv_putF hΓ i_X5 tyX5 tyX5_ok nmX5 rfl 4 (by decide) tb_97 rfl rfl rfl (by decide +kernel) hM hok hlen hd hn kk
theorem pf_X5_18 (hΓ : CK E RX5 cc nL ret "<init>" d mc ms Γ) {a : Nat} {fs : List Value} {v : Value} (hM : M a = some (.inr (4, fs))) (hok : narrow (tyX5 5) (tv E v) = tv E v ∧ fits (tyX5 5) (tv E v) = true) (hlen : 5 < fs.length) (hd : decode cc pc = .ok (.putfield 18, 3)) (hn : pc + 3 = pc') (kk : SV E Γ nL (va_up M a (some (.inr (4, fs.set 5 v)))) nx ce sl pc' lv st) : SV E Γ nL M nx ce sl pc lv (v :: .ref a :: st) :=
  sv_putF hΓ i_X5 tyX5 tyX5_ok nmX5 rfl 5 (by decide) tb_100 rfl rfl rfl (by decide +kernel) hM hok hlen hd hn kk
theorem pt_X5_21 (hΓ : CK E RX5 cc nL ret nm d mc ms Γ) {a : Nat} {fs : List Value} {v : Value} (hM : M a = some (.inr (4, fs))) (hok : narrow .int (tv E v) = tv E v ∧ fits .int (tv E v) = true) (hlen : 6 < fs.length) (hd : decode cc pc = .ok (.putfield 21, 3)) (hn : pc + 3 = pc') (kk : SV E Γ nL (va_up M a (some (.inr (4, fs.set 6 v)))) nx ce sl pc' lv st) : SV E Γ nL M nx ce sl pc lv (v :: .ref a :: st) :=
  sv_put hΓ i_X5 tyX5 tyX5_ok nmX5 rfl 6 (by decide) tb_102 rfl rfl (by decide +kernel) hM hok hlen hd hn kk
theorem p_X5_21_10 (hΓ : CK E RX5 cc nL ret nm d mc ms Γ) {v : Int32} (hd : decode cc pc = .ok (.putfield 21, 3)) (hn : pc + 3 = pc') (kk : SV E Γ nL (mm (up2 ci 10 6 v) cl cr dy) nx ce sl pc' lv (st)) : SV E Γ nL (mm ci cl cr dy) nx ce sl pc lv (.int v :: .ref 10 :: st) := by
  refine pt_X5_21 hΓ m_10 ⟨rfl, rfl⟩ (Nat.lt_of_succ_le (Nat.le_of_ble_eq_true rfl)) hd hn ?_
  refine SV_eq (M' := mm (up2 ci 10 6 v) cl cr dy) ?_ kk
  exact mm_i 9 6 rfl rfl
theorem pf_X5_25 (hΓ : CK E RX5 cc nL ret "<init>" d mc ms Γ) {a : Nat} {fs : List Value} {v : Value} (hM : M a = some (.inr (4, fs))) (hok : narrow (tyX5 0) (tv E v) = tv E v ∧ fits (tyX5 0) (tv E v) = true) (hlen : 0 < fs.length) (hd : decode cc pc = .ok (.putfield 25, 3)) (hn : pc + 3 = pc') (kk : SV E Γ nL (va_up M a (some (.inr (4, fs.set 0 v)))) nx ce sl pc' lv st) : SV E Γ nL M nx ce sl pc lv (v :: .ref a :: st) :=
  sv_putF hΓ i_X5 tyX5 tyX5_ok nmX5 rfl 0 (by decide) tb_90 rfl rfl rfl (by decide +kernel) hM hok hlen hd hn kk
theorem pf_X5_29 (hΓ : CK E RX5 cc nL ret "<init>" d mc ms Γ) {a : Nat} {fs : List Value} {v : Value} (hM : M a = some (.inr (4, fs))) (hok : narrow (tyX5 1) (tv E v) = tv E v ∧ fits (tyX5 1) (tv E v) = true) (hlen : 1 < fs.length) (hd : decode cc pc = .ok (.putfield 29, 3)) (hn : pc + 3 = pc') (kk : SV E Γ nL (va_up M a (some (.inr (4, fs.set 1 v)))) nx ce sl pc' lv st) : SV E Γ nL M nx ce sl pc lv (v :: .ref a :: st) :=
  sv_putF hΓ i_X5 tyX5 tyX5_ok nmX5 rfl 1 (by decide) tb_91 rfl rfl rfl (by decide +kernel) hM hok hlen hd hn kk
theorem pf_X5_33 (hΓ : CK E RX5 cc nL ret "<init>" d mc ms Γ) {a : Nat} {fs : List Value} {v : Value} (hM : M a = some (.inr (4, fs))) (hok : narrow (tyX5 2) (tv E v) = tv E v ∧ fits (tyX5 2) (tv E v) = true) (hlen : 2 < fs.length) (hd : decode cc pc = .ok (.putfield 33, 3)) (hn : pc + 3 = pc') (kk : SV E Γ nL (va_up M a (some (.inr (4, fs.set 2 v)))) nx ce sl pc' lv st) : SV E Γ nL M nx ce sl pc lv (v :: .ref a :: st) :=
  sv_putF hΓ i_X5 tyX5 tyX5_ok nmX5 rfl 2 (by decide) tb_92 rfl rfl rfl (by decide +kernel) hM hok hlen hd hn kk
theorem gt_X6_9 (hΓ : CK E RX6 cc nL ret nm d mc ms Γ) {a : Nat} {fs : List Value} {v : Value} (hM : M a = some (.inr (5, fs))) (hv : fs[3]? = some v) (hd : decode cc pc = .ok (.getfield 9, 3)) (hn : pc + 3 = pc') (kk : SV E Γ nL M nx ce sl pc' lv (v :: st)) : SV E Γ nL M nx ce sl pc lv (.ref a :: st) :=
  sv_get hΓ i_X6 rfl 3 (by decide) tb_129 rfl hM hv hd hn kk
theorem g_X6_9_14 (hΓ : CK E RX6 cc nL ret nm d mc ms Γ) (hd : decode cc pc = .ok (.getfield 9, 3)) (hn : pc + 3 = pc') (kk : SV E Γ nL (mm ci cl cr dy) nx ce sl pc' lv (.ref 15 :: st)) : SV E Γ nL (mm ci cl cr dy) nx ce sl pc lv (.ref 14 :: st) :=
  gt_X6_9 hΓ m_14 rfl hd hn kk
theorem gt_X6_15 (hΓ : CK E RX6 cc nL ret nm d mc ms Γ) {a : Nat} {fs : List Value} {v : Value} (hM : M a = some (.inr (5, fs))) (hv : fs[4]? = some v) (hd : decode cc pc = .ok (.getfield 15, 3)) (hn : pc + 3 = pc') (kk : SV E Γ nL M nx ce sl pc' lv (v :: st)) : SV E Γ nL M nx ce sl pc lv (.ref a :: st) :=
  sv_get hΓ i_X6 rfl 4 (by decide) tb_131 rfl hM hv hd hn kk
theorem g_X6_15_14 (hΓ : CK E RX6 cc nL ret nm d mc ms Γ) (hd : decode cc pc = .ok (.getfield 15, 3)) (hn : pc + 3 = pc') (kk : SV E Γ nL (mm ci cl cr dy) nx ce sl pc' lv (.ref 16 :: st)) : SV E Γ nL (mm ci cl cr dy) nx ce sl pc lv (.ref 14 :: st) :=
  gt_X6_15 hΓ m_14 rfl hd hn kk
theorem gt_X6_18 (hΓ : CK E RX6 cc nL ret nm d mc ms Γ) {a : Nat} {fs : List Value} {v : Value} (hM : M a = some (.inr (5, fs))) (hv : fs[5]? = some v) (hd : decode cc pc = .ok (.getfield 18, 3)) (hn : pc + 3 = pc') (kk : SV E Γ nL M nx ce sl pc' lv (v :: st)) : SV E Γ nL M nx ce sl pc lv (.ref a :: st) :=
  sv_get hΓ i_X6 rfl 5 (by decide) tb_133 rfl hM hv hd hn kk
theorem g_X6_18_14 (hΓ : CK E RX6 cc nL ret nm d mc ms Γ) (hd : decode cc pc = .ok (.getfield 18, 3)) (hn : pc + 3 = pc') (kk : SV E Γ nL (mm ci cl cr dy) nx ce sl pc' lv (.ref 17 :: st)) : SV E Γ nL (mm ci cl cr dy) nx ce sl pc lv (.ref 14 :: st) :=
  gt_X6_18 hΓ m_14 rfl hd hn kk
theorem gt_X6_21 (hΓ : CK E RX6 cc nL ret nm d mc ms Γ) {a : Nat} {fs : List Value} {v : Value} (hM : M a = some (.inr (5, fs))) (hv : fs[6]? = some v) (hd : decode cc pc = .ok (.getfield 21, 3)) (hn : pc + 3 = pc') (kk : SV E Γ nL M nx ce sl pc' lv (v :: st)) : SV E Γ nL M nx ce sl pc lv (.ref a :: st) :=
  sv_get hΓ i_X6 rfl 6 (by decide) tb_135 rfl hM hv hd hn kk
theorem g_X6_21_14 (hΓ : CK E RX6 cc nL ret nm d mc ms Γ) (hd : decode cc pc = .ok (.getfield 21, 3)) (hn : pc + 3 = pc') (kk : SV E Γ nL (mm ci cl cr dy) nx ce sl pc' lv (.int (ci 14 6) :: st)) : SV E Γ nL (mm ci cl cr dy) nx ce sl pc lv (.ref 14 :: st) :=
  gt_X6_21 hΓ m_14 rfl hd hn kk
theorem gt_X6_25 (hΓ : CK E RX6 cc nL ret nm d mc ms Γ) {a : Nat} {fs : List Value} {v : Value} (hM : M a = some (.inr (5, fs))) (hv : fs[0]? = some v) (hd : decode cc pc = .ok (.getfield 25, 3)) (hn : pc + 3 = pc') (kk : SV E Γ nL M nx ce sl pc' lv (v :: st)) : SV E Γ nL M nx ce sl pc lv (.ref a :: st) :=
  sv_get hΓ i_X6 rfl 0 (by decide) tb_126 rfl hM hv hd hn kk
theorem g_X6_25_14 (hΓ : CK E RX6 cc nL ret nm d mc ms Γ) (hd : decode cc pc = .ok (.getfield 25, 3)) (hn : pc + 3 = pc') (kk : SV E Γ nL (mm ci cl cr dy) nx ce sl pc' lv (.ref 2 :: st)) : SV E Γ nL (mm ci cl cr dy) nx ce sl pc lv (.ref 14 :: st) :=
  gt_X6_25 hΓ m_14 rfl hd hn kk
theorem gt_X6_29 (hΓ : CK E RX6 cc nL ret nm d mc ms Γ) {a : Nat} {fs : List Value} {v : Value} (hM : M a = some (.inr (5, fs))) (hv : fs[1]? = some v) (hd : decode cc pc = .ok (.getfield 29, 3)) (hn : pc + 3 = pc') (kk : SV E Γ nL M nx ce sl pc' lv (v :: st)) : SV E Γ nL M nx ce sl pc lv (.ref a :: st) :=
  sv_get hΓ i_X6 rfl 1 (by decide) tb_127 rfl hM hv hd hn kk
theorem g_X6_29_14 (hΓ : CK E RX6 cc nL ret nm d mc ms Γ) (hd : decode cc pc = .ok (.getfield 29, 3)) (hn : pc + 3 = pc') (kk : SV E Γ nL (mm ci cl cr dy) nx ce sl pc' lv (.ref 4 :: st)) : SV E Γ nL (mm ci cl cr dy) nx ce sl pc lv (.ref 14 :: st) :=
  gt_X6_29 hΓ m_14 rfl hd hn kk
theorem gt_X6_33 (hΓ : CK E RX6 cc nL ret nm d mc ms Γ) {a : Nat} {fs : List Value} {v : Value} (hM : M a = some (.inr (5, fs))) (hv : fs[2]? = some v) (hd : decode cc pc = .ok (.getfield 33, 3)) (hn : pc + 3 = pc') (kk : SV E Γ nL M nx ce sl pc' lv (v :: st)) : SV E Γ nL M nx ce sl pc lv (.ref a :: st) :=
  sv_get hΓ i_X6 rfl 2 (by decide) tb_128 rfl hM hv hd hn kk
theorem g_X6_33_14 (hΓ : CK E RX6 cc nL ret nm d mc ms Γ) (hd : decode cc pc = .ok (.getfield 33, 3)) (hn : pc + 3 = pc') (kk : SV E Γ nL (mm ci cl cr dy) nx ce sl pc' lv (.ref 10 :: st)) : SV E Γ nL (mm ci cl cr dy) nx ce sl pc lv (.ref 14 :: st) :=
  gt_X6_33 hΓ m_14 rfl hd hn kk
theorem gt_X6_64 (hΓ : CK E RX6 cc nL ret nm d mc ms Γ) {a : Nat} {fs : List Value} {v : Value} (hM : M a = some (.inr (0, fs))) (hv : fs[0]? = some v) (hd : decode cc pc = .ok (.getfield 64, 3)) (hn : pc + 3 = pc') (kk : SV E Γ nL M nx ce sl pc' lv (v :: st)) : SV E Γ nL M nx ce sl pc lv (.ref a :: st) :=
  sv_get hΓ i_X0 rfl 0 (by decide) tb_289 rfl hM hv hd hn kk
theorem gt_X6_73 (hΓ : CK E RX6 cc nL ret nm d mc ms Γ) {a : Nat} {fs : List Value} {v : Value} (hM : M a = some (.inr (4, fs))) (hv : fs[3]? = some v) (hd : decode cc pc = .ok (.getfield 73, 3)) (hn : pc + 3 = pc') (kk : SV E Γ nL M nx ce sl pc' lv (v :: st)) : SV E Γ nL M nx ce sl pc lv (.ref a :: st) :=
  sv_get hΓ i_X5 rfl 3 (by decide) tb_95 rfl hM hv hd hn kk
theorem g_X6_73_10 (hΓ : CK E RX6 cc nL ret nm d mc ms Γ) (hd : decode cc pc = .ok (.getfield 73, 3)) (hn : pc + 3 = pc') (kk : SV E Γ nL (mm ci cl cr dy) nx ce sl pc' lv (.ref 11 :: st)) : SV E Γ nL (mm ci cl cr dy) nx ce sl pc lv (.ref 10 :: st) :=
  gt_X6_73 hΓ m_10 rfl hd hn kk
theorem gt_X6_88 (hΓ : CK E RX6 cc nL ret nm d mc ms Γ) {a : Nat} {fs : List Value} {v : Value} (hM : M a = some (.inr (0, fs))) (hv : fs[4]? = some v) (hd : decode cc pc = .ok (.getfield 88, 3)) (hn : pc + 3 = pc') (kk : SV E Γ nL M nx ce sl pc' lv (v :: st)) : SV E Γ nL M nx ce sl pc lv (.ref a :: st) :=
  sv_get hΓ i_X0 rfl 4 (by decide) tb_305 rfl hM hv hd hn kk
theorem gt_X6_91 (hΓ : CK E RX6 cc nL ret nm d mc ms Γ) {a : Nat} {fs : List Value} {v : Value} (hM : M a = some (.inr (0, fs))) (hv : fs[3]? = some v) (hd : decode cc pc = .ok (.getfield 91, 3)) (hn : pc + 3 = pc') (kk : SV E Γ nL M nx ce sl pc' lv (v :: st)) : SV E Γ nL M nx ce sl pc lv (.ref a :: st) :=
  sv_get hΓ i_X0 rfl 3 (by decide) tb_301 rfl hM hv hd hn kk
theorem gt_X6_97 (hΓ : CK E RX6 cc nL ret nm d mc ms Γ) {a : Nat} {fs : List Value} {v : Value} (hM : M a = some (.inr (4, fs))) (hv : fs[4]? = some v) (hd : decode cc pc = .ok (.getfield 97, 3)) (hn : pc + 3 = pc') (kk : SV E Γ nL M nx ce sl pc' lv (v :: st)) : SV E Γ nL M nx ce sl pc lv (.ref a :: st) :=
  sv_get hΓ i_X5 rfl 4 (by decide) tb_98 rfl hM hv hd hn kk
theorem g_X6_97_10 (hΓ : CK E RX6 cc nL ret nm d mc ms Γ) (hd : decode cc pc = .ok (.getfield 97, 3)) (hn : pc + 3 = pc') (kk : SV E Γ nL (mm ci cl cr dy) nx ce sl pc' lv (.ref 12 :: st)) : SV E Γ nL (mm ci cl cr dy) nx ce sl pc lv (.ref 10 :: st) :=
  gt_X6_97 hΓ m_10 rfl hd hn kk
theorem pf_X6_9 (hΓ : CK E RX6 cc nL ret "<init>" d mc ms Γ) {a : Nat} {fs : List Value} {v : Value} (hM : M a = some (.inr (5, fs))) (hok : narrow (tyX6 3) (tv E v) = tv E v ∧ fits (tyX6 3) (tv E v) = true) (hlen : 3 < fs.length) (hd : decode cc pc = .ok (.putfield 9, 3)) (hn : pc + 3 = pc') (kk : SV E Γ nL (va_up M a (some (.inr (5, fs.set 3 v)))) nx ce sl pc' lv st) : SV E Γ nL M nx ce sl pc lv (v :: .ref a :: st) :=
  sv_putF hΓ i_X6 tyX6 tyX6_ok nmX6 rfl 3 (by decide) tb_129 rfl rfl rfl (by decide +kernel) hM hok hlen hd hn kk
theorem pf_X6_15 (hΓ : CK E RX6 cc nL ret "<init>" d mc ms Γ) {a : Nat} {fs : List Value} {v : Value} (hM : M a = some (.inr (5, fs))) (hok : narrow (tyX6 4) (tv E v) = tv E v ∧ fits (tyX6 4) (tv E v) = true) (hlen : 4 < fs.length) (hd : decode cc pc = .ok (.putfield 15, 3)) (hn : pc + 3 = pc') (kk : SV E Γ nL (va_up M a (some (.inr (5, fs.set 4 v)))) nx ce sl pc' lv st) : SV E Γ nL M nx ce sl pc lv (v :: .ref a :: st) :=
  sv_putF hΓ i_X6 tyX6 tyX6_ok nmX6 rfl 4 (by decide) tb_131 rfl rfl rfl (by decide +kernel) hM hok hlen hd hn kk
theorem pf_X6_18 (hΓ : CK E RX6 cc nL ret "<init>" d mc ms Γ) {a : Nat} {fs : List Value} {v : Value} (hM : M a = some (.inr (5, fs))) (hok : narrow (tyX6 5) (tv E v) = tv E v ∧ fits (tyX6 5) (tv E v) = true) (hlen : 5 < fs.length) (hd : decode cc pc = .ok (.putfield 18, 3)) (hn : pc + 3 = pc') (kk : SV E Γ nL (va_up M a (some (.inr (5, fs.set 5 v)))) nx ce sl pc' lv st) : SV E Γ nL M nx ce sl pc lv (v :: .ref a :: st) :=
  sv_putF hΓ i_X6 tyX6 tyX6_ok nmX6 rfl 5 (by decide) tb_133 rfl rfl rfl (by decide +kernel) hM hok hlen hd hn kk
theorem pt_X6_21 (hΓ : CK E RX6 cc nL ret nm d mc ms Γ) {a : Nat} {fs : List Value} {v : Value} (hM : M a = some (.inr (5, fs))) (hok : narrow .int (tv E v) = tv E v ∧ fits .int (tv E v) = true) (hlen : 6 < fs.length) (hd : decode cc pc = .ok (.putfield 21, 3)) (hn : pc + 3 = pc') (kk : SV E Γ nL (va_up M a (some (.inr (5, fs.set 6 v)))) nx ce sl pc' lv st) : SV E Γ nL M nx ce sl pc lv (v :: .ref a :: st) :=
  sv_put hΓ i_X6 tyX6 tyX6_ok nmX6 rfl 6 (by decide) tb_135 rfl rfl (by decide +kernel) hM hok hlen hd hn kk
theorem p_X6_21_14 (hΓ : CK E RX6 cc nL ret nm d mc ms Γ) {v : Int32} (hd : decode cc pc = .ok (.putfield 21, 3)) (hn : pc + 3 = pc') (kk : SV E Γ nL (mm (up2 ci 14 6 v) cl cr dy) nx ce sl pc' lv (st)) : SV E Γ nL (mm ci cl cr dy) nx ce sl pc lv (.int v :: .ref 14 :: st) := by
  refine pt_X6_21 hΓ m_14 ⟨rfl, rfl⟩ (Nat.lt_of_succ_le (Nat.le_of_ble_eq_true rfl)) hd hn ?_
  refine SV_eq (M' := mm (up2 ci 14 6 v) cl cr dy) ?_ kk
  exact mm_i 13 6 rfl rfl
theorem pf_X6_25 (hΓ : CK E RX6 cc nL ret "<init>" d mc ms Γ) {a : Nat} {fs : List Value} {v : Value} (hM : M a = some (.inr (5, fs))) (hok : narrow (tyX6 0) (tv E v) = tv E v ∧ fits (tyX6 0) (tv E v) = true) (hlen : 0 < fs.length) (hd : decode cc pc = .ok (.putfield 25, 3)) (hn : pc + 3 = pc') (kk : SV E Γ nL (va_up M a (some (.inr (5, fs.set 0 v)))) nx ce sl pc' lv st) : SV E Γ nL M nx ce sl pc lv (v :: .ref a :: st) :=
  sv_putF hΓ i_X6 tyX6 tyX6_ok nmX6 rfl 0 (by decide) tb_126 rfl rfl rfl (by decide +kernel) hM hok hlen hd hn kk
theorem pf_X6_29 (hΓ : CK E RX6 cc nL ret "<init>" d mc ms Γ) {a : Nat} {fs : List Value} {v : Value} (hM : M a = some (.inr (5, fs))) (hok : narrow (tyX6 1) (tv E v) = tv E v ∧ fits (tyX6 1) (tv E v) = true) (hlen : 1 < fs.length) (hd : decode cc pc = .ok (.putfield 29, 3)) (hn : pc + 3 = pc') (kk : SV E Γ nL (va_up M a (some (.inr (5, fs.set 1 v)))) nx ce sl pc' lv st) : SV E Γ nL M nx ce sl pc lv (v :: .ref a :: st) :=
  sv_putF hΓ i_X6 tyX6 tyX6_ok nmX6 rfl 1 (by decide) tb_127 rfl rfl rfl (by decide +kernel) hM hok hlen hd hn kk
theorem pf_X6_33 (hΓ : CK E RX6 cc nL ret "<init>" d mc ms Γ) {a : Nat} {fs : List Value} {v : Value} (hM : M a = some (.inr (5, fs))) (hok : narrow (tyX6 2) (tv E v) = tv E v ∧ fits (tyX6 2) (tv E v) = true) (hlen : 2 < fs.length) (hd : decode cc pc = .ok (.putfield 33, 3)) (hn : pc + 3 = pc') (kk : SV E Γ nL (va_up M a (some (.inr (5, fs.set 2 v)))) nx ce sl pc' lv st) : SV E Γ nL M nx ce sl pc lv (v :: .ref a :: st) :=
  sv_putF hΓ i_X6 tyX6 tyX6_ok nmX6 rfl 2 (by decide) tb_128 rfl rfl rfl (by decide +kernel) hM hok hlen hd hn kk
theorem gt_X7_13 (hΓ : CK E RX7 cc nL ret nm d mc ms Γ) {a : Nat} {fs : List Value} {v : Value} (hM : M a = some (.inr (6, fs))) (hv : fs[1]? = some v) (hd : decode cc pc = .ok (.getfield 13, 3)) (hn : pc + 3 = pc') (kk : SV E Γ nL M nx ce sl pc' lv (v :: st)) : SV E Γ nL M nx ce sl pc lv (.ref a :: st) :=
  sv_get hΓ i_X7 rfl 1 (by decide) tb_747 rfl hM hv hd hn kk
theorem pf_X7_7 (hΓ : CK E RX7 cc nL ret "<init>" d mc ms Γ) {a : Nat} {fs : List Value} {v : Value} (hM : M a = some (.inr (6, fs))) (hok : narrow (tyX7 0) (tv E v) = tv E v ∧ fits (tyX7 0) (tv E v) = true) (hlen : 0 < fs.length) (hd : decode cc pc = .ok (.putfield 7, 3)) (hn : pc + 3 = pc') (kk : SV E Γ nL (va_up M a (some (.inr (6, fs.set 0 v)))) nx ce sl pc' lv st) : SV E Γ nL M nx ce sl pc lv (v :: .ref a :: st) :=
  sv_putF hΓ i_X7 tyX7 tyX7_ok nmX7 rfl 0 (by decide) tb_745 rfl rfl rfl (by decide +kernel) hM hok hlen hd hn kk
theorem pf_X7_13 (hΓ : CK E RX7 cc nL ret "<init>" d mc ms Γ) {a : Nat} {fs : List Value} {v : Value} (hM : M a = some (.inr (6, fs))) (hok : narrow (tyX7 1) (tv E v) = tv E v ∧ fits (tyX7 1) (tv E v) = true) (hlen : 1 < fs.length) (hd : decode cc pc = .ok (.putfield 13, 3)) (hn : pc + 3 = pc') (kk : SV E Γ nL (va_up M a (some (.inr (6, fs.set 1 v)))) nx ce sl pc' lv st) : SV E Γ nL M nx ce sl pc lv (v :: .ref a :: st) :=
  sv_putF hΓ i_X7 tyX7 tyX7_ok nmX7 rfl 1 (by decide) tb_747 rfl rfl rfl (by decide +kernel) hM hok hlen hd hn kk
theorem gt_X8_9 (hΓ : CK E RX8 cc nL ret nm d mc ms Γ) {a : Nat} {fs : List Value} {v : Value} (hM : M a = some (.inr (7, fs))) (hv : fs[0]? = some v) (hd : decode cc pc = .ok (.getfield 9, 3)) (hn : pc + 3 = pc') (kk : SV E Γ nL M nx ce sl pc' lv (v :: st)) : SV E Γ nL M nx ce sl pc lv (.ref a :: st) :=
  sv_get hΓ i_X8 rfl 0 (by decide) tb_269 rfl hM hv hd hn kk
theorem gt_X8_15 (hΓ : CK E RX8 cc nL ret nm d mc ms Γ) {a : Nat} {fs : List Value} {v : Value} (hM : M a = some (.inr (7, fs))) (hv : fs[1]? = some v) (hd : decode cc pc = .ok (.getfield 15, 3)) (hn : pc + 3 = pc') (kk : SV E Γ nL M nx ce sl pc' lv (v :: st)) : SV E Γ nL M nx ce sl pc lv (.ref a :: st) :=
  sv_get hΓ i_X8 rfl 1 (by decide) tb_272 rfl hM hv hd hn kk
theorem pf_X8_9 (hΓ : CK E RX8 cc nL ret "<init>" d mc ms Γ) {a : Nat} {fs : List Value} {v : Value} (hM : M a = some (.inr (7, fs))) (hok : narrow (tyX8 0) (tv E v) = tv E v ∧ fits (tyX8 0) (tv E v) = true) (hlen : 0 < fs.length) (hd : decode cc pc = .ok (.putfield 9, 3)) (hn : pc + 3 = pc') (kk : SV E Γ nL (va_up M a (some (.inr (7, fs.set 0 v)))) nx ce sl pc' lv st) : SV E Γ nL M nx ce sl pc lv (v :: .ref a :: st) :=
  sv_putF hΓ i_X8 tyX8 tyX8_ok nmX8 rfl 0 (by decide) tb_269 rfl rfl rfl (by decide +kernel) hM hok hlen hd hn kk
theorem pf_X8_15 (hΓ : CK E RX8 cc nL ret "<init>" d mc ms Γ) {a : Nat} {fs : List Value} {v : Value} (hM : M a = some (.inr (7, fs))) (hok : narrow (tyX8 1) (tv E v) = tv E v ∧ fits (tyX8 1) (tv E v) = true) (hlen : 1 < fs.length) (hd : decode cc pc = .ok (.putfield 15, 3)) (hn : pc + 3 = pc') (kk : SV E Γ nL (va_up M a (some (.inr (7, fs.set 1 v)))) nx ce sl pc' lv st) : SV E Γ nL M nx ce sl pc lv (v :: .ref a :: st) :=
  sv_putF hΓ i_X8 tyX8 tyX8_ok nmX8 rfl 1 (by decide) tb_272 rfl rfl rfl (by decide +kernel) hM hok hlen hd hn kk
theorem gt_X9_9 (hΓ : CK E RX9 cc nL ret nm d mc ms Γ) {a : Nat} {fs : List Value} {v : Value} (hM : M a = some (.inr (8, fs))) (hv : fs[0]? = some v) (hd : decode cc pc = .ok (.getfield 9, 3)) (hn : pc + 3 = pc') (kk : SV E Γ nL M nx ce sl pc' lv (v :: st)) : SV E Γ nL M nx ce sl pc lv (.ref a :: st) :=
  sv_get hΓ i_X9 rfl 0 (by decide) tb_52 rfl hM hv hd hn kk
theorem g_X9_9_4 (hΓ : CK E RX9 cc nL ret nm d mc ms Γ) (hd : decode cc pc = .ok (.getfield 9, 3)) (hn : pc + 3 = pc') (kk : SV E Γ nL (mm ci cl cr dy) nx ce sl pc' lv (.ref 5 :: st)) : SV E Γ nL (mm ci cl cr dy) nx ce sl pc lv (.ref 4 :: st) :=
  gt_X9_9 hΓ m_4 rfl hd hn kk
theorem gt_X9_15 (hΓ : CK E RX9 cc nL ret nm d mc ms Γ) {a : Nat} {fs : List Value} {v : Value} (hM : M a = some (.inr (8, fs))) (hv : fs[1]? = some v) (hd : decode cc pc = .ok (.getfield 15, 3)) (hn : pc + 3 = pc') (kk : SV E Γ nL M nx ce sl pc' lv (v :: st)) : SV E Γ nL M nx ce sl pc lv (.ref a :: st) :=
  sv_get hΓ i_X9 rfl 1 (by decide) tb_55 rfl hM hv hd hn kk
theorem g_X9_15_4 (hΓ : CK E RX9 cc nL ret nm d mc ms Γ) (hd : decode cc pc = .ok (.getfield 15, 3)) (hn : pc + 3 = pc') (kk : SV E Γ nL (mm ci cl cr dy) nx ce sl pc' lv (.ref 6 :: st)) : SV E Γ nL (mm ci cl cr dy) nx ce sl pc lv (.ref 4 :: st) :=
  gt_X9_15 hΓ m_4 rfl hd hn kk
theorem gt_X9_18 (hΓ : CK E RX9 cc nL ret nm d mc ms Γ) {a : Nat} {fs : List Value} {v : Value} (hM : M a = some (.inr (8, fs))) (hv : fs[2]? = some v) (hd : decode cc pc = .ok (.getfield 18, 3)) (hn : pc + 3 = pc') (kk : SV E Γ nL M nx ce sl pc' lv (v :: st)) : SV E Γ nL M nx ce sl pc lv (.ref a :: st) :=
  sv_get hΓ i_X9 rfl 2 (by decide) tb_57 rfl hM hv hd hn kk
theorem g_X9_18_4 (hΓ : CK E RX9 cc nL ret nm d mc ms Γ) (hd : decode cc pc = .ok (.getfield 18, 3)) (hn : pc + 3 = pc') (kk : SV E Γ nL (mm ci cl cr dy) nx ce sl pc' lv (.ref 7 :: st)) : SV E Γ nL (mm ci cl cr dy) nx ce sl pc lv (.ref 4 :: st) :=
  gt_X9_18 hΓ m_4 rfl hd hn kk
theorem gt_X9_22 (hΓ : CK E RX9 cc nL ret nm d mc ms Γ) {a : Nat} {fs : List Value} {v : Value} (hM : M a = some (.inr (0, fs))) (hv : fs[0]? = some v) (hd : decode cc pc = .ok (.getfield 22, 3)) (hn : pc + 3 = pc') (kk : SV E Γ nL M nx ce sl pc' lv (v :: st)) : SV E Γ nL M nx ce sl pc lv (.ref a :: st) :=
  sv_get hΓ i_X0 rfl 0 (by decide) tb_287 rfl hM hv hd hn kk
theorem pf_X9_9 (hΓ : CK E RX9 cc nL ret "<init>" d mc ms Γ) {a : Nat} {fs : List Value} {v : Value} (hM : M a = some (.inr (8, fs))) (hok : narrow (tyX9 0) (tv E v) = tv E v ∧ fits (tyX9 0) (tv E v) = true) (hlen : 0 < fs.length) (hd : decode cc pc = .ok (.putfield 9, 3)) (hn : pc + 3 = pc') (kk : SV E Γ nL (va_up M a (some (.inr (8, fs.set 0 v)))) nx ce sl pc' lv st) : SV E Γ nL M nx ce sl pc lv (v :: .ref a :: st) :=
  sv_putF hΓ i_X9 tyX9 tyX9_ok nmX9 rfl 0 (by decide) tb_52 rfl rfl rfl (by decide +kernel) hM hok hlen hd hn kk
theorem pf_X9_15 (hΓ : CK E RX9 cc nL ret "<init>" d mc ms Γ) {a : Nat} {fs : List Value} {v : Value} (hM : M a = some (.inr (8, fs))) (hok : narrow (tyX9 1) (tv E v) = tv E v ∧ fits (tyX9 1) (tv E v) = true) (hlen : 1 < fs.length) (hd : decode cc pc = .ok (.putfield 15, 3)) (hn : pc + 3 = pc') (kk : SV E Γ nL (va_up M a (some (.inr (8, fs.set 1 v)))) nx ce sl pc' lv st) : SV E Γ nL M nx ce sl pc lv (v :: .ref a :: st) :=
  sv_putF hΓ i_X9 tyX9 tyX9_ok nmX9 rfl 1 (by decide) tb_55 rfl rfl rfl (by decide +kernel) hM hok hlen hd hn kk
theorem pf_X9_18 (hΓ : CK E RX9 cc nL ret "<init>" d mc ms Γ) {a : Nat} {fs : List Value} {v : Value} (hM : M a = some (.inr (8, fs))) (hok : narrow (tyX9 2) (tv E v) = tv E v ∧ fits (tyX9 2) (tv E v) = true) (hlen : 2 < fs.length) (hd : decode cc pc = .ok (.putfield 18, 3)) (hn : pc + 3 = pc') (kk : SV E Γ nL (va_up M a (some (.inr (8, fs.set 2 v)))) nx ce sl pc' lv st) : SV E Γ nL M nx ce sl pc lv (v :: .ref a :: st) :=
  sv_putF hΓ i_X9 tyX9 tyX9_ok nmX9 rfl 2 (by decide) tb_57 rfl rfl rfl (by decide +kernel) hM hok hlen hd hn kk
end
theorem wv_L_28 : wV RL 28 yX11_init cX11_init 1 none 0 := ⟨⟨tb_25, tb_1, tb_27⟩, by decide +kernel, by decide⟩
theorem wv_X11_25 : wV RX11 25 yX4_init cX4_init 3 none 2 := ⟨⟨tb_70, tb_4, tb_72⟩, by decide +kernel, by decide⟩
theorem wv_X11_34 : wV RX11 34 yX5_init cX5_init 4 none 3 := ⟨⟨tb_86, tb_5, tb_88⟩, by decide +kernel, by decide⟩
theorem wv_X11_43 : wV RX11 43 yX6_init cX6_init 4 none 3 := ⟨⟨tb_122, tb_6, tb_124⟩, by decide +kernel, by decide⟩
theorem wv_X11_52 : wV RX11 52 yX3_init cX3_init 3 none 1 := ⟨⟨tb_154, tb_7, tb_156⟩, by decide +kernel, by decide⟩
theorem wv_X3_54 : wV RX3 54 yX10_init cX10_init 2 none 1 := ⟨⟨tb_161, tb_8, tb_163⟩, by decide +kernel, by decide⟩
theorem wv_L_34 : wV RL 34 yX11_constant cX11_constant 6 (some .int) 2 := ⟨⟨tb_248, tb_1, tb_251⟩, by decide +kernel, by decide⟩
theorem wv_X11_72 : wV RX11 72 yX11_isWidth cX11_isWidth 1 (some .boolean) 1 := ⟨⟨tb_252, tb_1, tb_254⟩, by decide +kernel, by decide⟩
theorem wv_X11_115 : wV RX11 115 yX11_within cX11_within 3 (some .boolean) 3 := ⟨⟨tb_255, tb_1, tb_257⟩, by decide +kernel, by decide⟩
theorem wv_X11_76 : wV RX11 76 yX11_cut cX11_cut 4 (some .long) 2 := ⟨⟨tb_258, tb_1, tb_260⟩, by decide +kernel, by decide⟩
theorem wv_X11_84 : wV RX11 84 yX8_init cX8_init 5 none 2 := ⟨⟨tb_265, tb_12, tb_267⟩, by decide +kernel, by decide⟩
theorem wv_X11_87 : wV RX11 87 yX0_init cX0_init 8 none 7 := ⟨⟨tb_279, tb_11, tb_281⟩, by decide +kernel, by decide⟩
theorem wv_X11_90 : wV RX11 90 yX11_append cX11_append 2 (some .int) 1 := ⟨⟨tb_330, tb_1, tb_333⟩, by decide +kernel, by decide⟩
theorem wv_X11_361 : wV RX11 361 yX1_isFull cX1_isFull 1 (some .boolean) 0 := ⟨⟨tb_334, tb_2, tb_337⟩, by decide +kernel, by decide⟩
theorem wv_X11_131 : wV RX11 131 yX11_forget cX11_forget 1 none 0 := ⟨⟨tb_338, tb_1, tb_341⟩, by decide +kernel, by decide⟩
theorem wv_X11_362 : wV RX11 362 yX1_add cX1_add 2 none 1 := ⟨⟨tb_342, tb_2, tb_345⟩, by decide +kernel, by decide⟩
theorem wv_X11_127 : wV RX11 127 yX1_size cX1_size 1 (some .int) 0 := ⟨⟨tb_346, tb_2, tb_349⟩, by decide +kernel, by decide⟩
theorem wv_L_39 : wV RL 39 yX11_port cX11_port 6 (some .int) 3 := ⟨⟨tb_350, tb_1, tb_353⟩, by decide +kernel, by decide⟩
theorem wv_X11_94 : wV RX11 94 yX11_isPort cX11_isPort 1 (some .boolean) 1 := ⟨⟨tb_354, tb_1, tb_356⟩, by decide +kernel, by decide⟩
theorem wv_X11_97 : wV RX11 97 yX1_has cX1_has 2 (some .boolean) 1 := ⟨⟨tb_357, tb_2, tb_360⟩, by decide +kernel, by decide⟩
theorem wv_X11_100 : wV RX11 100 yX8_wide cX8_wide 3 (some (.object "GateMaker$Span")) 1 := ⟨⟨tb_361, tb_12, tb_363⟩, by decide +kernel, by decide⟩
theorem wv_X8_18 : wV RX8 18 yX8_init cX8_init 5 none 2 := ⟨⟨tb_365, tb_12, tb_267⟩, by decide +kernel, by decide⟩
theorem wv_X11_104 : wV RX11 104 yX1_get cX1_get 2 (some (.object "GateMaker$Act")) 1 := ⟨⟨tb_366, tb_2, tb_369⟩, by decide +kernel, by decide⟩
theorem wv_X11_112 : wV RX11 112 yX8_fitted cX8_fitted 2 (some (.object "GateMaker$Span")) 1 := ⟨⟨tb_370, tb_12, tb_373⟩, by decide +kernel, by decide⟩
theorem wv_X8_21 : wV RX8 21 yX8_fits cX8_fits 4 (some .boolean) 1 := ⟨⟨tb_374, tb_12, tb_377⟩, by decide +kernel, by decide⟩
theorem wv_X8_25 : wV RX8 25 yX8_wide cX8_wide 3 (some (.object "GateMaker$Span")) 1 := ⟨⟨tb_378, tb_12, tb_363⟩, by decide +kernel, by decide⟩
theorem wv_L_44 : wV RL 44 yX11_reckon cX11_reckon 6 (some .int) 4 := ⟨⟨tb_379, tb_1, tb_382⟩, by decide +kernel, by decide⟩
theorem wv_X11_119 : wV RX11 119 yX8_reckoned cX8_reckoned 3 (some (.object "GateMaker$Span")) 2 := ⟨⟨tb_383, tb_12, tb_386⟩, by decide +kernel, by decide⟩
theorem wv_X8_29 : wV RX8 29 yX8_product cX8_product 10 (some (.object "GateMaker$Span")) 1 := ⟨⟨tb_387, tb_12, tb_390⟩, by decide +kernel, by decide⟩
theorem wv_X8_40 : wV RX8 40 yJ9_min_f86c9 cJ9_min_f86c9 4 (some .long) 2 := ⟨⟨tb_391, tb_13, tb_393⟩, by decide +kernel, by decide⟩
theorem wv_X8_46 : wV RX8 46 yJ9_max_f86c9 cJ9_max_f86c9 4 (some .long) 2 := ⟨⟨tb_394, tb_13, tb_396⟩, by decide +kernel, by decide⟩
theorem wv_X8_33 : wV RX8 33 yX8_quotient cX8_quotient 3 (some (.object "GateMaker$Span")) 0 := ⟨⟨tb_397, tb_12, tb_400⟩, by decide +kernel, by decide⟩
theorem wv_X8_49 : wV RX8 49 yJ9_abs_067f4 cJ9_abs_067f4 2 (some .long) 1 := ⟨⟨tb_401, tb_13, tb_403⟩, by decide +kernel, by decide⟩
theorem wv_X8_37 : wV RX8 37 yX8_comparison cX8_comparison 4 (some (.object "GateMaker$Span")) 1 := ⟨⟨tb_404, tb_12, tb_407⟩, by decide +kernel, by decide⟩
theorem wv_L_49 : wV RL 49 yX11_pick cX11_pick 6 (some .int) 4 := ⟨⟨tb_408, tb_1, tb_411⟩, by decide +kernel, by decide⟩
theorem wv_X11_123 : wV RX11 123 yX8_picked cX8_picked 3 (some (.object "GateMaker$Span")) 2 := ⟨⟨tb_412, tb_12, tb_415⟩, by decide +kernel, by decide⟩
theorem wv_L_53 : wV RL 53 yX11_touch cX11_touch 6 (some .int) 3 := ⟨⟨tb_416, tb_1, tb_419⟩, by decide +kernel, by decide⟩
theorem wv_L_57 : wV RL 57 yX11_drop cX11_drop 1 (some .int) 0 := ⟨⟨tb_420, tb_1, tb_423⟩, by decide +kernel, by decide⟩
theorem wv_X11_134 : wV RX11 134 yX1_removeLast cX1_removeLast 1 none 0 := ⟨⟨tb_424, tb_2, tb_427⟩, by decide +kernel, by decide⟩
theorem wv_L_62 : wV RL 62 yX11_parts cX11_parts 4 (some .int) 2 := ⟨⟨tb_428, tb_1, tb_431⟩, by decide +kernel, by decide⟩
theorem wv_X11_137 : wV RX11 137 yX11_isKind cX11_isKind 1 (some .boolean) 1 := ⟨⟨tb_432, tb_1, tb_434⟩, by decide +kernel, by decide⟩
theorem wv_L_67 : wV RL 67 yX11_length cX11_length 5 (some .int) 3 := ⟨⟨tb_435, tb_1, tb_438⟩, by decide +kernel, by decide⟩
theorem wv_L_72 : wV RL 72 yX11_feed cX11_feed 5 (some .int) 2 := ⟨⟨tb_439, tb_1, tb_442⟩, by decide +kernel, by decide⟩
theorem wv_X11_155 : wV RX11 155 yX10_isFull cX10_isFull 1 (some .boolean) 0 := ⟨⟨tb_443, tb_8, tb_446⟩, by decide +kernel, by decide⟩
theorem wv_X11_161 : wV RX11 161 yX10_append cX10_append 3 none 1 := ⟨⟨tb_447, tb_8, tb_450⟩, by decide +kernel, by decide⟩
theorem wv_X11_164 : wV RX11 164 yX10_size cX10_size 1 (some .int) 0 := ⟨⟨tb_451, tb_8, tb_454⟩, by decide +kernel, by decide⟩
theorem wv_L_77 : wV RL 77 yX11_place cX11_place 4 (some .int) 2 := ⟨⟨tb_455, tb_1, tb_458⟩, by decide +kernel, by decide⟩
theorem wv_X11_165 : wV RX11 165 yX11_isPlace cX11_isPlace 2 (some .boolean) 1 := ⟨⟨tb_459, tb_1, tb_461⟩, by decide +kernel, by decide⟩
theorem wv_L_81 : wV RL 81 yX11_act cX11_act 4 (some .int) 2 := ⟨⟨tb_463, tb_1, tb_466⟩, by decide +kernel, by decide⟩
theorem wv_X11_192 : wV RX11 192 yX9_lengthOf cX9_lengthOf 3 (some .int) 1 := ⟨⟨tb_467, tb_3, tb_470⟩, by decide +kernel, by decide⟩
theorem wv_X9_28 : wV RX9 28 yX0_kind cX0_kind 1 (some .int) 0 := ⟨⟨tb_471, tb_11, tb_474⟩, by decide +kernel, by decide⟩
theorem wv_X11_195 : wV RX11 195 yX8_bits cX8_bits 2 (some .int) 0 := ⟨⟨tb_475, tb_12, tb_478⟩, by decide +kernel, by decide⟩
theorem wv_X11_198 : wV RX11 198 yX0_kind cX0_kind 1 (some .int) 0 := ⟨⟨tb_479, tb_11, tb_474⟩, by decide +kernel, by decide⟩
theorem wv_L_94 : wV RL 94 yX11_needs cX11_needs 3 (some .int) 2 := ⟨⟨tb_480, tb_1, tb_483⟩, by decide +kernel, by decide⟩
theorem wv_X11_215 : wV RX11 215 yX4_between cX4_between 6 (some .int) 2 := ⟨⟨tb_484, tb_4, tb_487⟩, by decide +kernel, by decide⟩
theorem wv_X4_23 : wV RX4 23 yX1_get cX1_get 2 (some (.object "GateMaker$Act")) 1 := ⟨⟨tb_488, tb_2, tb_369⟩, by decide +kernel, by decide⟩
theorem wv_X4_29 : wV RX4 29 yX0_takes cX0_takes 2 (some .boolean) 1 := ⟨⟨tb_489, tb_11, tb_492⟩, by decide +kernel, by decide⟩
theorem wv_X4_35 : wV RX4 35 yX0_canFail cX0_canFail 1 (some .boolean) 0 := ⟨⟨tb_493, tb_11, tb_496⟩, by decide +kernel, by decide⟩
theorem wv_X0_34 : wV RX0 34 yX0_failure cX0_failure 1 (some .int) 0 := ⟨⟨tb_497, tb_11, tb_500⟩, by decide +kernel, by decide⟩
theorem wv_X4_39 : wV RX4 39 yX0_changesOutside cX0_changesOutside 1 (some .boolean) 0 := ⟨⟨tb_501, tb_11, tb_504⟩, by decide +kernel, by decide⟩
theorem wv_X4_42 : wV RX4 42 yX9_lengthOf cX9_lengthOf 3 (some .int) 1 := ⟨⟨tb_505, tb_3, tb_470⟩, by decide +kernel, by decide⟩
theorem wv_X4_48 : wV RX4 48 yX4_meetInRow cX4_meetInRow 3 (some .boolean) 2 := ⟨⟨tb_506, tb_4, tb_509⟩, by decide +kernel, by decide⟩
theorem wv_X4_61 : wV RX4 61 yX0_kind cX0_kind 1 (some .int) 0 := ⟨⟨tb_510, tb_11, tb_474⟩, by decide +kernel, by decide⟩
theorem wv_X4_76 : wV RX4 76 yX8_meets cX8_meets 2 (some .boolean) 1 := ⟨⟨tb_511, tb_12, tb_514⟩, by decide +kernel, by decide⟩
theorem wv_X4_52 : wV RX4 52 yX4_meetAtPort cX4_meetAtPort 2 (some .boolean) 2 := ⟨⟨tb_515, tb_4, tb_517⟩, by decide +kernel, by decide⟩
theorem wv_X4_55 : wV RX4 55 yJ9_max_7cf53 cJ9_max_7cf53 2 (some .int) 2 := ⟨⟨tb_518, tb_13, tb_520⟩, by decide +kernel, by decide⟩
theorem wv_L_98 : wV RL 98 yX11_lay cX11_lay 1 (some .int) 0 := ⟨⟨tb_521, tb_1, tb_524⟩, by decide +kernel, by decide⟩
theorem wv_X11_219 : wV RX11 219 yX5_layActs cX5_layActs 2 none 0 := ⟨⟨tb_525, tb_5, tb_528⟩, by decide +kernel, by decide⟩
theorem wv_X5_37 : wV RX5 37 yX1_size cX1_size 1 (some .int) 0 := ⟨⟨tb_529, tb_2, tb_349⟩, by decide +kernel, by decide⟩
theorem wv_X5_43 : wV RX5 43 yX4_readyTick cX4_readyTick 6 (some .int) 2 := ⟨⟨tb_530, tb_4, tb_533⟩, by decide +kernel, by decide⟩
theorem wv_X4_85 : wV RX4 85 yX4_between cX4_between 6 (some .int) 2 := ⟨⟨tb_534, tb_4, tb_487⟩, by decide +kernel, by decide⟩
theorem wv_X5_49 : wV RX5 49 yX5_seat cX5_seat 6 none 2 := ⟨⟨tb_535, tb_5, tb_538⟩, by decide +kernel, by decide⟩
theorem wv_X5_53 : wV RX5 53 yX1_get cX1_get 2 (some (.object "GateMaker$Act")) 1 := ⟨⟨tb_539, tb_2, tb_369⟩, by decide +kernel, by decide⟩
theorem wv_X5_73 : wV RX5 73 yX0_kind cX0_kind 1 (some .int) 0 := ⟨⟨tb_540, tb_11, tb_474⟩, by decide +kernel, by decide⟩
theorem wv_X5_63 : wV RX5 63 yJ9_max_7cf53 cJ9_max_7cf53 2 (some .int) 2 := ⟨⟨tb_541, tb_13, tb_520⟩, by decide +kernel, by decide⟩
theorem wv_X5_78 : wV RX5 78 yX5_freePart cX5_freePart 5 (some .int) 3 := ⟨⟨tb_542, tb_5, tb_545⟩, by decide +kernel, by decide⟩
theorem wv_X5_85 : wV RX5 85 yX5_isFree cX5_isFree 8 (some .boolean) 4 := ⟨⟨tb_546, tb_5, tb_549⟩, by decide +kernel, by decide⟩
theorem wv_X5_89 : wV RX5 89 yX9_filledTicks cX9_filledTicks 2 (some .int) 1 := ⟨⟨tb_550, tb_3, tb_553⟩, by decide +kernel, by decide⟩
theorem wv_X5_57 : wV RX5 57 yX9_lengthOf cX9_lengthOf 3 (some .int) 1 := ⟨⟨tb_554, tb_3, tb_470⟩, by decide +kernel, by decide⟩
theorem wv_X5_69 : wV RX5 69 yX5_putInOrder cX5_putInOrder 3 none 1 := ⟨⟨tb_555, tb_5, tb_558⟩, by decide +kernel, by decide⟩
theorem wv_X11_222 : wV RX11 222 yX6_assign cX6_assign 3 none 0 := ⟨⟨tb_559, tb_6, tb_562⟩, by decide +kernel, by decide⟩
theorem wv_X6_37 : wV RX6 37 yX1_size cX1_size 1 (some .int) 0 := ⟨⟨tb_563, tb_2, tb_349⟩, by decide +kernel, by decide⟩
theorem wv_X6_43 : wV RX6 43 yX6_findLife cX6_findLife 4 none 1 := ⟨⟨tb_564, tb_6, tb_567⟩, by decide +kernel, by decide⟩
theorem wv_X6_60 : wV RX6 60 yX1_get cX1_get 2 (some (.object "GateMaker$Act")) 1 := ⟨⟨tb_568, tb_2, tb_369⟩, by decide +kernel, by decide⟩
theorem wv_X6_69 : wV RX6 69 yX0_takes cX0_takes 2 (some .boolean) 1 := ⟨⟨tb_569, tb_11, tb_492⟩, by decide +kernel, by decide⟩
theorem wv_X6_78 : wV RX6 78 yX9_lengthOf cX9_lengthOf 3 (some .int) 1 := ⟨⟨tb_570, tb_3, tb_470⟩, by decide +kernel, by decide⟩
theorem wv_X6_54 : wV RX6 54 yJ9_max_7cf53 cJ9_max_7cf53 2 (some .int) 2 := ⟨⟨tb_571, tb_13, tb_520⟩, by decide +kernel, by decide⟩
theorem wv_X6_47 : wV RX6 47 yX6_nextWithout cX6_nextWithout 4 (some .int) 0 := ⟨⟨tb_572, tb_6, tb_575⟩, by decide +kernel, by decide⟩
theorem wv_X6_50 : wV RX6 50 yX6_leastFree cX6_leastFree 3 (some .int) 1 := ⟨⟨tb_576, tb_6, tb_579⟩, by decide +kernel, by decide⟩
theorem wv_X6_84 : wV RX6 84 yX6_isTaken cX6_isTaken 4 (some .boolean) 2 := ⟨⟨tb_580, tb_6, tb_583⟩, by decide +kernel, by decide⟩
theorem wv_L_102 : wV RL 102 yX11_tick cX11_tick 3 (some .int) 2 := ⟨⟨tb_584, tb_1, tb_587⟩, by decide +kernel, by decide⟩
theorem wv_X11_234 : wV RX11 234 yX4_tightest cX4_tightest 5 (some .int) 2 := ⟨⟨tb_588, tb_4, tb_591⟩, by decide +kernel, by decide⟩
theorem wv_X11_238 : wV RX11 238 yX4_readyTick cX4_readyTick 6 (some .int) 2 := ⟨⟨tb_592, tb_4, tb_533⟩, by decide +kernel, by decide⟩
theorem wv_L_106 : wV RL 106 yX11_bound cX11_bound 4 (some .int) 1 := ⟨⟨tb_593, tb_1, tb_596⟩, by decide +kernel, by decide⟩
theorem wv_X11_250 : wV RX11 250 yX4_ticksWithAllParts cX4_ticksWithAllParts 3 (some .int) 0 := ⟨⟨tb_597, tb_4, tb_600⟩, by decide +kernel, by decide⟩
theorem wv_X4_88 : wV RX4 88 yX1_size cX1_size 1 (some .int) 0 := ⟨⟨tb_601, tb_2, tb_349⟩, by decide +kernel, by decide⟩
theorem wv_X4_91 : wV RX4 91 yX4_readyTick cX4_readyTick 6 (some .int) 2 := ⟨⟨tb_602, tb_4, tb_533⟩, by decide +kernel, by decide⟩
theorem wv_X11_253 : wV RX11 253 yX9_leastTicks cX9_leastTicks 5 (some .int) 2 := ⟨⟨tb_603, tb_3, tb_606⟩, by decide +kernel, by decide⟩
theorem wv_X9_32 : wV RX9 32 yX1_size cX1_size 1 (some .int) 0 := ⟨⟨tb_607, tb_2, tb_349⟩, by decide +kernel, by decide⟩
theorem wv_X9_37 : wV RX9 37 yX1_get cX1_get 2 (some (.object "GateMaker$Act")) 1 := ⟨⟨tb_608, tb_2, tb_369⟩, by decide +kernel, by decide⟩
theorem wv_X9_41 : wV RX9 41 yX9_filledTicks cX9_filledTicks 2 (some .int) 1 := ⟨⟨tb_609, tb_3, tb_553⟩, by decide +kernel, by decide⟩
theorem wv_X9_45 : wV RX9 45 yJ9_max_7cf53 cJ9_max_7cf53 2 (some .int) 2 := ⟨⟨tb_610, tb_13, tb_520⟩, by decide +kernel, by decide⟩
theorem wv_X11_257 : wV RX11 257 yJ9_max_7cf53 cJ9_max_7cf53 2 (some .int) 2 := ⟨⟨tb_611, tb_13, tb_520⟩, by decide +kernel, by decide⟩
theorem wv_L_111 : wV RL 111 yX11_registers cX11_registers 1 (some .int) 0 := ⟨⟨tb_612, tb_1, tb_615⟩, by decide +kernel, by decide⟩
theorem wv_L_115 : wV RL 115 yX11_chooser cX11_chooser 4 (some .int) 3 := ⟨⟨tb_616, tb_1, tb_619⟩, by decide +kernel, by decide⟩
theorem wv_X11_265 : wV RX11 265 yX6_sourcesOf cX6_sourcesOf 8 (some .int) 3 := ⟨⟨tb_620, tb_6, tb_623⟩, by decide +kernel, by decide⟩
theorem wv_X6_94 : wV RX6 94 yX0_kind cX0_kind 1 (some .int) 0 := ⟨⟨tb_624, tb_11, tb_474⟩, by decide +kernel, by decide⟩
theorem wv_X6_100 : wV RX6 100 yX6_sourceOf cX6_sourceOf 3 (some .int) 1 := ⟨⟨tb_625, tb_6, tb_628⟩, by decide +kernel, by decide⟩
theorem wv_X6_103 : wV RX6 103 yJ6_bitCount_0f7a4 cJ6_bitCount_0f7a4 1 (some .int) 1 := ⟨⟨tb_629, tb_18, tb_631⟩, by decide +kernel, by decide⟩
theorem wv_L_119 : wV RL 119 yX11_at cX11_at 3 (some .int) 2 := ⟨⟨tb_635, tb_1, tb_638⟩, by decide +kernel, by decide⟩
theorem wv_X11_269 : wV RX11 269 yX5_beginner cX5_beginner 5 (some .int) 2 := ⟨⟨tb_639, tb_5, tb_642⟩, by decide +kernel, by decide⟩
theorem wv_L_123 : wV RL 123 yX11_run cX11_run 2 (some .int) 1 := ⟨⟨tb_643, tb_1, tb_646⟩, by decide +kernel, by decide⟩
theorem wv_X11_272 : wV RX11 272 yX3_runLaid cX3_runLaid 2 none 1 := ⟨⟨tb_647, tb_7, tb_650⟩, by decide +kernel, by decide⟩
theorem wv_X3_57 : wV RX3 57 yX3_runInOrder cX3_runInOrder 4 none 1 := ⟨⟨tb_651, tb_7, tb_654⟩, by decide +kernel, by decide⟩
theorem wv_X3_72 : wV RX3 72 yX3_reset cX3_reset 2 none 0 := ⟨⟨tb_655, tb_7, tb_658⟩, by decide +kernel, by decide⟩
theorem wv_X3_90 : wV RX3 90 yX10_clear cX10_clear 1 none 0 := ⟨⟨tb_662, tb_8, tb_665⟩, by decide +kernel, by decide⟩
theorem wv_X3_75 : wV RX3 75 yX1_size cX1_size 1 (some .int) 0 := ⟨⟨tb_666, tb_2, tb_349⟩, by decide +kernel, by decide⟩
theorem wv_X3_81 : wV RX3 81 yX3_begin cX3_begin 3 none 1 := ⟨⟨tb_667, tb_7, tb_670⟩, by decide +kernel, by decide⟩
theorem wv_X3_93 : wV RX3 93 yX1_get cX1_get 2 (some (.object "GateMaker$Act")) 1 := ⟨⟨tb_671, tb_2, tb_369⟩, by decide +kernel, by decide⟩
theorem wv_X3_97 : wV RX3 97 yX3_failsNow cX3_failsNow 2 (some .boolean) 1 := ⟨⟨tb_672, tb_7, tb_675⟩, by decide +kernel, by decide⟩
theorem wv_X3_126 : wV RX3 126 yX10_size cX10_size 1 (some .int) 0 := ⟨⟨tb_676, tb_8, tb_454⟩, by decide +kernel, by decide⟩
theorem wv_X3_101 : wV RX3 101 yX0_failure cX0_failure 1 (some .int) 0 := ⟨⟨tb_678, tb_11, tb_500⟩, by decide +kernel, by decide⟩
theorem wv_X3_105 : wV RX3 105 yX3_result cX3_result 6 (some .long) 1 := ⟨⟨tb_679, tb_7, tb_682⟩, by decide +kernel, by decide⟩
theorem wv_X3_147 : wV RX3 147 yX10_get cX10_get 2 (some .long) 1 := ⟨⟨tb_683, tb_8, tb_686⟩, by decide +kernel, by decide⟩
theorem wv_X3_116 : wV RX3 116 yX3_passOutside cX3_passOutside 4 none 2 := ⟨⟨tb_688, tb_7, tb_691⟩, by decide +kernel, by decide⟩
theorem wv_X3_153 : wV RX3 153 yX3_store cX3_store 5 none 2 := ⟨⟨tb_692, tb_7, tb_695⟩, by decide +kernel, by decide⟩
theorem wv_X3_157 : wV RX3 157 yX10_append cX10_append 3 none 1 := ⟨⟨tb_696, tb_8, tb_450⟩, by decide +kernel, by decide⟩
theorem wv_X11_276 : wV RX11 276 yX3_runPlain cX3_runPlain 1 none 0 := ⟨⟨tb_697, tb_7, tb_700⟩, by decide +kernel, by decide⟩
theorem wv_L_128 : wV RL 128 yX11_told cX11_told 2 (some .int) 1 := ⟨⟨tb_701, tb_1, tb_704⟩, by decide +kernel, by decide⟩
theorem wv_X11_294 : wV RX11 294 yX11_total cX11_total 6 (some .int) 1 := ⟨⟨tb_705, tb_1, tb_707⟩, by decide +kernel, by decide⟩
theorem wv_L_136 : wV RL 136 yX11_outs cX11_outs 2 (some .int) 1 := ⟨⟨tb_708, tb_1, tb_711⟩, by decide +kernel, by decide⟩
theorem wv_L_144 : wV RL 144 yX11_count cX11_count 2 (some .int) 1 := ⟨⟨tb_712, tb_1, tb_715⟩, by decide +kernel, by decide⟩
theorem wv_X11_314 : wV RX11 314 yX1_operands cX1_operands 3 (some .int) 0 := ⟨⟨tb_716, tb_2, tb_719⟩, by decide +kernel, by decide⟩
theorem wv_X1_21 : wV RX1 21 yX0_operands cX0_operands 1 (some .int) 0 := ⟨⟨tb_720, tb_11, tb_723⟩, by decide +kernel, by decide⟩
theorem wv_L_148 : wV RL 148 yX11_keep cX11_keep 4 (some .int) 3 := ⟨⟨tb_724, tb_1, tb_727⟩, by decide +kernel, by decide⟩
theorem wv_X11_317 : wV RX11 317 yX11_isShelf cX11_isShelf 1 (some .boolean) 1 := ⟨⟨tb_728, tb_1, tb_730⟩, by decide +kernel, by decide⟩
theorem wv_X11_320 : wV RX11 320 yX11_keepAct cX11_keepAct 3 (some .int) 2 := ⟨⟨tb_731, tb_1, tb_734⟩, by decide +kernel, by decide⟩
theorem wv_X11_323 : wV RX11 323 yX11_keepTicks cX11_keepTicks 4 (some .int) 1 := ⟨⟨tb_735, tb_1, tb_738⟩, by decide +kernel, by decide⟩
theorem wv_X11_334 : wV RX11 334 yX7_init cX7_init 3 none 2 := ⟨⟨tb_741, tb_21, tb_743⟩, by decide +kernel, by decide⟩
theorem wv_L_152 : wV RL 152 yX11_make cX11_make 4 (some .int) 3 := ⟨⟨tb_761, tb_1, tb_764⟩, by decide +kernel, by decide⟩
theorem wv_L_159 : wV RL 159 yX11_copy cX11_copy 9 (some .int) 5 := ⟨⟨tb_765, tb_1, tb_768⟩, by decide +kernel, by decide⟩
theorem wv_X11_351 : wV RX11 351 yX11_copyCells cX11_copyCells 5 (some .int) 5 := ⟨⟨tb_769, tb_1, tb_771⟩, by decide +kernel, by decide⟩
theorem wv_X11_339 : wV RX11 339 yX7_reaches cX7_reaches 3 (some .boolean) 2 := ⟨⟨tb_772, tb_21, tb_775⟩, by decide +kernel, by decide⟩
theorem wv_L_164 : wV RL 164 yX11_weight cX11_weight 4 (some .int) 1 := ⟨⟨tb_777, tb_1, tb_780⟩, by decide +kernel, by decide⟩
theorem wv_X11_355 : wV RX11 355 yX0_heft cX0_heft 2 (some .int) 0 := ⟨⟨tb_781, tb_11, tb_784⟩, by decide +kernel, by decide⟩
theorem wv_X0_55 : wV RX0 55 yX0_operands cX0_operands 1 (some .int) 0 := ⟨⟨tb_785, tb_11, tb_723⟩, by decide +kernel, by decide⟩
theorem wv_L_168 : wV RL 168 yX11_toss cX11_toss 4 (some .int) 1 := ⟨⟨tb_786, tb_1, tb_789⟩, by decide +kernel, by decide⟩
theorem wv_X11_372 : wV RX11 372 yX0_fail cX0_fail 1 none 0 := ⟨⟨tb_796, tb_11, tb_799⟩, by decide +kernel, by decide⟩
theorem wv_L_7 : wV RL 7 yX11_span cX11_span 4 (some .long) 2 := ⟨⟨tb_904, tb_1, tb_907⟩, by decide +kernel, by decide⟩
theorem wv_L_15 : wV RL 15 yX11_out cX11_out 4 (some .long) 2 := ⟨⟨tb_914, tb_1, tb_917⟩, by decide +kernel, by decide⟩
theorem wv_X11_306 : wV RX11 306 yX10_get cX10_get 2 (some .long) 1 := ⟨⟨tb_922, tb_8, tb_686⟩, by decide +kernel, by decide⟩
theorem wv_L_21 : wV RL 21 yX11_row cX11_row 2 (some .long) 1 := ⟨⟨tb_926, tb_1, tb_929⟩, by decide +kernel, by decide⟩
theorem wv_L_25 : wV RL 25 yX11_element cX11_element 5 (some .long) 2 := ⟨⟨tb_934, tb_1, tb_937⟩, by decide +kernel, by decide⟩
theorem wv_L_31 : wV RL 31 yX12_init cX12_init 1 none 0 := ⟨⟨tb_942, tb_9, tb_944⟩, by decide +kernel, by decide⟩
theorem wv_L_91 : wV RL 91 yX12_thrown cX12_thrown 1 (some .int) 0 := ⟨⟨tb_1070, tb_9, tb_1073⟩, by decide +kernel, by decide⟩
theorem wv_L_38 : wV RL 38 yX12_constant cX12_constant 5 (some .int) 2 := ⟨⟨tb_1074, tb_9, tb_1077⟩, by decide +kernel, by decide⟩
theorem wv_X12_118 : wV RX12 118 yX12_isIn cX12_isIn 6 (some .boolean) 3 := ⟨⟨tb_1079, tb_9, tb_1081⟩, by decide +kernel, by decide⟩
theorem wv_X12_122 : wV RX12 122 yX12_added cX12_added 6 (some .int) 5 := ⟨⟨tb_1082, tb_9, tb_1085⟩, by decide +kernel, by decide⟩
theorem wv_X12_113 : wV RX12 113 yX12_changed cX12_changed 1 none 0 := ⟨⟨tb_1086, tb_9, tb_1089⟩, by decide +kernel, by decide⟩
theorem wv_X12_126 : wV RX12 126 yX12_cut cX12_cut 3 (some .long) 2 := ⟨⟨tb_1090, tb_9, tb_1092⟩, by decide +kernel, by decide⟩
theorem wv_L_43 : wV RL 43 yX12_port cX12_port 5 (some .int) 3 := ⟨⟨tb_1093, tb_9, tb_1096⟩, by decide +kernel, by decide⟩
theorem wv_X12_132 : wV RX12 132 yX12_isAct cX12_isAct 2 (some .boolean) 1 := ⟨⟨tb_1098, tb_9, tb_1101⟩, by decide +kernel, by decide⟩
theorem wv_L_48 : wV RL 48 yX12_reckon cX12_reckon 5 (some .int) 4 := ⟨⟨tb_1102, tb_9, tb_1105⟩, by decide +kernel, by decide⟩
theorem wv_L_52 : wV RL 52 yX12_pick cX12_pick 5 (some .int) 4 := ⟨⟨tb_1108, tb_9, tb_1111⟩, by decide +kernel, by decide⟩
theorem wv_L_56 : wV RL 56 yX12_touch cX12_touch 4 (some .int) 3 := ⟨⟨tb_1112, tb_9, tb_1115⟩, by decide +kernel, by decide⟩
theorem wv_L_61 : wV RL 61 yX12_drop cX12_drop 1 (some .int) 0 := ⟨⟨tb_1116, tb_9, tb_1119⟩, by decide +kernel, by decide⟩
theorem wv_L_66 : wV RL 66 yX12_parts cX12_parts 4 (some .int) 2 := ⟨⟨tb_1120, tb_9, tb_1123⟩, by decide +kernel, by decide⟩
theorem wv_L_71 : wV RL 71 yX12_length cX12_length 5 (some .int) 3 := ⟨⟨tb_1125, tb_9, tb_1128⟩, by decide +kernel, by decide⟩
theorem wv_L_76 : wV RL 76 yX12_feed cX12_feed 4 (some .int) 2 := ⟨⟨tb_1130, tb_9, tb_1133⟩, by decide +kernel, by decide⟩
theorem wv_L_80 : wV RL 80 yX12_place cX12_place 4 (some .int) 2 := ⟨⟨tb_1134, tb_9, tb_1137⟩, by decide +kernel, by decide⟩
theorem wv_L_84 : wV RL 84 yX12_act cX12_act 4 (some .int) 2 := ⟨⟨tb_1139, tb_9, tb_1142⟩, by decide +kernel, by decide⟩
theorem wv_X12_168 : wV RX12 168 yX12_lengthOf cX12_lengthOf 3 (some .int) 1 := ⟨⟨tb_1143, tb_9, tb_1146⟩, by decide +kernel, by decide⟩
theorem wv_X12_146 : wV RX12 146 yX12_kindOf cX12_kindOf 2 (some .int) 1 := ⟨⟨tb_1147, tb_9, tb_1150⟩, by decide +kernel, by decide⟩
theorem wv_X12_171 : wV RX12 171 yX12_findSpans cX12_findSpans 5 none 0 := ⟨⟨tb_1151, tb_9, tb_1154⟩, by decide +kernel, by decide⟩
theorem wv_X12_164 : wV RX12 164 yX12_spanOf cX12_spanOf 15 none 2 := ⟨⟨tb_1155, tb_9, tb_1158⟩, by decide +kernel, by decide⟩
theorem wv_X12_157 : wV RX12 157 yX12_lesser cX12_lesser 4 (some .long) 2 := ⟨⟨tb_1159, tb_9, tb_1161⟩, by decide +kernel, by decide⟩
theorem wv_X12_161 : wV RX12 161 yX12_greater cX12_greater 4 (some .long) 2 := ⟨⟨tb_1162, tb_9, tb_1164⟩, by decide +kernel, by decide⟩
theorem wv_X12_174 : wV RX12 174 yX12_bitsOf cX12_bitsOf 3 (some .int) 1 := ⟨⟨tb_1165, tb_9, tb_1168⟩, by decide +kernel, by decide⟩
theorem wv_L_90 : wV RL 90 yX12_span cX12_span 3 (some .long) 2 := ⟨⟨tb_1169, tb_9, tb_1172⟩, by decide +kernel, by decide⟩
theorem wv_L_97 : wV RL 97 yX12_needs cX12_needs 3 (some .int) 2 := ⟨⟨tb_1173, tb_9, tb_1176⟩, by decide +kernel, by decide⟩
theorem wv_X12_187 : wV RX12 187 yX12_need cX12_need 7 (some .int) 2 := ⟨⟨tb_1177, tb_9, tb_1180⟩, by decide +kernel, by decide⟩
theorem wv_X12_177 : wV RX12 177 yX12_meet cX12_meet 5 (some .boolean) 2 := ⟨⟨tb_1181, tb_9, tb_1184⟩, by decide +kernel, by decide⟩
theorem wv_X12_181 : wV RX12 181 yX12_canFail cX12_canFail 2 (some .boolean) 1 := ⟨⟨tb_1185, tb_9, tb_1188⟩, by decide +kernel, by decide⟩
theorem wv_X12_184 : wV RX12 184 yX12_isOperand cX12_isOperand 3 (some .boolean) 2 := ⟨⟨tb_1189, tb_9, tb_1192⟩, by decide +kernel, by decide⟩
theorem wv_L_101 : wV RL 101 yX12_lay cX12_lay 3 (some .int) 0 := ⟨⟨tb_1193, tb_9, tb_1196⟩, by decide +kernel, by decide⟩
theorem wv_X12_219 : wV RX12 219 yX12_askedFor cX12_askedFor 6 (some .int) 1 := ⟨⟨tb_1197, tb_9, tb_1200⟩, by decide +kernel, by decide⟩
theorem wv_X12_222 : wV RX12 222 yX12_freePart cX12_freePart 4 (some .int) 2 := ⟨⟨tb_1201, tb_9, tb_1204⟩, by decide +kernel, by decide⟩
theorem wv_X12_194 : wV RX12 194 yX12_isFree cX12_isFree 7 (some .boolean) 3 := ⟨⟨tb_1205, tb_9, tb_1208⟩, by decide +kernel, by decide⟩
theorem wv_X12_191 : wV RX12 191 yX12_fills cX12_fills 3 (some .int) 1 := ⟨⟨tb_1209, tb_9, tb_1212⟩, by decide +kernel, by decide⟩
theorem wv_X12_225 : wV RX12 225 yX12_findRegisters cX12_findRegisters 3 none 0 := ⟨⟨tb_1213, tb_9, tb_1216⟩, by decide +kernel, by decide⟩
theorem wv_X12_213 : wV RX12 213 yX12_isUsed cX12_isUsed 4 (some .boolean) 1 := ⟨⟨tb_1217, tb_9, tb_1220⟩, by decide +kernel, by decide⟩
theorem wv_X12_198 : wV RX12 198 yX12_lifeBegin cX12_lifeBegin 2 (some .int) 1 := ⟨⟨tb_1221, tb_9, tb_1224⟩, by decide +kernel, by decide⟩
theorem wv_X12_216 : wV RX12 216 yX12_freeRegister cX12_freeRegister 5 (some .int) 1 := ⟨⟨tb_1225, tb_9, tb_1228⟩, by decide +kernel, by decide⟩
theorem wv_X12_204 : wV RX12 204 yX12_liveTogether cX12_liveTogether 3 (some .boolean) 2 := ⟨⟨tb_1229, tb_9, tb_1232⟩, by decide +kernel, by decide⟩
theorem wv_X12_201 : wV RX12 201 yX12_lifeEnd cX12_lifeEnd 4 (some .int) 1 := ⟨⟨tb_1233, tb_9, tb_1236⟩, by decide +kernel, by decide⟩
theorem wv_L_105 : wV RL 105 yX12_tick cX12_tick 3 (some .int) 2 := ⟨⟨tb_1237, tb_9, tb_1240⟩, by decide +kernel, by decide⟩
theorem wv_X12_228 : wV RX12 228 yX12_justBehind cX12_justBehind 4 (some .int) 1 := ⟨⟨tb_1241, tb_9, tb_1244⟩, by decide +kernel, by decide⟩
theorem wv_L_110 : wV RL 110 yX12_bound cX12_bound 4 (some .int) 1 := ⟨⟨tb_1245, tb_9, tb_1248⟩, by decide +kernel, by decide⟩
theorem wv_X12_233 : wV RX12 233 yX12_freeTicks cX12_freeTicks 3 (some .int) 0 := ⟨⟨tb_1250, tb_9, tb_1253⟩, by decide +kernel, by decide⟩
theorem wv_X12_237 : wV RX12 237 yX12_filled cX12_filled 4 (some .int) 1 := ⟨⟨tb_1254, tb_9, tb_1257⟩, by decide +kernel, by decide⟩
theorem wv_L_114 : wV RL 114 yX12_registers cX12_registers 1 (some .int) 0 := ⟨⟨tb_1258, tb_9, tb_1261⟩, by decide +kernel, by decide⟩
theorem wv_L_118 : wV RL 118 yX12_chooser cX12_chooser 10 (some .int) 3 := ⟨⟨tb_1262, tb_9, tb_1265⟩, by decide +kernel, by decide⟩
theorem wv_X12_240 : wV RX12 240 yX12_source cX12_source 4 (some .int) 2 := ⟨⟨tb_1266, tb_9, tb_1269⟩, by decide +kernel, by decide⟩
theorem wv_L_122 : wV RL 122 yX12_at cX12_at 5 (some .int) 2 := ⟨⟨tb_1270, tb_9, tb_1273⟩, by decide +kernel, by decide⟩
theorem wv_L_127 : wV RL 127 yX12_run cX12_run 6 (some .int) 1 := ⟨⟨tb_1274, tb_9, tb_1277⟩, by decide +kernel, by decide⟩
theorem wv_X12_263 : wV RX12 263 yX12_begin cX12_begin 3 (some .int) 1 := ⟨⟨tb_1278, tb_9, tb_1281⟩, by decide +kernel, by decide⟩
theorem wv_X12_250 : wV RX12 250 yX12_why cX12_why 2 (some .int) 1 := ⟨⟨tb_1282, tb_9, tb_1285⟩, by decide +kernel, by decide⟩
theorem wv_X12_243 : wV RX12 243 yX12_numberAt cX12_numberAt 3 (some .long) 2 := ⟨⟨tb_1286, tb_9, tb_1289⟩, by decide +kernel, by decide⟩
theorem wv_X12_253 : wV RX12 253 yX12_given cX12_given 2 (some .long) 1 := ⟨⟨tb_1290, tb_9, tb_1293⟩, by decide +kernel, by decide⟩
theorem wv_L_131 : wV RL 131 yX12_told cX12_told 2 (some .int) 1 := ⟨⟨tb_1294, tb_9, tb_1297⟩, by decide +kernel, by decide⟩
theorem wv_L_135 : wV RL 135 yX12_out cX12_out 4 (some .long) 2 := ⟨⟨tb_1298, tb_9, tb_1301⟩, by decide +kernel, by decide⟩
theorem wv_L_139 : wV RL 139 yX12_outs cX12_outs 2 (some .int) 1 := ⟨⟨tb_1302, tb_9, tb_1305⟩, by decide +kernel, by decide⟩
theorem wv_L_143 : wV RL 143 yX12_row cX12_row 2 (some .long) 1 := ⟨⟨tb_1306, tb_9, tb_1309⟩, by decide +kernel, by decide⟩
theorem wv_L_147 : wV RL 147 yX12_count cX12_count 4 (some .int) 1 := ⟨⟨tb_1310, tb_9, tb_1313⟩, by decide +kernel, by decide⟩
theorem wv_X12_269 : wV RX12 269 yX12_operandsOf cX12_operandsOf 4 (some .int) 1 := ⟨⟨tb_1314, tb_9, tb_1317⟩, by decide +kernel, by decide⟩
theorem wv_L_151 : wV RL 151 yX12_keep cX12_keep 6 (some .int) 3 := ⟨⟨tb_1318, tb_9, tb_1321⟩, by decide +kernel, by decide⟩
theorem wv_X12_272 : wV RX12 272 yX12_isShelf cX12_isShelf 1 (some .boolean) 1 := ⟨⟨tb_1322, tb_9, tb_1324⟩, by decide +kernel, by decide⟩
theorem wv_X12_275 : wV RX12 275 yX12_weightOf cX12_weightOf 3 (some .int) 1 := ⟨⟨tb_1325, tb_9, tb_1328⟩, by decide +kernel, by decide⟩
theorem wv_L_155 : wV RL 155 yX12_make cX12_make 5 (some .int) 3 := ⟨⟨tb_1329, tb_9, tb_1332⟩, by decide +kernel, by decide⟩
theorem wv_L_158 : wV RL 158 yX12_element cX12_element 4 (some .long) 2 := ⟨⟨tb_1333, tb_9, tb_1336⟩, by decide +kernel, by decide⟩
theorem wv_L_163 : wV RL 163 yX12_copy cX12_copy 7 (some .int) 5 := ⟨⟨tb_1337, tb_9, tb_1340⟩, by decide +kernel, by decide⟩
theorem wv_X12_278 : wV RX12 278 yX12_hasPlaces cX12_hasPlaces 4 (some .boolean) 3 := ⟨⟨tb_1341, tb_9, tb_1344⟩, by decide +kernel, by decide⟩
theorem wv_L_167 : wV RL 167 yX12_weight cX12_weight 3 (some .int) 1 := ⟨⟨tb_1345, tb_9, tb_1348⟩, by decide +kernel, by decide⟩
theorem wv_X12_281 : wV RX12 281 yX12_denied cX12_denied 2 (some .int) 1 := ⟨⟨tb_1349, tb_9, tb_1352⟩, by decide +kernel, by decide⟩
theorem wv_L_171 : wV RL 171 yX12_toss cX12_toss 3 (some .int) 1 := ⟨⟨tb_1353, tb_9, tb_1356⟩, by decide +kernel, by decide⟩
theorem vs_X0_kind : Cond.instanceMethod yX0_kind ∈ TB ∧ Cond.selects yX0_kind.cls yX0_kind yX0_kind ∈ TB := ⟨tb_472, tb_473⟩
theorem vs_X0_operands : Cond.instanceMethod yX0_operands ∈ TB ∧ Cond.selects yX0_operands.cls yX0_operands yX0_operands ∈ TB := ⟨tb_721, tb_722⟩
theorem vs_X0_takes : Cond.instanceMethod yX0_takes ∈ TB ∧ Cond.selects yX0_takes.cls yX0_takes yX0_takes ∈ TB := ⟨tb_490, tb_491⟩
theorem vs_X0_canFail : Cond.instanceMethod yX0_canFail ∈ TB ∧ Cond.selects yX0_canFail.cls yX0_canFail yX0_canFail ∈ TB := ⟨tb_494, tb_495⟩
theorem vs_X0_changesOutside : Cond.instanceMethod yX0_changesOutside ∈ TB ∧ Cond.selects yX0_changesOutside.cls yX0_changesOutside yX0_changesOutside ∈ TB := ⟨tb_502, tb_503⟩
theorem vs_X0_failure : Cond.instanceMethod yX0_failure ∈ TB ∧ Cond.selects yX0_failure.cls yX0_failure yX0_failure ∈ TB := ⟨tb_498, tb_499⟩
theorem vs_X0_fail : Cond.instanceMethod yX0_fail ∈ TB ∧ Cond.selects yX0_fail.cls yX0_fail yX0_fail ∈ TB := ⟨tb_797, tb_798⟩
theorem vs_X0_heft : Cond.instanceMethod yX0_heft ∈ TB ∧ Cond.selects yX0_heft.cls yX0_heft yX0_heft ∈ TB := ⟨tb_782, tb_783⟩
theorem vs_X1_size : Cond.instanceMethod yX1_size ∈ TB ∧ Cond.selects yX1_size.cls yX1_size yX1_size ∈ TB := ⟨tb_347, tb_348⟩
theorem vs_X1_isFull : Cond.instanceMethod yX1_isFull ∈ TB ∧ Cond.selects yX1_isFull.cls yX1_isFull yX1_isFull ∈ TB := ⟨tb_335, tb_336⟩
theorem vs_X1_has : Cond.instanceMethod yX1_has ∈ TB ∧ Cond.selects yX1_has.cls yX1_has yX1_has ∈ TB := ⟨tb_358, tb_359⟩
theorem vs_X1_get : Cond.instanceMethod yX1_get ∈ TB ∧ Cond.selects yX1_get.cls yX1_get yX1_get ∈ TB := ⟨tb_367, tb_368⟩
theorem vs_X1_add : Cond.instanceMethod yX1_add ∈ TB ∧ Cond.selects yX1_add.cls yX1_add yX1_add ∈ TB := ⟨tb_343, tb_344⟩
theorem vs_X1_removeLast : Cond.instanceMethod yX1_removeLast ∈ TB ∧ Cond.selects yX1_removeLast.cls yX1_removeLast yX1_removeLast ∈ TB := ⟨tb_425, tb_426⟩
theorem vs_X1_operands : Cond.instanceMethod yX1_operands ∈ TB ∧ Cond.selects yX1_operands.cls yX1_operands yX1_operands ∈ TB := ⟨tb_717, tb_718⟩
theorem vs_X3_runPlain : Cond.instanceMethod yX3_runPlain ∈ TB ∧ Cond.selects yX3_runPlain.cls yX3_runPlain yX3_runPlain ∈ TB := ⟨tb_698, tb_699⟩
theorem vs_X3_runLaid : Cond.instanceMethod yX3_runLaid ∈ TB ∧ Cond.selects yX3_runLaid.cls yX3_runLaid yX3_runLaid ∈ TB := ⟨tb_648, tb_649⟩
theorem vs_X3_runInOrder : Cond.instanceMethod yX3_runInOrder ∈ TB ∧ Cond.selects yX3_runInOrder.cls yX3_runInOrder yX3_runInOrder ∈ TB := ⟨tb_653, tp_15⟩
theorem vs_X3_reset : Cond.instanceMethod yX3_reset ∈ TB ∧ Cond.selects yX3_reset.cls yX3_reset yX3_reset ∈ TB := ⟨tb_657, tp_16⟩
theorem vs_X3_begin : Cond.instanceMethod yX3_begin ∈ TB ∧ Cond.selects yX3_begin.cls yX3_begin yX3_begin ∈ TB := ⟨tb_669, tp_17⟩
theorem vs_X3_failsNow : Cond.instanceMethod yX3_failsNow ∈ TB ∧ Cond.selects yX3_failsNow.cls yX3_failsNow yX3_failsNow ∈ TB := ⟨tb_674, tp_18⟩
theorem vs_X3_result : Cond.instanceMethod yX3_result ∈ TB ∧ Cond.selects yX3_result.cls yX3_result yX3_result ∈ TB := ⟨tb_681, tp_19⟩
theorem vs_X3_passOutside : Cond.instanceMethod yX3_passOutside ∈ TB ∧ Cond.selects yX3_passOutside.cls yX3_passOutside yX3_passOutside ∈ TB := ⟨tb_690, tp_20⟩
theorem vs_X3_store : Cond.instanceMethod yX3_store ∈ TB ∧ Cond.selects yX3_store.cls yX3_store yX3_store ∈ TB := ⟨tb_694, tp_21⟩
theorem vs_X4_between : Cond.instanceMethod yX4_between ∈ TB ∧ Cond.selects yX4_between.cls yX4_between yX4_between ∈ TB := ⟨tb_485, tb_486⟩
theorem vs_X4_meetInRow : Cond.instanceMethod yX4_meetInRow ∈ TB ∧ Cond.selects yX4_meetInRow.cls yX4_meetInRow yX4_meetInRow ∈ TB := ⟨tb_508, tp_5⟩
theorem vs_X4_readyTick : Cond.instanceMethod yX4_readyTick ∈ TB ∧ Cond.selects yX4_readyTick.cls yX4_readyTick yX4_readyTick ∈ TB := ⟨tb_531, tb_532⟩
theorem vs_X4_tightest : Cond.instanceMethod yX4_tightest ∈ TB ∧ Cond.selects yX4_tightest.cls yX4_tightest yX4_tightest ∈ TB := ⟨tb_589, tb_590⟩
theorem vs_X4_ticksWithAllParts : Cond.instanceMethod yX4_ticksWithAllParts ∈ TB ∧ Cond.selects yX4_ticksWithAllParts.cls yX4_ticksWithAllParts yX4_ticksWithAllParts ∈ TB := ⟨tb_598, tb_599⟩
theorem vs_X5_layActs : Cond.instanceMethod yX5_layActs ∈ TB ∧ Cond.selects yX5_layActs.cls yX5_layActs yX5_layActs ∈ TB := ⟨tb_526, tb_527⟩
theorem vs_X5_seat : Cond.instanceMethod yX5_seat ∈ TB ∧ Cond.selects yX5_seat.cls yX5_seat yX5_seat ∈ TB := ⟨tb_537, tp_6⟩
theorem vs_X5_freePart : Cond.instanceMethod yX5_freePart ∈ TB ∧ Cond.selects yX5_freePart.cls yX5_freePart yX5_freePart ∈ TB := ⟨tb_544, tp_7⟩
theorem vs_X5_isFree : Cond.instanceMethod yX5_isFree ∈ TB ∧ Cond.selects yX5_isFree.cls yX5_isFree yX5_isFree ∈ TB := ⟨tb_548, tp_8⟩
theorem vs_X5_putInOrder : Cond.instanceMethod yX5_putInOrder ∈ TB ∧ Cond.selects yX5_putInOrder.cls yX5_putInOrder yX5_putInOrder ∈ TB := ⟨tb_557, tp_9⟩
theorem vs_X5_beginner : Cond.instanceMethod yX5_beginner ∈ TB ∧ Cond.selects yX5_beginner.cls yX5_beginner yX5_beginner ∈ TB := ⟨tb_640, tb_641⟩
theorem vs_X6_assign : Cond.instanceMethod yX6_assign ∈ TB ∧ Cond.selects yX6_assign.cls yX6_assign yX6_assign ∈ TB := ⟨tb_560, tb_561⟩
theorem vs_X6_findLife : Cond.instanceMethod yX6_findLife ∈ TB ∧ Cond.selects yX6_findLife.cls yX6_findLife yX6_findLife ∈ TB := ⟨tb_566, tp_10⟩
theorem vs_X6_nextWithout : Cond.instanceMethod yX6_nextWithout ∈ TB ∧ Cond.selects yX6_nextWithout.cls yX6_nextWithout yX6_nextWithout ∈ TB := ⟨tb_574, tp_11⟩
theorem vs_X6_leastFree : Cond.instanceMethod yX6_leastFree ∈ TB ∧ Cond.selects yX6_leastFree.cls yX6_leastFree yX6_leastFree ∈ TB := ⟨tb_578, tp_12⟩
theorem vs_X6_isTaken : Cond.instanceMethod yX6_isTaken ∈ TB ∧ Cond.selects yX6_isTaken.cls yX6_isTaken yX6_isTaken ∈ TB := ⟨tb_582, tp_13⟩
theorem vs_X6_sourcesOf : Cond.instanceMethod yX6_sourcesOf ∈ TB ∧ Cond.selects yX6_sourcesOf.cls yX6_sourcesOf yX6_sourcesOf ∈ TB := ⟨tb_621, tb_622⟩
theorem vs_X6_sourceOf : Cond.instanceMethod yX6_sourceOf ∈ TB ∧ Cond.selects yX6_sourceOf.cls yX6_sourceOf yX6_sourceOf ∈ TB := ⟨tb_627, tp_14⟩
theorem vs_X7_reaches : Cond.instanceMethod yX7_reaches ∈ TB ∧ Cond.selects yX7_reaches.cls yX7_reaches yX7_reaches ∈ TB := ⟨tb_773, tb_774⟩
theorem vs_X8_fits : Cond.instanceMethod yX8_fits ∈ TB ∧ Cond.selects yX8_fits.cls yX8_fits yX8_fits ∈ TB := ⟨tb_375, tb_376⟩
theorem vs_X8_fitted : Cond.instanceMethod yX8_fitted ∈ TB ∧ Cond.selects yX8_fitted.cls yX8_fitted yX8_fitted ∈ TB := ⟨tb_371, tb_372⟩
theorem vs_X8_bits : Cond.instanceMethod yX8_bits ∈ TB ∧ Cond.selects yX8_bits.cls yX8_bits yX8_bits ∈ TB := ⟨tb_476, tb_477⟩
theorem vs_X8_meets : Cond.instanceMethod yX8_meets ∈ TB ∧ Cond.selects yX8_meets.cls yX8_meets yX8_meets ∈ TB := ⟨tb_512, tb_513⟩
theorem vs_X8_reckoned : Cond.instanceMethod yX8_reckoned ∈ TB ∧ Cond.selects yX8_reckoned.cls yX8_reckoned yX8_reckoned ∈ TB := ⟨tb_384, tb_385⟩
theorem vs_X8_picked : Cond.instanceMethod yX8_picked ∈ TB ∧ Cond.selects yX8_picked.cls yX8_picked yX8_picked ∈ TB := ⟨tb_413, tb_414⟩
theorem vs_X8_product : Cond.instanceMethod yX8_product ∈ TB ∧ Cond.selects yX8_product.cls yX8_product yX8_product ∈ TB := ⟨tb_389, tp_2⟩
theorem vs_X8_quotient : Cond.instanceMethod yX8_quotient ∈ TB ∧ Cond.selects yX8_quotient.cls yX8_quotient yX8_quotient ∈ TB := ⟨tb_399, tp_3⟩
theorem vs_X8_comparison : Cond.instanceMethod yX8_comparison ∈ TB ∧ Cond.selects yX8_comparison.cls yX8_comparison yX8_comparison ∈ TB := ⟨tb_406, tp_4⟩
theorem vs_X9_lengthOf : Cond.instanceMethod yX9_lengthOf ∈ TB ∧ Cond.selects yX9_lengthOf.cls yX9_lengthOf yX9_lengthOf ∈ TB := ⟨tb_468, tb_469⟩
theorem vs_X9_filledTicks : Cond.instanceMethod yX9_filledTicks ∈ TB ∧ Cond.selects yX9_filledTicks.cls yX9_filledTicks yX9_filledTicks ∈ TB := ⟨tb_551, tb_552⟩
theorem vs_X9_leastTicks : Cond.instanceMethod yX9_leastTicks ∈ TB ∧ Cond.selects yX9_leastTicks.cls yX9_leastTicks yX9_leastTicks ∈ TB := ⟨tb_604, tb_605⟩
theorem vs_X10_size : Cond.instanceMethod yX10_size ∈ TB ∧ Cond.selects yX10_size.cls yX10_size yX10_size ∈ TB := ⟨tb_452, tb_453⟩
theorem vs_X10_isFull : Cond.instanceMethod yX10_isFull ∈ TB ∧ Cond.selects yX10_isFull.cls yX10_isFull yX10_isFull ∈ TB := ⟨tb_444, tb_445⟩
theorem vs_X10_get : Cond.instanceMethod yX10_get ∈ TB ∧ Cond.selects yX10_get.cls yX10_get yX10_get ∈ TB := ⟨tb_684, tb_685⟩
theorem vs_X10_append : Cond.instanceMethod yX10_append ∈ TB ∧ Cond.selects yX10_append.cls yX10_append yX10_append ∈ TB := ⟨tb_448, tb_449⟩
theorem vs_X10_clear : Cond.instanceMethod yX10_clear ∈ TB ∧ Cond.selects yX10_clear.cls yX10_clear yX10_clear ∈ TB := ⟨tb_663, tb_664⟩
theorem vs_X11_constant : Cond.instanceMethod yX11_constant ∈ TB ∧ Cond.selects yX11_constant.cls yX11_constant yX11_constant ∈ TB := ⟨tb_249, tb_250⟩
theorem vs_X11_port : Cond.instanceMethod yX11_port ∈ TB ∧ Cond.selects yX11_port.cls yX11_port yX11_port ∈ TB := ⟨tb_351, tb_352⟩
theorem vs_X11_reckon : Cond.instanceMethod yX11_reckon ∈ TB ∧ Cond.selects yX11_reckon.cls yX11_reckon yX11_reckon ∈ TB := ⟨tb_380, tb_381⟩
theorem vs_X11_pick : Cond.instanceMethod yX11_pick ∈ TB ∧ Cond.selects yX11_pick.cls yX11_pick yX11_pick ∈ TB := ⟨tb_409, tb_410⟩
theorem vs_X11_touch : Cond.instanceMethod yX11_touch ∈ TB ∧ Cond.selects yX11_touch.cls yX11_touch yX11_touch ∈ TB := ⟨tb_417, tb_418⟩
theorem vs_X11_drop : Cond.instanceMethod yX11_drop ∈ TB ∧ Cond.selects yX11_drop.cls yX11_drop yX11_drop ∈ TB := ⟨tb_421, tb_422⟩
theorem vs_X11_parts : Cond.instanceMethod yX11_parts ∈ TB ∧ Cond.selects yX11_parts.cls yX11_parts yX11_parts ∈ TB := ⟨tb_429, tb_430⟩
theorem vs_X11_length : Cond.instanceMethod yX11_length ∈ TB ∧ Cond.selects yX11_length.cls yX11_length yX11_length ∈ TB := ⟨tb_436, tb_437⟩
theorem vs_X11_feed : Cond.instanceMethod yX11_feed ∈ TB ∧ Cond.selects yX11_feed.cls yX11_feed yX11_feed ∈ TB := ⟨tb_440, tb_441⟩
theorem vs_X11_place : Cond.instanceMethod yX11_place ∈ TB ∧ Cond.selects yX11_place.cls yX11_place yX11_place ∈ TB := ⟨tb_456, tb_457⟩
theorem vs_X11_act : Cond.instanceMethod yX11_act ∈ TB ∧ Cond.selects yX11_act.cls yX11_act yX11_act ∈ TB := ⟨tb_464, tb_465⟩
theorem vs_X11_span : Cond.instanceMethod yX11_span ∈ TB ∧ Cond.selects yX11_span.cls yX11_span yX11_span ∈ TB := ⟨tb_905, tb_906⟩
theorem vs_X11_needs : Cond.instanceMethod yX11_needs ∈ TB ∧ Cond.selects yX11_needs.cls yX11_needs yX11_needs ∈ TB := ⟨tb_481, tb_482⟩
theorem vs_X11_lay : Cond.instanceMethod yX11_lay ∈ TB ∧ Cond.selects yX11_lay.cls yX11_lay yX11_lay ∈ TB := ⟨tb_522, tb_523⟩
theorem vs_X11_tick : Cond.instanceMethod yX11_tick ∈ TB ∧ Cond.selects yX11_tick.cls yX11_tick yX11_tick ∈ TB := ⟨tb_585, tb_586⟩
theorem vs_X11_bound : Cond.instanceMethod yX11_bound ∈ TB ∧ Cond.selects yX11_bound.cls yX11_bound yX11_bound ∈ TB := ⟨tb_594, tb_595⟩
theorem vs_X11_registers : Cond.instanceMethod yX11_registers ∈ TB ∧ Cond.selects yX11_registers.cls yX11_registers yX11_registers ∈ TB := ⟨tb_613, tb_614⟩
theorem vs_X11_chooser : Cond.instanceMethod yX11_chooser ∈ TB ∧ Cond.selects yX11_chooser.cls yX11_chooser yX11_chooser ∈ TB := ⟨tb_617, tb_618⟩
theorem vs_X11_at : Cond.instanceMethod yX11_at ∈ TB ∧ Cond.selects yX11_at.cls yX11_at yX11_at ∈ TB := ⟨tb_636, tb_637⟩
theorem vs_X11_run : Cond.instanceMethod yX11_run ∈ TB ∧ Cond.selects yX11_run.cls yX11_run yX11_run ∈ TB := ⟨tb_644, tb_645⟩
theorem vs_X11_told : Cond.instanceMethod yX11_told ∈ TB ∧ Cond.selects yX11_told.cls yX11_told yX11_told ∈ TB := ⟨tb_702, tb_703⟩
theorem vs_X11_out : Cond.instanceMethod yX11_out ∈ TB ∧ Cond.selects yX11_out.cls yX11_out yX11_out ∈ TB := ⟨tb_915, tb_916⟩
theorem vs_X11_outs : Cond.instanceMethod yX11_outs ∈ TB ∧ Cond.selects yX11_outs.cls yX11_outs yX11_outs ∈ TB := ⟨tb_709, tb_710⟩
theorem vs_X11_row : Cond.instanceMethod yX11_row ∈ TB ∧ Cond.selects yX11_row.cls yX11_row yX11_row ∈ TB := ⟨tb_927, tb_928⟩
theorem vs_X11_count : Cond.instanceMethod yX11_count ∈ TB ∧ Cond.selects yX11_count.cls yX11_count yX11_count ∈ TB := ⟨tb_713, tb_714⟩
theorem vs_X11_keep : Cond.instanceMethod yX11_keep ∈ TB ∧ Cond.selects yX11_keep.cls yX11_keep yX11_keep ∈ TB := ⟨tb_725, tb_726⟩
theorem vs_X11_make : Cond.instanceMethod yX11_make ∈ TB ∧ Cond.selects yX11_make.cls yX11_make yX11_make ∈ TB := ⟨tb_762, tb_763⟩
theorem vs_X11_element : Cond.instanceMethod yX11_element ∈ TB ∧ Cond.selects yX11_element.cls yX11_element yX11_element ∈ TB := ⟨tb_935, tb_936⟩
theorem vs_X11_copy : Cond.instanceMethod yX11_copy ∈ TB ∧ Cond.selects yX11_copy.cls yX11_copy yX11_copy ∈ TB := ⟨tb_766, tb_767⟩
theorem vs_X11_weight : Cond.instanceMethod yX11_weight ∈ TB ∧ Cond.selects yX11_weight.cls yX11_weight yX11_weight ∈ TB := ⟨tb_778, tb_779⟩
theorem vs_X11_toss : Cond.instanceMethod yX11_toss ∈ TB ∧ Cond.selects yX11_toss.cls yX11_toss yX11_toss ∈ TB := ⟨tb_787, tb_788⟩
theorem vs_X11_append : Cond.instanceMethod yX11_append ∈ TB ∧ Cond.selects yX11_append.cls yX11_append yX11_append ∈ TB := ⟨tb_332, tp_0⟩
theorem vs_X11_forget : Cond.instanceMethod yX11_forget ∈ TB ∧ Cond.selects yX11_forget.cls yX11_forget yX11_forget ∈ TB := ⟨tb_340, tp_1⟩
theorem vs_X11_keepAct : Cond.instanceMethod yX11_keepAct ∈ TB ∧ Cond.selects yX11_keepAct.cls yX11_keepAct yX11_keepAct ∈ TB := ⟨tb_733, tp_22⟩
theorem vs_X11_keepTicks : Cond.instanceMethod yX11_keepTicks ∈ TB ∧ Cond.selects yX11_keepTicks.cls yX11_keepTicks yX11_keepTicks ∈ TB := ⟨tb_737, tp_23⟩
theorem vs_X12_thrown : Cond.instanceMethod yX12_thrown ∈ TB ∧ Cond.selects yX12_thrown.cls yX12_thrown yX12_thrown ∈ TB := ⟨tb_1071, tb_1072⟩
theorem vs_X12_isAct : Cond.instanceMethod yX12_isAct ∈ TB ∧ Cond.selects yX12_isAct.cls yX12_isAct yX12_isAct ∈ TB := ⟨tb_1100, tp_27⟩
theorem vs_X12_changed : Cond.instanceMethod yX12_changed ∈ TB ∧ Cond.selects yX12_changed.cls yX12_changed yX12_changed ∈ TB := ⟨tb_1088, tp_26⟩
theorem vs_X12_added : Cond.instanceMethod yX12_added ∈ TB ∧ Cond.selects yX12_added.cls yX12_added yX12_added ∈ TB := ⟨tb_1084, tp_25⟩
theorem vs_X12_constant : Cond.instanceMethod yX12_constant ∈ TB ∧ Cond.selects yX12_constant.cls yX12_constant yX12_constant ∈ TB := ⟨tb_1075, tb_1076⟩
theorem vs_X12_port : Cond.instanceMethod yX12_port ∈ TB ∧ Cond.selects yX12_port.cls yX12_port yX12_port ∈ TB := ⟨tb_1094, tb_1095⟩
theorem vs_X12_reckon : Cond.instanceMethod yX12_reckon ∈ TB ∧ Cond.selects yX12_reckon.cls yX12_reckon yX12_reckon ∈ TB := ⟨tb_1103, tb_1104⟩
theorem vs_X12_pick : Cond.instanceMethod yX12_pick ∈ TB ∧ Cond.selects yX12_pick.cls yX12_pick yX12_pick ∈ TB := ⟨tb_1109, tb_1110⟩
theorem vs_X12_touch : Cond.instanceMethod yX12_touch ∈ TB ∧ Cond.selects yX12_touch.cls yX12_touch yX12_touch ∈ TB := ⟨tb_1113, tb_1114⟩
theorem vs_X12_drop : Cond.instanceMethod yX12_drop ∈ TB ∧ Cond.selects yX12_drop.cls yX12_drop yX12_drop ∈ TB := ⟨tb_1117, tb_1118⟩
theorem vs_X12_parts : Cond.instanceMethod yX12_parts ∈ TB ∧ Cond.selects yX12_parts.cls yX12_parts yX12_parts ∈ TB := ⟨tb_1121, tb_1122⟩
theorem vs_X12_length : Cond.instanceMethod yX12_length ∈ TB ∧ Cond.selects yX12_length.cls yX12_length yX12_length ∈ TB := ⟨tb_1126, tb_1127⟩
theorem vs_X12_feed : Cond.instanceMethod yX12_feed ∈ TB ∧ Cond.selects yX12_feed.cls yX12_feed yX12_feed ∈ TB := ⟨tb_1131, tb_1132⟩
theorem vs_X12_place : Cond.instanceMethod yX12_place ∈ TB ∧ Cond.selects yX12_place.cls yX12_place yX12_place ∈ TB := ⟨tb_1135, tb_1136⟩
theorem vs_X12_kindOf : Cond.instanceMethod yX12_kindOf ∈ TB ∧ Cond.selects yX12_kindOf.cls yX12_kindOf yX12_kindOf ∈ TB := ⟨tb_1149, tp_29⟩
theorem vs_X12_lengthOf : Cond.instanceMethod yX12_lengthOf ∈ TB ∧ Cond.selects yX12_lengthOf.cls yX12_lengthOf yX12_lengthOf ∈ TB := ⟨tb_1145, tp_28⟩
theorem vs_X12_fills : Cond.instanceMethod yX12_fills ∈ TB ∧ Cond.selects yX12_fills.cls yX12_fills yX12_fills ∈ TB := ⟨tb_1211, tp_40⟩
theorem vs_X12_spanOf : Cond.instanceMethod yX12_spanOf ∈ TB ∧ Cond.selects yX12_spanOf.cls yX12_spanOf yX12_spanOf ∈ TB := ⟨tb_1157, tp_31⟩
theorem vs_X12_findSpans : Cond.instanceMethod yX12_findSpans ∈ TB ∧ Cond.selects yX12_findSpans.cls yX12_findSpans yX12_findSpans ∈ TB := ⟨tb_1153, tp_30⟩
theorem vs_X12_bitsOf : Cond.instanceMethod yX12_bitsOf ∈ TB ∧ Cond.selects yX12_bitsOf.cls yX12_bitsOf yX12_bitsOf ∈ TB := ⟨tb_1167, tp_32⟩
theorem vs_X12_act : Cond.instanceMethod yX12_act ∈ TB ∧ Cond.selects yX12_act.cls yX12_act yX12_act ∈ TB := ⟨tb_1140, tb_1141⟩
theorem vs_X12_span : Cond.instanceMethod yX12_span ∈ TB ∧ Cond.selects yX12_span.cls yX12_span yX12_span ∈ TB := ⟨tb_1170, tb_1171⟩
theorem vs_X12_isOperand : Cond.instanceMethod yX12_isOperand ∈ TB ∧ Cond.selects yX12_isOperand.cls yX12_isOperand yX12_isOperand ∈ TB := ⟨tb_1191, tp_36⟩
theorem vs_X12_canFail : Cond.instanceMethod yX12_canFail ∈ TB ∧ Cond.selects yX12_canFail.cls yX12_canFail yX12_canFail ∈ TB := ⟨tb_1187, tp_35⟩
theorem vs_X12_meet : Cond.instanceMethod yX12_meet ∈ TB ∧ Cond.selects yX12_meet.cls yX12_meet yX12_meet ∈ TB := ⟨tb_1183, tp_34⟩
theorem vs_X12_need : Cond.instanceMethod yX12_need ∈ TB ∧ Cond.selects yX12_need.cls yX12_need yX12_need ∈ TB := ⟨tb_1179, tp_33⟩
theorem vs_X12_needs : Cond.instanceMethod yX12_needs ∈ TB ∧ Cond.selects yX12_needs.cls yX12_needs yX12_needs ∈ TB := ⟨tb_1174, tb_1175⟩
theorem vs_X12_askedFor : Cond.instanceMethod yX12_askedFor ∈ TB ∧ Cond.selects yX12_askedFor.cls yX12_askedFor yX12_askedFor ∈ TB := ⟨tb_1199, tp_37⟩
theorem vs_X12_isFree : Cond.instanceMethod yX12_isFree ∈ TB ∧ Cond.selects yX12_isFree.cls yX12_isFree yX12_isFree ∈ TB := ⟨tb_1207, tp_39⟩
theorem vs_X12_freePart : Cond.instanceMethod yX12_freePart ∈ TB ∧ Cond.selects yX12_freePart.cls yX12_freePart yX12_freePart ∈ TB := ⟨tb_1203, tp_38⟩
theorem vs_X12_isUsed : Cond.instanceMethod yX12_isUsed ∈ TB ∧ Cond.selects yX12_isUsed.cls yX12_isUsed yX12_isUsed ∈ TB := ⟨tb_1219, tp_42⟩
theorem vs_X12_lifeEnd : Cond.instanceMethod yX12_lifeEnd ∈ TB ∧ Cond.selects yX12_lifeEnd.cls yX12_lifeEnd yX12_lifeEnd ∈ TB := ⟨tb_1235, tp_46⟩
theorem vs_X12_lifeBegin : Cond.instanceMethod yX12_lifeBegin ∈ TB ∧ Cond.selects yX12_lifeBegin.cls yX12_lifeBegin yX12_lifeBegin ∈ TB := ⟨tb_1223, tp_43⟩
theorem vs_X12_liveTogether : Cond.instanceMethod yX12_liveTogether ∈ TB ∧ Cond.selects yX12_liveTogether.cls yX12_liveTogether yX12_liveTogether ∈ TB := ⟨tb_1231, tp_45⟩
theorem vs_X12_freeRegister : Cond.instanceMethod yX12_freeRegister ∈ TB ∧ Cond.selects yX12_freeRegister.cls yX12_freeRegister yX12_freeRegister ∈ TB := ⟨tb_1227, tp_44⟩
theorem vs_X12_findRegisters : Cond.instanceMethod yX12_findRegisters ∈ TB ∧ Cond.selects yX12_findRegisters.cls yX12_findRegisters yX12_findRegisters ∈ TB := ⟨tb_1215, tp_41⟩
theorem vs_X12_lay : Cond.instanceMethod yX12_lay ∈ TB ∧ Cond.selects yX12_lay.cls yX12_lay yX12_lay ∈ TB := ⟨tb_1194, tb_1195⟩
theorem vs_X12_justBehind : Cond.instanceMethod yX12_justBehind ∈ TB ∧ Cond.selects yX12_justBehind.cls yX12_justBehind yX12_justBehind ∈ TB := ⟨tb_1243, tp_47⟩
theorem vs_X12_tick : Cond.instanceMethod yX12_tick ∈ TB ∧ Cond.selects yX12_tick.cls yX12_tick yX12_tick ∈ TB := ⟨tb_1238, tb_1239⟩
theorem vs_X12_freeTicks : Cond.instanceMethod yX12_freeTicks ∈ TB ∧ Cond.selects yX12_freeTicks.cls yX12_freeTicks yX12_freeTicks ∈ TB := ⟨tb_1252, tp_48⟩
theorem vs_X12_filled : Cond.instanceMethod yX12_filled ∈ TB ∧ Cond.selects yX12_filled.cls yX12_filled yX12_filled ∈ TB := ⟨tb_1256, tp_49⟩
theorem vs_X12_bound : Cond.instanceMethod yX12_bound ∈ TB ∧ Cond.selects yX12_bound.cls yX12_bound yX12_bound ∈ TB := ⟨tb_1246, tb_1247⟩
theorem vs_X12_registers : Cond.instanceMethod yX12_registers ∈ TB ∧ Cond.selects yX12_registers.cls yX12_registers yX12_registers ∈ TB := ⟨tb_1259, tb_1260⟩
theorem vs_X12_source : Cond.instanceMethod yX12_source ∈ TB ∧ Cond.selects yX12_source.cls yX12_source yX12_source ∈ TB := ⟨tb_1268, tp_50⟩
theorem vs_X12_chooser : Cond.instanceMethod yX12_chooser ∈ TB ∧ Cond.selects yX12_chooser.cls yX12_chooser yX12_chooser ∈ TB := ⟨tb_1263, tb_1264⟩
theorem vs_X12_at : Cond.instanceMethod yX12_at ∈ TB ∧ Cond.selects yX12_at.cls yX12_at yX12_at ∈ TB := ⟨tb_1271, tb_1272⟩
theorem vs_X12_numberAt : Cond.instanceMethod yX12_numberAt ∈ TB ∧ Cond.selects yX12_numberAt.cls yX12_numberAt yX12_numberAt ∈ TB := ⟨tb_1288, tp_53⟩
theorem vs_X12_why : Cond.instanceMethod yX12_why ∈ TB ∧ Cond.selects yX12_why.cls yX12_why yX12_why ∈ TB := ⟨tb_1284, tp_52⟩
theorem vs_X12_given : Cond.instanceMethod yX12_given ∈ TB ∧ Cond.selects yX12_given.cls yX12_given yX12_given ∈ TB := ⟨tb_1292, tp_54⟩
theorem vs_X12_begin : Cond.instanceMethod yX12_begin ∈ TB ∧ Cond.selects yX12_begin.cls yX12_begin yX12_begin ∈ TB := ⟨tb_1280, tp_51⟩
theorem vs_X12_run : Cond.instanceMethod yX12_run ∈ TB ∧ Cond.selects yX12_run.cls yX12_run yX12_run ∈ TB := ⟨tb_1275, tb_1276⟩
theorem vs_X12_told : Cond.instanceMethod yX12_told ∈ TB ∧ Cond.selects yX12_told.cls yX12_told yX12_told ∈ TB := ⟨tb_1295, tb_1296⟩
theorem vs_X12_out : Cond.instanceMethod yX12_out ∈ TB ∧ Cond.selects yX12_out.cls yX12_out yX12_out ∈ TB := ⟨tb_1299, tb_1300⟩
theorem vs_X12_outs : Cond.instanceMethod yX12_outs ∈ TB ∧ Cond.selects yX12_outs.cls yX12_outs yX12_outs ∈ TB := ⟨tb_1303, tb_1304⟩
theorem vs_X12_row : Cond.instanceMethod yX12_row ∈ TB ∧ Cond.selects yX12_row.cls yX12_row yX12_row ∈ TB := ⟨tb_1307, tb_1308⟩
theorem vs_X12_operandsOf : Cond.instanceMethod yX12_operandsOf ∈ TB ∧ Cond.selects yX12_operandsOf.cls yX12_operandsOf yX12_operandsOf ∈ TB := ⟨tb_1316, tp_55⟩
theorem vs_X12_count : Cond.instanceMethod yX12_count ∈ TB ∧ Cond.selects yX12_count.cls yX12_count yX12_count ∈ TB := ⟨tb_1311, tb_1312⟩
theorem vs_X12_weightOf : Cond.instanceMethod yX12_weightOf ∈ TB ∧ Cond.selects yX12_weightOf.cls yX12_weightOf yX12_weightOf ∈ TB := ⟨tb_1327, tp_56⟩
theorem vs_X12_keep : Cond.instanceMethod yX12_keep ∈ TB ∧ Cond.selects yX12_keep.cls yX12_keep yX12_keep ∈ TB := ⟨tb_1319, tb_1320⟩
theorem vs_X12_make : Cond.instanceMethod yX12_make ∈ TB ∧ Cond.selects yX12_make.cls yX12_make yX12_make ∈ TB := ⟨tb_1330, tb_1331⟩
theorem vs_X12_element : Cond.instanceMethod yX12_element ∈ TB ∧ Cond.selects yX12_element.cls yX12_element yX12_element ∈ TB := ⟨tb_1334, tb_1335⟩
theorem vs_X12_hasPlaces : Cond.instanceMethod yX12_hasPlaces ∈ TB ∧ Cond.selects yX12_hasPlaces.cls yX12_hasPlaces yX12_hasPlaces ∈ TB := ⟨tb_1343, tp_57⟩
theorem vs_X12_copy : Cond.instanceMethod yX12_copy ∈ TB ∧ Cond.selects yX12_copy.cls yX12_copy yX12_copy ∈ TB := ⟨tb_1338, tb_1339⟩
theorem vs_X12_denied : Cond.instanceMethod yX12_denied ∈ TB ∧ Cond.selects yX12_denied.cls yX12_denied yX12_denied ∈ TB := ⟨tb_1351, tp_58⟩
theorem vs_X12_weight : Cond.instanceMethod yX12_weight ∈ TB ∧ Cond.selects yX12_weight.cls yX12_weight yX12_weight ∈ TB := ⟨tb_1346, tb_1347⟩
theorem vs_X12_toss : Cond.instanceMethod yX12_toss ∈ TB ∧ Cond.selects yX12_toss.cls yX12_toss yX12_toss ∈ TB := ⟨tb_1354, tb_1355⟩
