/-! The constructors -/
theorem va_up_eq {α : Type} {f : Nat → α} {k : Nat} {v : α} (h : f k = v) : f = va_up f k v := by
  funext j
  by_cases e : j = k
  · subst e; rw [va_up_self]; exact h
  · rw [va_up_ne _ _ e]
/-- M, but from lo to hi the cells of the list -/
def mz (lo hi : Nat) (M : aM) (L : List (Nat × aE)) : aM := fun j => if lo ≤ j ∧ j < hi then L.lookup j else M j
theorem lk_mem {L : List (Nat × aE)} {j : Nat} {x : aE} (h : L.lookup j = some x) : (j, x) ∈ L := by
  induction L with
  | nil => cases h
  | cons q L ih =>
    rw [List.lookup_cons] at h
    cases e : j == q.1 with
    | true =>
      rw [e] at h
      rw [show j = q.1 from eq_of_beq e, ← Option.some.inj h]
      exact List.mem_cons_self
    | false =>
      rw [e] at h
      exact List.mem_cons_of_mem _ (ih h)
theorem mz_le {lo hi : Nat} {M M' : aM} {L : List (Nat × aE)} (h1 : ∀ q ∈ L, M' q.1 = some q.2) (h2 : ∀ j, j < lo ∨ hi ≤ j → M' j = M j) : ∀ j x, mz lo hi M L j = some x → M' j = some x := by
  intro j x h
  unfold mz at h
  split at h
  · exact h1 _ (lk_mem h)
  · rw [h2 j (by omega)]; exact h
theorem mz_out {lo hi : Nat} {M : aM} {L : List (Nat × aE)} {j : Nat} (h : j < lo ∨ hi ≤ j) : mz lo hi M L j = M j := if_neg (by omega)
theorem sv_sub {E : aG} {Γ : aC} {nL nx ce sl pc : Nat} {M : aM} {lv : List (Nat × Value)} {st : List Value} (M' : aM) (h : ∀ j x, M' j = some x → M j = some x) (k : SV E Γ nL M' nx ce sl pc lv st) : SV E Γ nL M nx ce sl pc lv st := by
  obtain ⟨p, l, e, R, s, m, args, below, meth, c, Q⟩ := Γ
  intro H locs ls hR hS hl
  exact k H locs ls ⟨hR.1, hR.2.1, fun j x hj => hR.2.2 j x (h j x hj)⟩ hS hl
theorem ct_X10_init {E : aG} (l : Launch) (k : Nat) (n : Nat) (v : Int32) {M : aM} {nx : Nat} (hM : M k = some (.inr (9, [.null, .int 0]))) (hk : ¬ k = nx) (hn : n ≤ 1000) (hv0 : ¬ v < 0) (hv : v.toNatClampNeg = n) : CT E l yX10_init cX10_init 2 none 1 [.ref k, .int v] M nx 1 n
    (fun r M' nx' => r = none ∧ M' = va_up (va_up M nx (some (.inl (1, n, .inr (.inl (fun _ => 0)))))) k (some (.inr (9, [.ref nx, .int 0]))) ∧ nx + 1 = nx') := by
  refine CT_intro (by decide) (Nat.le_of_ble_eq_true rfl) (fun Γ hΓ hQ => ?_)
  replace hΓ : CK E RX10 cX10_init 2 none "<init>" 1 1 n Γ := hΓ
  show SV E Γ 2 M nx 0 0 0 [(0, .ref k), (1, .int v)] []
  refine sv_aload_n hΓ dX10_init_0 rfl 0 rfl rfl ?_
  refine sv_objInit hΓ ⟨tb_164, tb_29, tb_30⟩ (by decide) (Nat.le_of_ble_eq_true rfl) dX10_init_1 rfl ?_
  refine sv_aload_n hΓ dX10_init_4 rfl 0 rfl rfl ?_
  refine sv_iconst (v := 0) hΓ dX10_init_5 (by decide) rfl ?_
  refine pt_X10_7 hΓ hM ⟨rfl, rfl⟩ (Nat.lt_of_succ_le (Nat.le_of_ble_eq_true rfl)) dX10_init_6 rfl ?_
  refine sv_aload_n hΓ dX10_init_9 rfl 0 rfl rfl ?_
  refine sv_iload_n hΓ dX10_init_10 rfl 1 rfl rfl ?_
  refine sv_newJ hΓ n tb_172 dX10_init_11 hv0 hv hn (Nat.le_of_ble_eq_true rfl) (by omega) rfl ?_
  refine pf_X10_13 hΓ ((va_up_ne _ _ hk).trans (va_up_self _ _ _)) ⟨rfl, rfl⟩ (Nat.lt_of_succ_le (Nat.le_of_ble_eq_true rfl)) dX10_init_13 rfl ?_
  refine sv_sub (va_up (va_up M nx (some (.inl (1, n, .inr (.inl (fun _ => 0)))))) k (some (.inr (9, [.ref nx, .int 0])))) (fun j x h => ?_) ?_
  · by_cases e : j = k
    · subst e
      rw [va_up_self] at h ⊢
      exact h
    · rw [va_up_ne _ _ e] at h ⊢
      by_cases e2 : j = nx
      · subst e2
        rw [va_up_self] at h ⊢
        exact h
      · rw [va_up_ne _ _ e2] at h ⊢
        rw [va_up_ne _ _ e]
        exact h
  · exact sv_vret hΓ hQ dX10_init_16 (Nat.le_of_ble_eq_true rfl) (by omega) ⟨rfl, rfl, rfl⟩
def lz_X1 : List (Nat × aE) := [(2, .inr (1, [.ref 3, .int 0])), (3, .inl (3, 16, .inr (.inr (.inr (.inr (fun _ => none))))))]
theorem ct_X1_init {E : aG} (l : Launch) {M : aM} (hM : M 2 = some (.inr (1, [.null, .int 0]))) (hNW : NW E) : CT E l yX1_init cX1_init 1 none 1 [.ref 2] M 3 1 16 (fun r M' nx' => r = none ∧ M' = mz 2 4 M lz_X1 ∧ 4 = nx') := by
  refine CT_intro (by decide) (Nat.le_of_ble_eq_true rfl) (fun Γ hΓ hQ => ?_)
  replace hΓ : CK E RX1 cX1_init 1 none "<init>" 1 1 16 Γ := hΓ
  show SV E Γ 1 M 3 0 0 0 [(0, .ref 2)] []
  refine sv_sub (va_up M 2 (some (.inr (1, [.null, .int 0])))) (fun j x h => by rw [← va_up_eq hM] at h; exact h) ?_
  refine sv_aload_n hΓ dX1_init_0 rfl 0 rfl rfl ?_
  refine sv_objInit hΓ ⟨tb_36, tb_29, tb_30⟩ (by decide) (Nat.le_of_ble_eq_true rfl) dX1_init_1 rfl ?_
  refine sv_aload_n hΓ dX1_init_4 rfl 0 rfl rfl ?_
  refine sv_bipush (v := 16) hΓ dX1_init_5 (by decide) rfl ?_
  refine sv_newA hΓ (n := 16) (t := 3) 16 rfl tb_37 hNW.2.2.2.2.2.2.1 dX1_init_7 (by decide) (by decide) (by decide) (Nat.le_of_ble_eq_true rfl) (Nat.le_of_ble_eq_true rfl) rfl ?_
  refine pf_X1_11 hΓ rfl ⟨rfl, rfl⟩ (Nat.lt_of_succ_le (Nat.le_of_ble_eq_true rfl)) dX1_init_10 rfl ?_
  refine sv_aload_n hΓ dX1_init_13 rfl 0 rfl rfl ?_
  refine sv_iconst (v := 0) hΓ dX1_init_14 (by decide) rfl ?_
  refine pt_X1_17 hΓ rfl ⟨rfl, rfl⟩ (Nat.lt_of_succ_le (Nat.le_of_ble_eq_true rfl)) dX1_init_15 rfl ?_
  refine sv_sub (mz 2 4 M lz_X1) (mz_le ?_ (fun j hj => ?_)) ?_
  · refine List.forall_mem_cons.mpr ⟨rfl, ?_⟩
    refine List.forall_mem_cons.mpr ⟨rfl, ?_⟩
    exact fun _ h => nomatch h
  · exact (va_up_ne _ _ (by omega)).trans ((va_up_ne _ _ (by omega)).trans ((va_up_ne _ _ (by omega)).trans ((va_up_ne _ _ (by omega)))))
  · exact sv_vret hΓ hQ dX1_init_18 (Nat.le_of_ble_eq_true rfl) (Nat.le_of_ble_eq_true rfl) ⟨rfl, rfl, rfl⟩
def lz_X9 : List (Nat × aE) := [(4, .inr (8, [.ref 5, .ref 6, .ref 7])), (5, .inl (0, 4, .inl (upd (upd (upd (upd (fun _ => 0) (0 : Int32).toNatClampNeg 1) (1 : Int32).toNatClampNeg 1) (2 : Int32).toNatClampNeg 1) (3 : Int32).toNatClampNeg 1))), (6, .inl (0, 4, .inl (upd (upd (upd (upd (fun _ => 0) (0 : Int32).toNatClampNeg 1) (1 : Int32).toNatClampNeg 2) (2 : Int32).toNatClampNeg 4) (3 : Int32).toNatClampNeg 1))), (7, .inl (2, 4, .inl (fun _ => 0)))]
theorem ct_X9_init {E : aG} (l : Launch) {M : aM} (hM : M 4 = some (.inr (8, [.null, .null, .null]))) : CT E l yX9_init cX9_init 1 none 1 [.ref 4] M 5 3 12 (fun r M' nx' => r = none ∧ M' = mz 4 8 M lz_X9 ∧ 8 = nx') := by
  refine CT_intro (by decide) (Nat.le_of_ble_eq_true rfl) (fun Γ hΓ hQ => ?_)
  replace hΓ : CK E RX9 cX9_init 1 none "<init>" 1 3 12 Γ := hΓ
  show SV E Γ 1 M 5 0 0 0 [(0, .ref 4)] []
  refine sv_sub (va_up M 4 (some (.inr (8, [.null, .null, .null])))) (fun j x h => by rw [← va_up_eq hM] at h; exact h) ?_
  refine sv_aload_n hΓ dX9_init_0 rfl 0 rfl rfl ?_
  refine sv_objInit hΓ ⟨tb_51, tb_29, tb_30⟩ (by decide) (Nat.le_of_ble_eq_true rfl) dX9_init_1 rfl ?_
  refine sv_aload_n hΓ dX9_init_4 rfl 0 rfl rfl ?_
  refine sv_iconst (v := 4) hΓ dX9_init_5 (by decide) rfl ?_
  refine sv_newI hΓ (n := 4) 4 tb_66 dX9_init_6 (by decide) (by decide) (by decide) (Nat.le_of_ble_eq_true rfl) (Nat.le_of_ble_eq_true rfl) rfl ?_
  refine sv_dup hΓ dX9_init_8 rfl rfl ?_
  refine sv_iconst (v := 0) hΓ dX9_init_9 (by decide) rfl ?_
  refine sv_iconst (v := 1) hΓ dX9_init_10 (by decide) rfl ?_
  refine sv_iast hΓ dX9_init_11 rfl (by unfold vp_in; decide) rfl ?_
  refine sv_dup hΓ dX9_init_12 rfl rfl ?_
  refine sv_iconst (v := 1) hΓ dX9_init_13 (by decide) rfl ?_
  refine sv_iconst (v := 1) hΓ dX9_init_14 (by decide) rfl ?_
  refine sv_iast hΓ dX9_init_15 rfl (by unfold vp_in; decide) rfl ?_
  refine sv_dup hΓ dX9_init_16 rfl rfl ?_
  refine sv_iconst (v := 2) hΓ dX9_init_17 (by decide) rfl ?_
  refine sv_iconst (v := 1) hΓ dX9_init_18 (by decide) rfl ?_
  refine sv_iast hΓ dX9_init_19 rfl (by unfold vp_in; decide) rfl ?_
  refine sv_dup hΓ dX9_init_20 rfl rfl ?_
  refine sv_iconst (v := 3) hΓ dX9_init_21 (by decide) rfl ?_
  refine sv_iconst (v := 1) hΓ dX9_init_22 (by decide) rfl ?_
  refine sv_iast hΓ dX9_init_23 rfl (by unfold vp_in; decide) rfl ?_
  refine pf_X9_9 hΓ rfl ⟨rfl, rfl⟩ (Nat.lt_of_succ_le (Nat.le_of_ble_eq_true rfl)) dX9_init_24 rfl ?_
  refine sv_aload_n hΓ dX9_init_27 rfl 0 rfl rfl ?_
  refine sv_iconst (v := 4) hΓ dX9_init_28 (by decide) rfl ?_
  refine sv_newI hΓ (n := 4) 4 tb_66 dX9_init_29 (by decide) (by decide) (by decide) (Nat.le_of_ble_eq_true rfl) (Nat.le_of_ble_eq_true rfl) rfl ?_
  refine sv_dup hΓ dX9_init_31 rfl rfl ?_
  refine sv_iconst (v := 0) hΓ dX9_init_32 (by decide) rfl ?_
  refine sv_iconst (v := 1) hΓ dX9_init_33 (by decide) rfl ?_
  refine sv_iast hΓ dX9_init_34 rfl (by unfold vp_in; decide) rfl ?_
  refine sv_dup hΓ dX9_init_35 rfl rfl ?_
  refine sv_iconst (v := 1) hΓ dX9_init_36 (by decide) rfl ?_
  refine sv_iconst (v := 2) hΓ dX9_init_37 (by decide) rfl ?_
  refine sv_iast hΓ dX9_init_38 rfl (by unfold vp_in; decide) rfl ?_
  refine sv_dup hΓ dX9_init_39 rfl rfl ?_
  refine sv_iconst (v := 2) hΓ dX9_init_40 (by decide) rfl ?_
  refine sv_iconst (v := 4) hΓ dX9_init_41 (by decide) rfl ?_
  refine sv_iast hΓ dX9_init_42 rfl (by unfold vp_in; decide) rfl ?_
  refine sv_dup hΓ dX9_init_43 rfl rfl ?_
  refine sv_iconst (v := 3) hΓ dX9_init_44 (by decide) rfl ?_
  refine sv_iconst (v := 1) hΓ dX9_init_45 (by decide) rfl ?_
  refine sv_iast hΓ dX9_init_46 rfl (by unfold vp_in; decide) rfl ?_
  refine pf_X9_15 hΓ rfl ⟨rfl, rfl⟩ (Nat.lt_of_succ_le (Nat.le_of_ble_eq_true rfl)) dX9_init_47 rfl ?_
  refine sv_aload_n hΓ dX9_init_50 rfl 0 rfl rfl ?_
  refine sv_iconst (v := 4) hΓ dX9_init_51 (by decide) rfl ?_
  refine sv_newZ hΓ (n := 4) 4 tb_67 dX9_init_52 (by decide) (by decide) (by decide) (Nat.le_of_ble_eq_true rfl) (Nat.le_of_ble_eq_true rfl) rfl ?_
  refine pf_X9_18 hΓ rfl ⟨rfl, rfl⟩ (Nat.lt_of_succ_le (Nat.le_of_ble_eq_true rfl)) dX9_init_54 rfl ?_
  refine sv_sub (mz 4 8 M lz_X9) (mz_le ?_ (fun j hj => ?_)) ?_
  · refine List.forall_mem_cons.mpr ⟨rfl, ?_⟩
    refine List.forall_mem_cons.mpr ⟨rfl, ?_⟩
    refine List.forall_mem_cons.mpr ⟨rfl, ?_⟩
    refine List.forall_mem_cons.mpr ⟨rfl, ?_⟩
    exact fun _ h => nomatch h
  · exact (va_up_ne _ _ (by omega)).trans ((va_up_ne _ _ (by omega)).trans ((va_up_ne _ _ (by omega)).trans ((va_up_ne _ _ (by omega)).trans ((va_up_ne _ _ (by omega)).trans ((va_up_ne _ _ (by omega)).trans ((va_up_ne _ _ (by omega)).trans ((va_up_ne _ _ (by omega)).trans ((va_up_ne _ _ (by omega)).trans ((va_up_ne _ _ (by omega)).trans ((va_up_ne _ _ (by omega)).trans ((va_up_ne _ _ (by omega)).trans ((va_up_ne _ _ (by omega)).trans ((va_up_ne _ _ (by omega)).trans ((va_up_ne _ _ (by omega))))))))))))))))
  · exact sv_vret hΓ hQ dX9_init_57 (Nat.le_of_ble_eq_true rfl) (Nat.le_of_ble_eq_true rfl) ⟨rfl, rfl, rfl⟩
def lz_X4 : List (Nat × aE) := [(8, .inr (3, [.ref 2, .ref 4, .ref 9])), (9, .inl (0, 16, .inl (fun _ => 0)))]
theorem ct_X4_init {E : aG} (l : Launch) {M : aM} (hM : M 8 = some (.inr (3, [.null, .null, .null]))) : CT E l yX4_init cX4_init 3 none 1 [.ref 8, .ref 2, .ref 4] M 9 1 16 (fun r M' nx' => r = none ∧ M' = mz 8 10 M lz_X4 ∧ 10 = nx') := by
  refine CT_intro (by decide) (Nat.le_of_ble_eq_true rfl) (fun Γ hΓ hQ => ?_)
  replace hΓ : CK E RX4 cX4_init 3 none "<init>" 1 1 16 Γ := hΓ
  show SV E Γ 3 M 9 0 0 0 [(0, .ref 8), (1, .ref 2), (2, .ref 4)] []
  refine sv_sub (va_up M 8 (some (.inr (3, [.null, .null, .null])))) (fun j x h => by rw [← va_up_eq hM] at h; exact h) ?_
  refine sv_aload_n hΓ dX4_init_0 rfl 0 rfl rfl ?_
  refine sv_objInit hΓ ⟨tb_73, tb_29, tb_30⟩ (by decide) (Nat.le_of_ble_eq_true rfl) dX4_init_1 rfl ?_
  refine sv_aload_n hΓ dX4_init_4 rfl 0 rfl rfl ?_
  refine sv_bipush (v := 16) hΓ dX4_init_5 (by decide) rfl ?_
  refine sv_newI hΓ (n := 16) 16 tb_66 dX4_init_7 (by decide) (by decide) (by decide) (Nat.le_of_ble_eq_true rfl) (Nat.le_of_ble_eq_true rfl) rfl ?_
  refine pf_X4_9 hΓ rfl ⟨rfl, rfl⟩ (Nat.lt_of_succ_le (Nat.le_of_ble_eq_true rfl)) dX4_init_9 rfl ?_
  refine sv_aload_n hΓ dX4_init_12 rfl 0 rfl rfl ?_
  refine sv_aload_n hΓ dX4_init_13 rfl 1 rfl rfl ?_
  refine pf_X4_15 hΓ rfl ⟨rfl, rfl⟩ (Nat.lt_of_succ_le (Nat.le_of_ble_eq_true rfl)) dX4_init_14 rfl ?_
  refine sv_aload_n hΓ dX4_init_17 rfl 0 rfl rfl ?_
  refine sv_aload_n hΓ dX4_init_18 rfl 2 rfl rfl ?_
  refine pf_X4_19 hΓ rfl ⟨rfl, rfl⟩ (Nat.lt_of_succ_le (Nat.le_of_ble_eq_true rfl)) dX4_init_19 rfl ?_
  refine sv_sub (mz 8 10 M lz_X4) (mz_le ?_ (fun j hj => ?_)) ?_
  · refine List.forall_mem_cons.mpr ⟨rfl, ?_⟩
    refine List.forall_mem_cons.mpr ⟨rfl, ?_⟩
    exact fun _ h => nomatch h
  · exact (va_up_ne _ _ (by omega)).trans ((va_up_ne _ _ (by omega)).trans ((va_up_ne _ _ (by omega)).trans ((va_up_ne _ _ (by omega)).trans ((va_up_ne _ _ (by omega))))))
  · exact sv_vret hΓ hQ dX4_init_22 (Nat.le_of_ble_eq_true rfl) (Nat.le_of_ble_eq_true rfl) ⟨rfl, rfl, rfl⟩
def lz_X5 : List (Nat × aE) := [(10, .inr (4, [.ref 2, .ref 4, .ref 8, .ref 11, .ref 12, .ref 13, .int 0])), (11, .inl (0, 16, .inl (fun _ => 0))), (12, .inl (0, 16, .inl (fun _ => 0))), (13, .inl (0, 16, .inl (fun _ => 0)))]
theorem ct_X5_init {E : aG} (l : Launch) {M : aM} (hM : M 10 = some (.inr (4, [.null, .null, .null, .null, .null, .null, .int 0]))) : CT E l yX5_init cX5_init 4 none 1 [.ref 10, .ref 2, .ref 4, .ref 8] M 11 3 48 (fun r M' nx' => r = none ∧ M' = mz 10 14 M lz_X5 ∧ 14 = nx') := by
  refine CT_intro (by decide) (Nat.le_of_ble_eq_true rfl) (fun Γ hΓ hQ => ?_)
  replace hΓ : CK E RX5 cX5_init 4 none "<init>" 1 3 48 Γ := hΓ
  show SV E Γ 4 M 11 0 0 0 [(0, .ref 10), (1, .ref 2), (2, .ref 4), (3, .ref 8)] []
  refine sv_sub (va_up M 10 (some (.inr (4, [.null, .null, .null, .null, .null, .null, .int 0])))) (fun j x h => by rw [← va_up_eq hM] at h; exact h) ?_
  refine sv_aload_n hΓ dX5_init_0 rfl 0 rfl rfl ?_
  refine sv_objInit hΓ ⟨tb_89, tb_29, tb_30⟩ (by decide) (Nat.le_of_ble_eq_true rfl) dX5_init_1 rfl ?_
  refine sv_aload_n hΓ dX5_init_4 rfl 0 rfl rfl ?_
  refine sv_bipush (v := 16) hΓ dX5_init_5 (by decide) rfl ?_
  refine sv_newI hΓ (n := 16) 16 tb_66 dX5_init_7 (by decide) (by decide) (by decide) (Nat.le_of_ble_eq_true rfl) (Nat.le_of_ble_eq_true rfl) rfl ?_
  refine pf_X5_9 hΓ rfl ⟨rfl, rfl⟩ (Nat.lt_of_succ_le (Nat.le_of_ble_eq_true rfl)) dX5_init_9 rfl ?_
  refine sv_aload_n hΓ dX5_init_12 rfl 0 rfl rfl ?_
  refine sv_bipush (v := 16) hΓ dX5_init_13 (by decide) rfl ?_
  refine sv_newI hΓ (n := 16) 16 tb_66 dX5_init_15 (by decide) (by decide) (by decide) (Nat.le_of_ble_eq_true rfl) (Nat.le_of_ble_eq_true rfl) rfl ?_
  refine pf_X5_15 hΓ rfl ⟨rfl, rfl⟩ (Nat.lt_of_succ_le (Nat.le_of_ble_eq_true rfl)) dX5_init_17 rfl ?_
  refine sv_aload_n hΓ dX5_init_20 rfl 0 rfl rfl ?_
  refine sv_bipush (v := 16) hΓ dX5_init_21 (by decide) rfl ?_
  refine sv_newI hΓ (n := 16) 16 tb_66 dX5_init_23 (by decide) (by decide) (by decide) (Nat.le_of_ble_eq_true rfl) (Nat.le_of_ble_eq_true rfl) rfl ?_
  refine pf_X5_18 hΓ rfl ⟨rfl, rfl⟩ (Nat.lt_of_succ_le (Nat.le_of_ble_eq_true rfl)) dX5_init_25 rfl ?_
  refine sv_aload_n hΓ dX5_init_28 rfl 0 rfl rfl ?_
  refine sv_iconst (v := 0) hΓ dX5_init_29 (by decide) rfl ?_
  refine pt_X5_21 hΓ rfl ⟨rfl, rfl⟩ (Nat.lt_of_succ_le (Nat.le_of_ble_eq_true rfl)) dX5_init_30 rfl ?_
  refine sv_aload_n hΓ dX5_init_33 rfl 0 rfl rfl ?_
  refine sv_aload_n hΓ dX5_init_34 rfl 1 rfl rfl ?_
  refine pf_X5_25 hΓ rfl ⟨rfl, rfl⟩ (Nat.lt_of_succ_le (Nat.le_of_ble_eq_true rfl)) dX5_init_35 rfl ?_
  refine sv_aload_n hΓ dX5_init_38 rfl 0 rfl rfl ?_
  refine sv_aload_n hΓ dX5_init_39 rfl 2 rfl rfl ?_
  refine pf_X5_29 hΓ rfl ⟨rfl, rfl⟩ (Nat.lt_of_succ_le (Nat.le_of_ble_eq_true rfl)) dX5_init_40 rfl ?_
  refine sv_aload_n hΓ dX5_init_43 rfl 0 rfl rfl ?_
  refine sv_aload_n hΓ dX5_init_44 rfl 3 rfl rfl ?_
  refine pf_X5_33 hΓ rfl ⟨rfl, rfl⟩ (Nat.lt_of_succ_le (Nat.le_of_ble_eq_true rfl)) dX5_init_45 rfl ?_
  refine sv_sub (mz 10 14 M lz_X5) (mz_le ?_ (fun j hj => ?_)) ?_
  · refine List.forall_mem_cons.mpr ⟨rfl, ?_⟩
    refine List.forall_mem_cons.mpr ⟨rfl, ?_⟩
    refine List.forall_mem_cons.mpr ⟨rfl, ?_⟩
    refine List.forall_mem_cons.mpr ⟨rfl, ?_⟩
    exact fun _ h => nomatch h
  · exact (va_up_ne _ _ (by omega)).trans ((va_up_ne _ _ (by omega)).trans ((va_up_ne _ _ (by omega)).trans ((va_up_ne _ _ (by omega)).trans ((va_up_ne _ _ (by omega)).trans ((va_up_ne _ _ (by omega)).trans ((va_up_ne _ _ (by omega)).trans ((va_up_ne _ _ (by omega)).trans ((va_up_ne _ _ (by omega)).trans ((va_up_ne _ _ (by omega)).trans ((va_up_ne _ _ (by omega))))))))))))
  · exact sv_vret hΓ hQ dX5_init_48 (Nat.le_of_ble_eq_true rfl) (Nat.le_of_ble_eq_true rfl) ⟨rfl, rfl, rfl⟩
def lz_X6 : List (Nat × aE) := [(14, .inr (5, [.ref 2, .ref 4, .ref 10, .ref 15, .ref 16, .ref 17, .int 0])), (15, .inl (0, 16, .inl (fun _ => 0))), (16, .inl (0, 16, .inl (fun _ => 0))), (17, .inl (0, 16, .inl (fun _ => 0)))]
theorem ct_X6_init {E : aG} (l : Launch) {M : aM} (hM : M 14 = some (.inr (5, [.null, .null, .null, .null, .null, .null, .int 0]))) : CT E l yX6_init cX6_init 4 none 1 [.ref 14, .ref 2, .ref 4, .ref 10] M 15 3 48 (fun r M' nx' => r = none ∧ M' = mz 14 18 M lz_X6 ∧ 18 = nx') := by
  refine CT_intro (by decide) (Nat.le_of_ble_eq_true rfl) (fun Γ hΓ hQ => ?_)
  replace hΓ : CK E RX6 cX6_init 4 none "<init>" 1 3 48 Γ := hΓ
  show SV E Γ 4 M 15 0 0 0 [(0, .ref 14), (1, .ref 2), (2, .ref 4), (3, .ref 10)] []
  refine sv_sub (va_up M 14 (some (.inr (5, [.null, .null, .null, .null, .null, .null, .int 0])))) (fun j x h => by rw [← va_up_eq hM] at h; exact h) ?_
  refine sv_aload_n hΓ dX6_init_0 rfl 0 rfl rfl ?_
  refine sv_objInit hΓ ⟨tb_125, tb_29, tb_30⟩ (by decide) (Nat.le_of_ble_eq_true rfl) dX6_init_1 rfl ?_
  refine sv_aload_n hΓ dX6_init_4 rfl 0 rfl rfl ?_
  refine sv_bipush (v := 16) hΓ dX6_init_5 (by decide) rfl ?_
  refine sv_newI hΓ (n := 16) 16 tb_66 dX6_init_7 (by decide) (by decide) (by decide) (Nat.le_of_ble_eq_true rfl) (Nat.le_of_ble_eq_true rfl) rfl ?_
  refine pf_X6_9 hΓ rfl ⟨rfl, rfl⟩ (Nat.lt_of_succ_le (Nat.le_of_ble_eq_true rfl)) dX6_init_9 rfl ?_
  refine sv_aload_n hΓ dX6_init_12 rfl 0 rfl rfl ?_
  refine sv_bipush (v := 16) hΓ dX6_init_13 (by decide) rfl ?_
  refine sv_newI hΓ (n := 16) 16 tb_66 dX6_init_15 (by decide) (by decide) (by decide) (Nat.le_of_ble_eq_true rfl) (Nat.le_of_ble_eq_true rfl) rfl ?_
  refine pf_X6_15 hΓ rfl ⟨rfl, rfl⟩ (Nat.lt_of_succ_le (Nat.le_of_ble_eq_true rfl)) dX6_init_17 rfl ?_
  refine sv_aload_n hΓ dX6_init_20 rfl 0 rfl rfl ?_
  refine sv_bipush (v := 16) hΓ dX6_init_21 (by decide) rfl ?_
  refine sv_newI hΓ (n := 16) 16 tb_66 dX6_init_23 (by decide) (by decide) (by decide) (Nat.le_of_ble_eq_true rfl) (Nat.le_of_ble_eq_true rfl) rfl ?_
  refine pf_X6_18 hΓ rfl ⟨rfl, rfl⟩ (Nat.lt_of_succ_le (Nat.le_of_ble_eq_true rfl)) dX6_init_25 rfl ?_
  refine sv_aload_n hΓ dX6_init_28 rfl 0 rfl rfl ?_
  refine sv_iconst (v := 0) hΓ dX6_init_29 (by decide) rfl ?_
  refine pt_X6_21 hΓ rfl ⟨rfl, rfl⟩ (Nat.lt_of_succ_le (Nat.le_of_ble_eq_true rfl)) dX6_init_30 rfl ?_
  refine sv_aload_n hΓ dX6_init_33 rfl 0 rfl rfl ?_
  refine sv_aload_n hΓ dX6_init_34 rfl 1 rfl rfl ?_
  refine pf_X6_25 hΓ rfl ⟨rfl, rfl⟩ (Nat.lt_of_succ_le (Nat.le_of_ble_eq_true rfl)) dX6_init_35 rfl ?_
  refine sv_aload_n hΓ dX6_init_38 rfl 0 rfl rfl ?_
  refine sv_aload_n hΓ dX6_init_39 rfl 2 rfl rfl ?_
  refine pf_X6_29 hΓ rfl ⟨rfl, rfl⟩ (Nat.lt_of_succ_le (Nat.le_of_ble_eq_true rfl)) dX6_init_40 rfl ?_
  refine sv_aload_n hΓ dX6_init_43 rfl 0 rfl rfl ?_
  refine sv_aload_n hΓ dX6_init_44 rfl 3 rfl rfl ?_
  refine pf_X6_33 hΓ rfl ⟨rfl, rfl⟩ (Nat.lt_of_succ_le (Nat.le_of_ble_eq_true rfl)) dX6_init_45 rfl ?_
  refine sv_sub (mz 14 18 M lz_X6) (mz_le ?_ (fun j hj => ?_)) ?_
  · refine List.forall_mem_cons.mpr ⟨rfl, ?_⟩
    refine List.forall_mem_cons.mpr ⟨rfl, ?_⟩
    refine List.forall_mem_cons.mpr ⟨rfl, ?_⟩
    refine List.forall_mem_cons.mpr ⟨rfl, ?_⟩
    exact fun _ h => nomatch h
  · exact (va_up_ne _ _ (by omega)).trans ((va_up_ne _ _ (by omega)).trans ((va_up_ne _ _ (by omega)).trans ((va_up_ne _ _ (by omega)).trans ((va_up_ne _ _ (by omega)).trans ((va_up_ne _ _ (by omega)).trans ((va_up_ne _ _ (by omega)).trans ((va_up_ne _ _ (by omega)).trans ((va_up_ne _ _ (by omega)).trans ((va_up_ne _ _ (by omega)).trans ((va_up_ne _ _ (by omega))))))))))))
  · exact sv_vret hΓ hQ dX6_init_48 (Nat.le_of_ble_eq_true rfl) (Nat.le_of_ble_eq_true rfl) ⟨rfl, rfl, rfl⟩
def lz_X3 : List (Nat × aE) := [(18, .inr (2, [.ref 2, .ref 19, .ref 20, .ref 21, .ref 22, .ref 23, .ref 24, .ref 25, .int 0, .int (-2), .int 0, .int 0])), (19, .inl (5, 4, .inr (.inr (.inr (.inr (va_up (va_up (va_up (va_up (fun _ => none) (0 : Int32).toNatClampNeg (some 26)) (1 : Int32).toNatClampNeg (some 30)) (2 : Int32).toNatClampNeg (some 34)) (3 : Int32).toNatClampNeg (some 38))))))), (20, .inl (5, 4, .inr (.inr (.inr (.inr (va_up (va_up (va_up (va_up (fun _ => none) (0 : Int32).toNatClampNeg (some 28)) (1 : Int32).toNatClampNeg (some 32)) (2 : Int32).toNatClampNeg (some 36)) (3 : Int32).toNatClampNeg (some 40))))))), (21, .inl (1, 16, .inr (.inl (fun _ => 0)))), (22, .inl (1, 16, .inr (.inl (fun _ => 0)))), (23, .inl (0, 4, .inl (fun _ => 0))), (24, .inl (0, 16, .inl (upd (upd (upd (upd (upd (upd (upd (upd (upd (upd (upd (upd (upd (upd (upd (upd (fun _ => 0) (0 : Int32).toNatClampNeg 0) (1 : Int32).toNatClampNeg 1) (2 : Int32).toNatClampNeg 2) (3 : Int32).toNatClampNeg 3) (4 : Int32).toNatClampNeg 4) (5 : Int32).toNatClampNeg 5) (6 : Int32).toNatClampNeg 6) (7 : Int32).toNatClampNeg 7) (8 : Int32).toNatClampNeg 8) (9 : Int32).toNatClampNeg 9) (10 : Int32).toNatClampNeg 10) (11 : Int32).toNatClampNeg 11) (12 : Int32).toNatClampNeg 12) (13 : Int32).toNatClampNeg 13) (14 : Int32).toNatClampNeg 14) (15 : Int32).toNatClampNeg 15))), (25, .inl (1, 16, .inr (.inl (fun _ => 0)))), (26, .inr (9, [.ref 27, .int 0])), (27, .inl (1, 20, .inr (.inl (fun _ => 0)))), (28, .inr (9, [.ref 29, .int 0])), (29, .inl (1, 16, .inr (.inl (fun _ => 0)))), (30, .inr (9, [.ref 31, .int 0])), (31, .inl (1, 20, .inr (.inl (fun _ => 0)))), (32, .inr (9, [.ref 33, .int 0])), (33, .inl (1, 16, .inr (.inl (fun _ => 0)))), (34, .inr (9, [.ref 35, .int 0])), (35, .inl (1, 20, .inr (.inl (fun _ => 0)))), (36, .inr (9, [.ref 37, .int 0])), (37, .inl (1, 16, .inr (.inl (fun _ => 0)))), (38, .inr (9, [.ref 39, .int 0])), (39, .inl (1, 20, .inr (.inl (fun _ => 0)))), (40, .inr (9, [.ref 41, .int 0])), (41, .inl (1, 16, .inr (.inl (fun _ => 0))))]
theorem ct_X3_init {E : aG} (l : Launch) {M : aM} (hM : M 18 = some (.inr (2, [.null, .null, .null, .null, .null, .null, .null, .null, .int 0, .int 0, .int 0, .int 0]))) (hNW : NW E) : CT E l yX3_init cX3_init 3 none 2 [.ref 18, .ref 2] M 19 23 236 (fun r M' nx' => r = none ∧ M' = mz 18 42 M lz_X3 ∧ 42 = nx') := by
  refine CT_intro (by decide) (Nat.le_of_ble_eq_true rfl) (fun Γ hΓ hQ => ?_)
  replace hΓ : CK E RX3 cX3_init 3 none "<init>" 2 23 236 Γ := hΓ
  show SV E Γ 3 M 19 0 0 0 [(0, .ref 18), (1, .ref 2)] []
  refine sv_sub (va_up M 18 (some (.inr (2, [.null, .null, .null, .null, .null, .null, .null, .null, .int 0, .int 0, .int 0, .int 0])))) (fun j x h => by rw [← va_up_eq hM] at h; exact h) ?_
  refine sv_aload_n hΓ dX3_init_0 rfl 0 rfl rfl ?_
  refine sv_objInit hΓ ⟨tb_157, tb_29, tb_30⟩ (by decide) (Nat.le_of_ble_eq_true rfl) dX3_init_1 rfl ?_
  refine sv_aload_n hΓ dX3_init_4 rfl 0 rfl rfl ?_
  refine sv_iconst (v := 4) hΓ dX3_init_5 (by decide) rfl ?_
  refine sv_newA hΓ (n := 4) (t := 5) 4 rfl tb_158 hNW.2.2.2.2.2.2.2.2.1 dX3_init_6 (by decide) (by decide) (by decide) (Nat.le_of_ble_eq_true rfl) (Nat.le_of_ble_eq_true rfl) rfl ?_
  refine pf_X3_11 hΓ rfl ⟨rfl, rfl⟩ (Nat.lt_of_succ_le (Nat.le_of_ble_eq_true rfl)) dX3_init_9 rfl ?_
  refine sv_aload_n hΓ dX3_init_12 rfl 0 rfl rfl ?_
  refine sv_iconst (v := 4) hΓ dX3_init_13 (by decide) rfl ?_
  refine sv_newA hΓ (n := 4) (t := 5) 4 rfl tb_158 hNW.2.2.2.2.2.2.2.2.1 dX3_init_14 (by decide) (by decide) (by decide) (Nat.le_of_ble_eq_true rfl) (Nat.le_of_ble_eq_true rfl) rfl ?_
  refine pf_X3_17 hΓ rfl ⟨rfl, rfl⟩ (Nat.lt_of_succ_le (Nat.le_of_ble_eq_true rfl)) dX3_init_17 rfl ?_
  refine sv_aload_n hΓ dX3_init_20 rfl 0 rfl rfl ?_
  refine sv_bipush (v := 16) hΓ dX3_init_21 (by decide) rfl ?_
  refine sv_newJ hΓ (n := 16) 16 tb_172 dX3_init_23 (by decide) (by decide) (by decide) (Nat.le_of_ble_eq_true rfl) (Nat.le_of_ble_eq_true rfl) rfl ?_
  refine pf_X3_20 hΓ rfl ⟨rfl, rfl⟩ (Nat.lt_of_succ_le (Nat.le_of_ble_eq_true rfl)) dX3_init_25 rfl ?_
  refine sv_aload_n hΓ dX3_init_28 rfl 0 rfl rfl ?_
  refine sv_bipush (v := 16) hΓ dX3_init_29 (by decide) rfl ?_
  refine sv_newJ hΓ (n := 16) 16 tb_172 dX3_init_31 (by decide) (by decide) (by decide) (Nat.le_of_ble_eq_true rfl) (Nat.le_of_ble_eq_true rfl) rfl ?_
  refine pf_X3_24 hΓ rfl ⟨rfl, rfl⟩ (Nat.lt_of_succ_le (Nat.le_of_ble_eq_true rfl)) dX3_init_33 rfl ?_
  refine sv_aload_n hΓ dX3_init_36 rfl 0 rfl rfl ?_
  refine sv_iconst (v := 4) hΓ dX3_init_37 (by decide) rfl ?_
  refine sv_newI hΓ (n := 4) 4 tb_66 dX3_init_38 (by decide) (by decide) (by decide) (Nat.le_of_ble_eq_true rfl) (Nat.le_of_ble_eq_true rfl) rfl ?_
  refine pf_X3_27 hΓ rfl ⟨rfl, rfl⟩ (Nat.lt_of_succ_le (Nat.le_of_ble_eq_true rfl)) dX3_init_40 rfl ?_
  refine sv_aload_n hΓ dX3_init_43 rfl 0 rfl rfl ?_
  refine sv_bipush (v := 16) hΓ dX3_init_44 (by decide) rfl ?_
  refine sv_newI hΓ (n := 16) 16 tb_66 dX3_init_46 (by decide) (by decide) (by decide) (Nat.le_of_ble_eq_true rfl) (Nat.le_of_ble_eq_true rfl) rfl ?_
  refine pf_X3_31 hΓ rfl ⟨rfl, rfl⟩ (Nat.lt_of_succ_le (Nat.le_of_ble_eq_true rfl)) dX3_init_48 rfl ?_
  refine sv_aload_n hΓ dX3_init_51 rfl 0 rfl rfl ?_
  refine sv_bipush (v := 16) hΓ dX3_init_52 (by decide) rfl ?_
  refine sv_newJ hΓ (n := 16) 16 tb_172 dX3_init_54 (by decide) (by decide) (by decide) (Nat.le_of_ble_eq_true rfl) (Nat.le_of_ble_eq_true rfl) rfl ?_
  refine pf_X3_34 hΓ rfl ⟨rfl, rfl⟩ (Nat.lt_of_succ_le (Nat.le_of_ble_eq_true rfl)) dX3_init_56 rfl ?_
  refine sv_aload_n hΓ dX3_init_59 rfl 0 rfl rfl ?_
  refine sv_iconst (v := 0) hΓ dX3_init_60 (by decide) rfl ?_
  refine pt_X3_37 hΓ rfl ⟨rfl, rfl⟩ (Nat.lt_of_succ_le (Nat.le_of_ble_eq_true rfl)) dX3_init_61 rfl ?_
  refine sv_aload_n hΓ dX3_init_64 rfl 0 rfl rfl ?_
  refine sv_bipush (v := (-2)) hΓ dX3_init_65 (by decide) rfl ?_
  refine pt_X3_41 hΓ rfl ⟨rfl, rfl⟩ (Nat.lt_of_succ_le (Nat.le_of_ble_eq_true rfl)) dX3_init_67 rfl ?_
  refine sv_aload_n hΓ dX3_init_70 rfl 0 rfl rfl ?_
  refine sv_iconst (v := 0) hΓ dX3_init_71 (by decide) rfl ?_
  refine pt_X3_44 hΓ rfl ⟨rfl, rfl⟩ (Nat.lt_of_succ_le (Nat.le_of_ble_eq_true rfl)) dX3_init_72 rfl ?_
  refine sv_aload_n hΓ dX3_init_75 rfl 0 rfl rfl ?_
  refine sv_iconst (v := 0) hΓ dX3_init_76 (by decide) rfl ?_
  refine pt_X3_47 hΓ rfl ⟨rfl, rfl⟩ (Nat.lt_of_succ_le (Nat.le_of_ble_eq_true rfl)) dX3_init_77 rfl ?_
  refine sv_aload_n hΓ dX3_init_80 rfl 0 rfl rfl ?_
  refine sv_aload_n hΓ dX3_init_81 rfl 1 rfl rfl ?_
  refine pf_X3_50 hΓ rfl ⟨rfl, rfl⟩ (Nat.lt_of_succ_le (Nat.le_of_ble_eq_true rfl)) dX3_init_82 rfl ?_
  refine sv_iconst (v := 0) hΓ dX3_init_85 (by decide) rfl ?_
  refine sv_istore_n hΓ dX3_init_86 rfl (by decide) rfl rfl ?_
  refine sv_iload_n hΓ dX3_init_87 rfl 0 rfl rfl ?_
  refine sv_iconst (v := 4) hΓ dX3_init_88 (by decide) rfl ?_
  refine sv_icmp_ge (tgt := 128) hΓ dX3_init_89 (by decide) rfl (fun h => absurd h (by decide)) (fun _ => ?_)
  refine sv_aload_n hΓ dX3_init_92 rfl 1 rfl rfl ?_
  refine gt_X3_11 hΓ rfl rfl dX3_init_93 rfl ?_
  refine sv_iload_n hΓ dX3_init_96 rfl 0 rfl rfl ?_
  refine nw_X3_9 hΓ dX3_init_97 (Nat.le_of_ble_eq_true rfl) (Nat.le_of_ble_eq_true rfl) rfl ?_
  refine sv_dup hΓ dX3_init_100 rfl rfl ?_
  refine sv_bipush (v := 20) hΓ dX3_init_101 (by decide) rfl ?_
  refine sv_callI hΓ (fun l => ct_X10_init l 26 20 20 rfl (by decide) (by decide) (by decide) (by decide)) wv_X3_54 tb_162 rfl rfl rfl (by decide) (Nat.le_of_ble_eq_true rfl) (Nat.le_of_ble_eq_true rfl) (Nat.le_of_ble_eq_true rfl) dX3_init_103 rfl (fun r M' nx' p1 => ?_)
  obtain ⟨rfl, rfl, rfl⟩ := p1
  show SV E Γ 3 _ 28 9 98 106 [(2, .int 0), (0, .ref 18), (1, .ref 2)] [.ref 26, .int 0, .ref 19]
  refine sv_aast hΓ (t := 5) (ci := 9) rfl rfl (Or.inl rfl) dX3_init_106 rfl rfl (by unfold vp_in; decide) rfl ?_
  refine sv_aload_n hΓ dX3_init_107 rfl 1 rfl rfl ?_
  refine gt_X3_17 hΓ rfl rfl dX3_init_108 rfl ?_
  refine sv_iload_n hΓ dX3_init_111 rfl 0 rfl rfl ?_
  refine nw_X3_9 hΓ dX3_init_112 (Nat.le_of_ble_eq_true rfl) (Nat.le_of_ble_eq_true rfl) rfl ?_
  refine sv_dup hΓ dX3_init_115 rfl rfl ?_
  refine sv_bipush (v := 16) hΓ dX3_init_116 (by decide) rfl ?_
  refine sv_callI hΓ (fun l => ct_X10_init l 28 16 16 rfl (by decide) (by decide) (by decide) (by decide)) wv_X3_54 tb_162 rfl rfl rfl (by decide) (Nat.le_of_ble_eq_true rfl) (Nat.le_of_ble_eq_true rfl) (Nat.le_of_ble_eq_true rfl) dX3_init_118 rfl (fun r M' nx' p1 => ?_)
  obtain ⟨rfl, rfl, rfl⟩ := p1
  show SV E Γ 3 _ 30 11 116 121 [(2, .int 0), (0, .ref 18), (1, .ref 2)] [.ref 28, .int 0, .ref 20]
  refine sv_aast hΓ (t := 5) (ci := 9) rfl rfl (Or.inl rfl) dX3_init_121 rfl rfl (by unfold vp_in; decide) rfl ?_
  refine sv_iinc hΓ dX3_init_122 0 rfl (v := 1) (by decide) (by decide) rfl rfl ?_
  refine sv_goto (pc' := 87) hΓ dX3_init_125 (by decide) ?_
  refine sv_iload_n hΓ dX3_init_87 rfl 0 rfl rfl ?_
  refine sv_iconst (v := 4) hΓ dX3_init_88 (by decide) rfl ?_
  refine sv_icmp_ge (tgt := 128) hΓ dX3_init_89 (by decide) rfl (fun h => absurd h (by decide)) (fun _ => ?_)
  refine sv_aload_n hΓ dX3_init_92 rfl 1 rfl rfl ?_
  refine gt_X3_11 hΓ rfl rfl dX3_init_93 rfl ?_
  refine sv_iload_n hΓ dX3_init_96 rfl 0 rfl rfl ?_
  refine nw_X3_9 hΓ dX3_init_97 (Nat.le_of_ble_eq_true rfl) (Nat.le_of_ble_eq_true rfl) rfl ?_
  refine sv_dup hΓ dX3_init_100 rfl rfl ?_
  refine sv_bipush (v := 20) hΓ dX3_init_101 (by decide) rfl ?_
  refine sv_callI hΓ (fun l => ct_X10_init l 30 20 20 rfl (by decide) (by decide) (by decide) (by decide)) wv_X3_54 tb_162 rfl rfl rfl (by decide) (Nat.le_of_ble_eq_true rfl) (Nat.le_of_ble_eq_true rfl) (Nat.le_of_ble_eq_true rfl) dX3_init_103 rfl (fun r M' nx' p1 => ?_)
  obtain ⟨rfl, rfl, rfl⟩ := p1
  show SV E Γ 3 _ 32 13 138 106 [(2, .int 1), (0, .ref 18), (1, .ref 2)] [.ref 30, .int 1, .ref 19]
  refine sv_aast hΓ (t := 5) (ci := 9) rfl rfl (Or.inl rfl) dX3_init_106 rfl rfl (by unfold vp_in; decide) rfl ?_
  refine sv_aload_n hΓ dX3_init_107 rfl 1 rfl rfl ?_
  refine gt_X3_17 hΓ rfl rfl dX3_init_108 rfl ?_
  refine sv_iload_n hΓ dX3_init_111 rfl 0 rfl rfl ?_
  refine nw_X3_9 hΓ dX3_init_112 (Nat.le_of_ble_eq_true rfl) (Nat.le_of_ble_eq_true rfl) rfl ?_
  refine sv_dup hΓ dX3_init_115 rfl rfl ?_
  refine sv_bipush (v := 16) hΓ dX3_init_116 (by decide) rfl ?_
  refine sv_callI hΓ (fun l => ct_X10_init l 32 16 16 rfl (by decide) (by decide) (by decide) (by decide)) wv_X3_54 tb_162 rfl rfl rfl (by decide) (Nat.le_of_ble_eq_true rfl) (Nat.le_of_ble_eq_true rfl) (Nat.le_of_ble_eq_true rfl) dX3_init_118 rfl (fun r M' nx' p1 => ?_)
  obtain ⟨rfl, rfl, rfl⟩ := p1
  show SV E Γ 3 _ 34 15 156 121 [(2, .int 1), (0, .ref 18), (1, .ref 2)] [.ref 32, .int 1, .ref 20]
  refine sv_aast hΓ (t := 5) (ci := 9) rfl rfl (Or.inl rfl) dX3_init_121 rfl rfl (by unfold vp_in; decide) rfl ?_
  refine sv_iinc hΓ dX3_init_122 0 rfl (v := 2) (by decide) (by decide) rfl rfl ?_
  refine sv_goto (pc' := 87) hΓ dX3_init_125 (by decide) ?_
  refine sv_iload_n hΓ dX3_init_87 rfl 0 rfl rfl ?_
  refine sv_iconst (v := 4) hΓ dX3_init_88 (by decide) rfl ?_
  refine sv_icmp_ge (tgt := 128) hΓ dX3_init_89 (by decide) rfl (fun h => absurd h (by decide)) (fun _ => ?_)
  refine sv_aload_n hΓ dX3_init_92 rfl 1 rfl rfl ?_
  refine gt_X3_11 hΓ rfl rfl dX3_init_93 rfl ?_
  refine sv_iload_n hΓ dX3_init_96 rfl 0 rfl rfl ?_
  refine nw_X3_9 hΓ dX3_init_97 (Nat.le_of_ble_eq_true rfl) (Nat.le_of_ble_eq_true rfl) rfl ?_
  refine sv_dup hΓ dX3_init_100 rfl rfl ?_
  refine sv_bipush (v := 20) hΓ dX3_init_101 (by decide) rfl ?_
  refine sv_callI hΓ (fun l => ct_X10_init l 34 20 20 rfl (by decide) (by decide) (by decide) (by decide)) wv_X3_54 tb_162 rfl rfl rfl (by decide) (Nat.le_of_ble_eq_true rfl) (Nat.le_of_ble_eq_true rfl) (Nat.le_of_ble_eq_true rfl) dX3_init_103 rfl (fun r M' nx' p1 => ?_)
  obtain ⟨rfl, rfl, rfl⟩ := p1
  show SV E Γ 3 _ 36 17 178 106 [(2, .int 2), (0, .ref 18), (1, .ref 2)] [.ref 34, .int 2, .ref 19]
  refine sv_aast hΓ (t := 5) (ci := 9) rfl rfl (Or.inl rfl) dX3_init_106 rfl rfl (by unfold vp_in; decide) rfl ?_
  refine sv_aload_n hΓ dX3_init_107 rfl 1 rfl rfl ?_
  refine gt_X3_17 hΓ rfl rfl dX3_init_108 rfl ?_
  refine sv_iload_n hΓ dX3_init_111 rfl 0 rfl rfl ?_
  refine nw_X3_9 hΓ dX3_init_112 (Nat.le_of_ble_eq_true rfl) (Nat.le_of_ble_eq_true rfl) rfl ?_
  refine sv_dup hΓ dX3_init_115 rfl rfl ?_
  refine sv_bipush (v := 16) hΓ dX3_init_116 (by decide) rfl ?_
  refine sv_callI hΓ (fun l => ct_X10_init l 36 16 16 rfl (by decide) (by decide) (by decide) (by decide)) wv_X3_54 tb_162 rfl rfl rfl (by decide) (Nat.le_of_ble_eq_true rfl) (Nat.le_of_ble_eq_true rfl) (Nat.le_of_ble_eq_true rfl) dX3_init_118 rfl (fun r M' nx' p1 => ?_)
  obtain ⟨rfl, rfl, rfl⟩ := p1
  show SV E Γ 3 _ 38 19 196 121 [(2, .int 2), (0, .ref 18), (1, .ref 2)] [.ref 36, .int 2, .ref 20]
  refine sv_aast hΓ (t := 5) (ci := 9) rfl rfl (Or.inl rfl) dX3_init_121 rfl rfl (by unfold vp_in; decide) rfl ?_
  refine sv_iinc hΓ dX3_init_122 0 rfl (v := 3) (by decide) (by decide) rfl rfl ?_
  refine sv_goto (pc' := 87) hΓ dX3_init_125 (by decide) ?_
  refine sv_iload_n hΓ dX3_init_87 rfl 0 rfl rfl ?_
  refine sv_iconst (v := 4) hΓ dX3_init_88 (by decide) rfl ?_
  refine sv_icmp_ge (tgt := 128) hΓ dX3_init_89 (by decide) rfl (fun h => absurd h (by decide)) (fun _ => ?_)
  refine sv_aload_n hΓ dX3_init_92 rfl 1 rfl rfl ?_
  refine gt_X3_11 hΓ rfl rfl dX3_init_93 rfl ?_
  refine sv_iload_n hΓ dX3_init_96 rfl 0 rfl rfl ?_
  refine nw_X3_9 hΓ dX3_init_97 (Nat.le_of_ble_eq_true rfl) (Nat.le_of_ble_eq_true rfl) rfl ?_
  refine sv_dup hΓ dX3_init_100 rfl rfl ?_
  refine sv_bipush (v := 20) hΓ dX3_init_101 (by decide) rfl ?_
  refine sv_callI hΓ (fun l => ct_X10_init l 38 20 20 rfl (by decide) (by decide) (by decide) (by decide)) wv_X3_54 tb_162 rfl rfl rfl (by decide) (Nat.le_of_ble_eq_true rfl) (Nat.le_of_ble_eq_true rfl) (Nat.le_of_ble_eq_true rfl) dX3_init_103 rfl (fun r M' nx' p1 => ?_)
  obtain ⟨rfl, rfl, rfl⟩ := p1
  show SV E Γ 3 _ 40 21 218 106 [(2, .int 3), (0, .ref 18), (1, .ref 2)] [.ref 38, .int 3, .ref 19]
  refine sv_aast hΓ (t := 5) (ci := 9) rfl rfl (Or.inl rfl) dX3_init_106 rfl rfl (by unfold vp_in; decide) rfl ?_
  refine sv_aload_n hΓ dX3_init_107 rfl 1 rfl rfl ?_
  refine gt_X3_17 hΓ rfl rfl dX3_init_108 rfl ?_
  refine sv_iload_n hΓ dX3_init_111 rfl 0 rfl rfl ?_
  refine nw_X3_9 hΓ dX3_init_112 (Nat.le_of_ble_eq_true rfl) (Nat.le_of_ble_eq_true rfl) rfl ?_
  refine sv_dup hΓ dX3_init_115 rfl rfl ?_
  refine sv_bipush (v := 16) hΓ dX3_init_116 (by decide) rfl ?_
  refine sv_callI hΓ (fun l => ct_X10_init l 40 16 16 rfl (by decide) (by decide) (by decide) (by decide)) wv_X3_54 tb_162 rfl rfl rfl (by decide) (Nat.le_of_ble_eq_true rfl) (Nat.le_of_ble_eq_true rfl) (Nat.le_of_ble_eq_true rfl) dX3_init_118 rfl (fun r M' nx' p1 => ?_)
  obtain ⟨rfl, rfl, rfl⟩ := p1
  show SV E Γ 3 _ 42 23 236 121 [(2, .int 3), (0, .ref 18), (1, .ref 2)] [.ref 40, .int 3, .ref 20]
  refine sv_aast hΓ (t := 5) (ci := 9) rfl rfl (Or.inl rfl) dX3_init_121 rfl rfl (by unfold vp_in; decide) rfl ?_
  refine sv_iinc hΓ dX3_init_122 0 rfl (v := 4) (by decide) (by decide) rfl rfl ?_
  refine sv_goto (pc' := 87) hΓ dX3_init_125 (by decide) ?_
  refine sv_iload_n hΓ dX3_init_87 rfl 0 rfl rfl ?_
  refine sv_iconst (v := 4) hΓ dX3_init_88 (by decide) rfl ?_
  refine sv_icmp_ge (tgt := 128) hΓ dX3_init_89 (by decide) rfl (fun _ => ?_) (fun h => absurd (by decide) h)
  refine sv_iconst (v := 0) hΓ dX3_init_128 (by decide) rfl ?_
  refine sv_istore_n hΓ dX3_init_129 rfl (by decide) rfl rfl ?_
  refine sv_iload_n hΓ dX3_init_130 rfl 0 rfl rfl ?_
  refine sv_bipush (v := 16) hΓ dX3_init_131 (by decide) rfl ?_
  refine sv_icmp_ge (tgt := 149) hΓ dX3_init_133 (by decide) rfl (fun h => absurd h (by decide)) (fun _ => ?_)
  refine sv_aload_n hΓ dX3_init_136 rfl 1 rfl rfl ?_
  refine gt_X3_31 hΓ rfl rfl dX3_init_137 rfl ?_
  refine sv_iload_n hΓ dX3_init_140 rfl 0 rfl rfl ?_
  refine sv_iload_n hΓ dX3_init_141 rfl 0 rfl rfl ?_
  refine sv_iast hΓ dX3_init_142 rfl (by unfold vp_in; decide) rfl ?_
  refine sv_iinc hΓ dX3_init_143 0 rfl (v := 1) (by decide) (by decide) rfl rfl ?_
  refine sv_goto (pc' := 130) hΓ dX3_init_146 (by decide) ?_
  refine sv_iload_n hΓ dX3_init_130 rfl 0 rfl rfl ?_
  refine sv_bipush (v := 16) hΓ dX3_init_131 (by decide) rfl ?_
  refine sv_icmp_ge (tgt := 149) hΓ dX3_init_133 (by decide) rfl (fun h => absurd h (by decide)) (fun _ => ?_)
  refine sv_aload_n hΓ dX3_init_136 rfl 1 rfl rfl ?_
  refine gt_X3_31 hΓ rfl rfl dX3_init_137 rfl ?_
  refine sv_iload_n hΓ dX3_init_140 rfl 0 rfl rfl ?_
  refine sv_iload_n hΓ dX3_init_141 rfl 0 rfl rfl ?_
  refine sv_iast hΓ dX3_init_142 rfl (by unfold vp_in; decide) rfl ?_
  refine sv_iinc hΓ dX3_init_143 0 rfl (v := 2) (by decide) (by decide) rfl rfl ?_
  refine sv_goto (pc' := 130) hΓ dX3_init_146 (by decide) ?_
  refine sv_iload_n hΓ dX3_init_130 rfl 0 rfl rfl ?_
  refine sv_bipush (v := 16) hΓ dX3_init_131 (by decide) rfl ?_
  refine sv_icmp_ge (tgt := 149) hΓ dX3_init_133 (by decide) rfl (fun h => absurd h (by decide)) (fun _ => ?_)
  refine sv_aload_n hΓ dX3_init_136 rfl 1 rfl rfl ?_
  refine gt_X3_31 hΓ rfl rfl dX3_init_137 rfl ?_
  refine sv_iload_n hΓ dX3_init_140 rfl 0 rfl rfl ?_
  refine sv_iload_n hΓ dX3_init_141 rfl 0 rfl rfl ?_
  refine sv_iast hΓ dX3_init_142 rfl (by unfold vp_in; decide) rfl ?_
  refine sv_iinc hΓ dX3_init_143 0 rfl (v := 3) (by decide) (by decide) rfl rfl ?_
  refine sv_goto (pc' := 130) hΓ dX3_init_146 (by decide) ?_
  refine sv_iload_n hΓ dX3_init_130 rfl 0 rfl rfl ?_
  refine sv_bipush (v := 16) hΓ dX3_init_131 (by decide) rfl ?_
  refine sv_icmp_ge (tgt := 149) hΓ dX3_init_133 (by decide) rfl (fun h => absurd h (by decide)) (fun _ => ?_)
  refine sv_aload_n hΓ dX3_init_136 rfl 1 rfl rfl ?_
  refine gt_X3_31 hΓ rfl rfl dX3_init_137 rfl ?_
  refine sv_iload_n hΓ dX3_init_140 rfl 0 rfl rfl ?_
  refine sv_iload_n hΓ dX3_init_141 rfl 0 rfl rfl ?_
  refine sv_iast hΓ dX3_init_142 rfl (by unfold vp_in; decide) rfl ?_
  refine sv_iinc hΓ dX3_init_143 0 rfl (v := 4) (by decide) (by decide) rfl rfl ?_
  refine sv_goto (pc' := 130) hΓ dX3_init_146 (by decide) ?_
  refine sv_iload_n hΓ dX3_init_130 rfl 0 rfl rfl ?_
  refine sv_bipush (v := 16) hΓ dX3_init_131 (by decide) rfl ?_
  refine sv_icmp_ge (tgt := 149) hΓ dX3_init_133 (by decide) rfl (fun h => absurd h (by decide)) (fun _ => ?_)
  refine sv_aload_n hΓ dX3_init_136 rfl 1 rfl rfl ?_
  refine gt_X3_31 hΓ rfl rfl dX3_init_137 rfl ?_
  refine sv_iload_n hΓ dX3_init_140 rfl 0 rfl rfl ?_
  refine sv_iload_n hΓ dX3_init_141 rfl 0 rfl rfl ?_
  refine sv_iast hΓ dX3_init_142 rfl (by unfold vp_in; decide) rfl ?_
  refine sv_iinc hΓ dX3_init_143 0 rfl (v := 5) (by decide) (by decide) rfl rfl ?_
  refine sv_goto (pc' := 130) hΓ dX3_init_146 (by decide) ?_
  refine sv_iload_n hΓ dX3_init_130 rfl 0 rfl rfl ?_
  refine sv_bipush (v := 16) hΓ dX3_init_131 (by decide) rfl ?_
  refine sv_icmp_ge (tgt := 149) hΓ dX3_init_133 (by decide) rfl (fun h => absurd h (by decide)) (fun _ => ?_)
  refine sv_aload_n hΓ dX3_init_136 rfl 1 rfl rfl ?_
  refine gt_X3_31 hΓ rfl rfl dX3_init_137 rfl ?_
  refine sv_iload_n hΓ dX3_init_140 rfl 0 rfl rfl ?_
  refine sv_iload_n hΓ dX3_init_141 rfl 0 rfl rfl ?_
  refine sv_iast hΓ dX3_init_142 rfl (by unfold vp_in; decide) rfl ?_
  refine sv_iinc hΓ dX3_init_143 0 rfl (v := 6) (by decide) (by decide) rfl rfl ?_
  refine sv_goto (pc' := 130) hΓ dX3_init_146 (by decide) ?_
  refine sv_iload_n hΓ dX3_init_130 rfl 0 rfl rfl ?_
  refine sv_bipush (v := 16) hΓ dX3_init_131 (by decide) rfl ?_
  refine sv_icmp_ge (tgt := 149) hΓ dX3_init_133 (by decide) rfl (fun h => absurd h (by decide)) (fun _ => ?_)
  refine sv_aload_n hΓ dX3_init_136 rfl 1 rfl rfl ?_
  refine gt_X3_31 hΓ rfl rfl dX3_init_137 rfl ?_
  refine sv_iload_n hΓ dX3_init_140 rfl 0 rfl rfl ?_
  refine sv_iload_n hΓ dX3_init_141 rfl 0 rfl rfl ?_
  refine sv_iast hΓ dX3_init_142 rfl (by unfold vp_in; decide) rfl ?_
  refine sv_iinc hΓ dX3_init_143 0 rfl (v := 7) (by decide) (by decide) rfl rfl ?_
  refine sv_goto (pc' := 130) hΓ dX3_init_146 (by decide) ?_
  refine sv_iload_n hΓ dX3_init_130 rfl 0 rfl rfl ?_
  refine sv_bipush (v := 16) hΓ dX3_init_131 (by decide) rfl ?_
  refine sv_icmp_ge (tgt := 149) hΓ dX3_init_133 (by decide) rfl (fun h => absurd h (by decide)) (fun _ => ?_)
  refine sv_aload_n hΓ dX3_init_136 rfl 1 rfl rfl ?_
  refine gt_X3_31 hΓ rfl rfl dX3_init_137 rfl ?_
  refine sv_iload_n hΓ dX3_init_140 rfl 0 rfl rfl ?_
  refine sv_iload_n hΓ dX3_init_141 rfl 0 rfl rfl ?_
  refine sv_iast hΓ dX3_init_142 rfl (by unfold vp_in; decide) rfl ?_
  refine sv_iinc hΓ dX3_init_143 0 rfl (v := 8) (by decide) (by decide) rfl rfl ?_
  refine sv_goto (pc' := 130) hΓ dX3_init_146 (by decide) ?_
  refine sv_iload_n hΓ dX3_init_130 rfl 0 rfl rfl ?_
  refine sv_bipush (v := 16) hΓ dX3_init_131 (by decide) rfl ?_
  refine sv_icmp_ge (tgt := 149) hΓ dX3_init_133 (by decide) rfl (fun h => absurd h (by decide)) (fun _ => ?_)
  refine sv_aload_n hΓ dX3_init_136 rfl 1 rfl rfl ?_
  refine gt_X3_31 hΓ rfl rfl dX3_init_137 rfl ?_
  refine sv_iload_n hΓ dX3_init_140 rfl 0 rfl rfl ?_
  refine sv_iload_n hΓ dX3_init_141 rfl 0 rfl rfl ?_
  refine sv_iast hΓ dX3_init_142 rfl (by unfold vp_in; decide) rfl ?_
  refine sv_iinc hΓ dX3_init_143 0 rfl (v := 9) (by decide) (by decide) rfl rfl ?_
  refine sv_goto (pc' := 130) hΓ dX3_init_146 (by decide) ?_
  refine sv_iload_n hΓ dX3_init_130 rfl 0 rfl rfl ?_
  refine sv_bipush (v := 16) hΓ dX3_init_131 (by decide) rfl ?_
  refine sv_icmp_ge (tgt := 149) hΓ dX3_init_133 (by decide) rfl (fun h => absurd h (by decide)) (fun _ => ?_)
  refine sv_aload_n hΓ dX3_init_136 rfl 1 rfl rfl ?_
  refine gt_X3_31 hΓ rfl rfl dX3_init_137 rfl ?_
  refine sv_iload_n hΓ dX3_init_140 rfl 0 rfl rfl ?_
  refine sv_iload_n hΓ dX3_init_141 rfl 0 rfl rfl ?_
  refine sv_iast hΓ dX3_init_142 rfl (by unfold vp_in; decide) rfl ?_
  refine sv_iinc hΓ dX3_init_143 0 rfl (v := 10) (by decide) (by decide) rfl rfl ?_
  refine sv_goto (pc' := 130) hΓ dX3_init_146 (by decide) ?_
  refine sv_iload_n hΓ dX3_init_130 rfl 0 rfl rfl ?_
  refine sv_bipush (v := 16) hΓ dX3_init_131 (by decide) rfl ?_
  refine sv_icmp_ge (tgt := 149) hΓ dX3_init_133 (by decide) rfl (fun h => absurd h (by decide)) (fun _ => ?_)
  refine sv_aload_n hΓ dX3_init_136 rfl 1 rfl rfl ?_
  refine gt_X3_31 hΓ rfl rfl dX3_init_137 rfl ?_
  refine sv_iload_n hΓ dX3_init_140 rfl 0 rfl rfl ?_
  refine sv_iload_n hΓ dX3_init_141 rfl 0 rfl rfl ?_
  refine sv_iast hΓ dX3_init_142 rfl (by unfold vp_in; decide) rfl ?_
  refine sv_iinc hΓ dX3_init_143 0 rfl (v := 11) (by decide) (by decide) rfl rfl ?_
  refine sv_goto (pc' := 130) hΓ dX3_init_146 (by decide) ?_
  refine sv_iload_n hΓ dX3_init_130 rfl 0 rfl rfl ?_
  refine sv_bipush (v := 16) hΓ dX3_init_131 (by decide) rfl ?_
  refine sv_icmp_ge (tgt := 149) hΓ dX3_init_133 (by decide) rfl (fun h => absurd h (by decide)) (fun _ => ?_)
  refine sv_aload_n hΓ dX3_init_136 rfl 1 rfl rfl ?_
  refine gt_X3_31 hΓ rfl rfl dX3_init_137 rfl ?_
  refine sv_iload_n hΓ dX3_init_140 rfl 0 rfl rfl ?_
  refine sv_iload_n hΓ dX3_init_141 rfl 0 rfl rfl ?_
  refine sv_iast hΓ dX3_init_142 rfl (by unfold vp_in; decide) rfl ?_
  refine sv_iinc hΓ dX3_init_143 0 rfl (v := 12) (by decide) (by decide) rfl rfl ?_
  refine sv_goto (pc' := 130) hΓ dX3_init_146 (by decide) ?_
  refine sv_iload_n hΓ dX3_init_130 rfl 0 rfl rfl ?_
  refine sv_bipush (v := 16) hΓ dX3_init_131 (by decide) rfl ?_
  refine sv_icmp_ge (tgt := 149) hΓ dX3_init_133 (by decide) rfl (fun h => absurd h (by decide)) (fun _ => ?_)
  refine sv_aload_n hΓ dX3_init_136 rfl 1 rfl rfl ?_
  refine gt_X3_31 hΓ rfl rfl dX3_init_137 rfl ?_
  refine sv_iload_n hΓ dX3_init_140 rfl 0 rfl rfl ?_
  refine sv_iload_n hΓ dX3_init_141 rfl 0 rfl rfl ?_
  refine sv_iast hΓ dX3_init_142 rfl (by unfold vp_in; decide) rfl ?_
  refine sv_iinc hΓ dX3_init_143 0 rfl (v := 13) (by decide) (by decide) rfl rfl ?_
  refine sv_goto (pc' := 130) hΓ dX3_init_146 (by decide) ?_
  refine sv_iload_n hΓ dX3_init_130 rfl 0 rfl rfl ?_
  refine sv_bipush (v := 16) hΓ dX3_init_131 (by decide) rfl ?_
  refine sv_icmp_ge (tgt := 149) hΓ dX3_init_133 (by decide) rfl (fun h => absurd h (by decide)) (fun _ => ?_)
  refine sv_aload_n hΓ dX3_init_136 rfl 1 rfl rfl ?_
  refine gt_X3_31 hΓ rfl rfl dX3_init_137 rfl ?_
  refine sv_iload_n hΓ dX3_init_140 rfl 0 rfl rfl ?_
  refine sv_iload_n hΓ dX3_init_141 rfl 0 rfl rfl ?_
  refine sv_iast hΓ dX3_init_142 rfl (by unfold vp_in; decide) rfl ?_
  refine sv_iinc hΓ dX3_init_143 0 rfl (v := 14) (by decide) (by decide) rfl rfl ?_
  refine sv_goto (pc' := 130) hΓ dX3_init_146 (by decide) ?_
  refine sv_iload_n hΓ dX3_init_130 rfl 0 rfl rfl ?_
  refine sv_bipush (v := 16) hΓ dX3_init_131 (by decide) rfl ?_
  refine sv_icmp_ge (tgt := 149) hΓ dX3_init_133 (by decide) rfl (fun h => absurd h (by decide)) (fun _ => ?_)
  refine sv_aload_n hΓ dX3_init_136 rfl 1 rfl rfl ?_
  refine gt_X3_31 hΓ rfl rfl dX3_init_137 rfl ?_
  refine sv_iload_n hΓ dX3_init_140 rfl 0 rfl rfl ?_
  refine sv_iload_n hΓ dX3_init_141 rfl 0 rfl rfl ?_
  refine sv_iast hΓ dX3_init_142 rfl (by unfold vp_in; decide) rfl ?_
  refine sv_iinc hΓ dX3_init_143 0 rfl (v := 15) (by decide) (by decide) rfl rfl ?_
  refine sv_goto (pc' := 130) hΓ dX3_init_146 (by decide) ?_
  refine sv_iload_n hΓ dX3_init_130 rfl 0 rfl rfl ?_
  refine sv_bipush (v := 16) hΓ dX3_init_131 (by decide) rfl ?_
  refine sv_icmp_ge (tgt := 149) hΓ dX3_init_133 (by decide) rfl (fun h => absurd h (by decide)) (fun _ => ?_)
  refine sv_aload_n hΓ dX3_init_136 rfl 1 rfl rfl ?_
  refine gt_X3_31 hΓ rfl rfl dX3_init_137 rfl ?_
  refine sv_iload_n hΓ dX3_init_140 rfl 0 rfl rfl ?_
  refine sv_iload_n hΓ dX3_init_141 rfl 0 rfl rfl ?_
  refine sv_iast hΓ dX3_init_142 rfl (by unfold vp_in; decide) rfl ?_
  refine sv_iinc hΓ dX3_init_143 0 rfl (v := 16) (by decide) (by decide) rfl rfl ?_
  refine sv_goto (pc' := 130) hΓ dX3_init_146 (by decide) ?_
  refine sv_iload_n hΓ dX3_init_130 rfl 0 rfl rfl ?_
  refine sv_bipush (v := 16) hΓ dX3_init_131 (by decide) rfl ?_
  refine sv_icmp_ge (tgt := 149) hΓ dX3_init_133 (by decide) rfl (fun _ => ?_) (fun h => absurd (by decide) h)
  refine sv_sub (mz 18 42 M lz_X3) (mz_le ?_ (fun j hj => ?_)) ?_
  · refine List.forall_mem_cons.mpr ⟨rfl, ?_⟩
    refine List.forall_mem_cons.mpr ⟨rfl, ?_⟩
    refine List.forall_mem_cons.mpr ⟨rfl, ?_⟩
    refine List.forall_mem_cons.mpr ⟨rfl, ?_⟩
    refine List.forall_mem_cons.mpr ⟨rfl, ?_⟩
    refine List.forall_mem_cons.mpr ⟨rfl, ?_⟩
    refine List.forall_mem_cons.mpr ⟨rfl, ?_⟩
    refine List.forall_mem_cons.mpr ⟨rfl, ?_⟩
    refine List.forall_mem_cons.mpr ⟨rfl, ?_⟩
    refine List.forall_mem_cons.mpr ⟨rfl, ?_⟩
    refine List.forall_mem_cons.mpr ⟨rfl, ?_⟩
    refine List.forall_mem_cons.mpr ⟨rfl, ?_⟩
    refine List.forall_mem_cons.mpr ⟨rfl, ?_⟩
    refine List.forall_mem_cons.mpr ⟨rfl, ?_⟩
    refine List.forall_mem_cons.mpr ⟨rfl, ?_⟩
    refine List.forall_mem_cons.mpr ⟨rfl, ?_⟩
    refine List.forall_mem_cons.mpr ⟨rfl, ?_⟩
    refine List.forall_mem_cons.mpr ⟨rfl, ?_⟩
    refine List.forall_mem_cons.mpr ⟨rfl, ?_⟩
    refine List.forall_mem_cons.mpr ⟨rfl, ?_⟩
    refine List.forall_mem_cons.mpr ⟨rfl, ?_⟩
    refine List.forall_mem_cons.mpr ⟨rfl, ?_⟩
    refine List.forall_mem_cons.mpr ⟨rfl, ?_⟩
    refine List.forall_mem_cons.mpr ⟨rfl, ?_⟩
    exact fun _ h => nomatch h
  · exact (va_up_ne _ _ (by omega)).trans ((va_up_ne _ _ (by omega)).trans ((va_up_ne _ _ (by omega)).trans ((va_up_ne _ _ (by omega)).trans ((va_up_ne _ _ (by omega)).trans ((va_up_ne _ _ (by omega)).trans ((va_up_ne _ _ (by omega)).trans ((va_up_ne _ _ (by omega)).trans ((va_up_ne _ _ (by omega)).trans ((va_up_ne _ _ (by omega)).trans ((va_up_ne _ _ (by omega)).trans ((va_up_ne _ _ (by omega)).trans ((va_up_ne _ _ (by omega)).trans ((va_up_ne _ _ (by omega)).trans ((va_up_ne _ _ (by omega)).trans ((va_up_ne _ _ (by omega)).trans ((va_up_ne _ _ (by omega)).trans ((va_up_ne _ _ (by omega)).trans ((va_up_ne _ _ (by omega)).trans ((va_up_ne _ _ (by omega)).trans ((va_up_ne _ _ (by omega)).trans ((va_up_ne _ _ (by omega)).trans ((va_up_ne _ _ (by omega)).trans ((va_up_ne _ _ (by omega)).trans ((va_up_ne _ _ (by omega)).trans ((va_up_ne _ _ (by omega)).trans ((va_up_ne _ _ (by omega)).trans ((va_up_ne _ _ (by omega)).trans ((va_up_ne _ _ (by omega)).trans ((va_up_ne _ _ (by omega)).trans ((va_up_ne _ _ (by omega)).trans ((va_up_ne _ _ (by omega)).trans ((va_up_ne _ _ (by omega)).trans ((va_up_ne _ _ (by omega)).trans ((va_up_ne _ _ (by omega)).trans ((va_up_ne _ _ (by omega)).trans ((va_up_ne _ _ (by omega)).trans ((va_up_ne _ _ (by omega)).trans ((va_up_ne _ _ (by omega)).trans ((va_up_ne _ _ (by omega)).trans ((va_up_ne _ _ (by omega)).trans ((va_up_ne _ _ (by omega)).trans ((va_up_ne _ _ (by omega)).trans ((va_up_ne _ _ (by omega)).trans ((va_up_ne _ _ (by omega)).trans ((va_up_ne _ _ (by omega)).trans ((va_up_ne _ _ (by omega)).trans ((va_up_ne _ _ (by omega)).trans ((va_up_ne _ _ (by omega)).trans ((va_up_ne _ _ (by omega)).trans ((va_up_ne _ _ (by omega)).trans ((va_up_ne _ _ (by omega)).trans ((va_up_ne _ _ (by omega)).trans ((va_up_ne _ _ (by omega)).trans ((va_up_ne _ _ (by omega)).trans ((va_up_ne _ _ (by omega)).trans ((va_up_ne _ _ (by omega)).trans ((va_up_ne _ _ (by omega)).trans ((va_up_ne _ _ (by omega)).trans ((va_up_ne _ _ (by omega)).trans ((va_up_ne _ _ (by omega)).trans ((va_up_ne _ _ (by omega)).trans ((va_up_ne _ _ (by omega)).trans ((va_up_ne _ _ (by omega)).trans ((va_up_ne _ _ (by omega)).trans ((va_up_ne _ _ (by omega)).trans ((va_up_ne _ _ (by omega)).trans ((va_up_ne _ _ (by omega)))))))))))))))))))))))))))))))))))))))))))))))))))))))))))))))))))))
  · exact sv_vret hΓ hQ dX3_init_149 (Nat.le_of_ble_eq_true rfl) (Nat.le_of_ble_eq_true rfl) ⟨rfl, rfl, rfl⟩
def lz_X11 : List (Nat × aE) := [(1, .inr (10, [.ref 2, .ref 4, .ref 8, .ref 10, .ref 14, .ref 18, .ref 42, .int 0, .int 0])), (2, .inr (1, [.ref 3, .int 0])), (3, .inl (3, 16, .inr (.inr (.inr (.inr (fun _ => none)))))), (4, .inr (8, [.ref 5, .ref 6, .ref 7])), (5, .inl (0, 4, .inl (upd (upd (upd (upd (fun _ => 0) (0 : Int32).toNatClampNeg 1) (1 : Int32).toNatClampNeg 1) (2 : Int32).toNatClampNeg 1) (3 : Int32).toNatClampNeg 1))), (6, .inl (0, 4, .inl (upd (upd (upd (upd (fun _ => 0) (0 : Int32).toNatClampNeg 1) (1 : Int32).toNatClampNeg 2) (2 : Int32).toNatClampNeg 4) (3 : Int32).toNatClampNeg 1))), (7, .inl (2, 4, .inl (fun _ => 0))), (8, .inr (3, [.ref 2, .ref 4, .ref 9])), (9, .inl (0, 16, .inl (fun _ => 0))), (10, .inr (4, [.ref 2, .ref 4, .ref 8, .ref 11, .ref 12, .ref 13, .int 0])), (11, .inl (0, 16, .inl (fun _ => 0))), (12, .inl (0, 16, .inl (fun _ => 0))), (13, .inl (0, 16, .inl (fun _ => 0))), (14, .inr (5, [.ref 2, .ref 4, .ref 10, .ref 15, .ref 16, .ref 17, .int 0])), (15, .inl (0, 16, .inl (fun _ => 0))), (16, .inl (0, 16, .inl (fun _ => 0))), (17, .inl (0, 16, .inl (fun _ => 0))), (18, .inr (2, [.ref 2, .ref 19, .ref 20, .ref 21, .ref 22, .ref 23, .ref 24, .ref 25, .int 0, .int (-2), .int 0, .int 0])), (19, .inl (5, 4, .inr (.inr (.inr (.inr (va_up (va_up (va_up (va_up (fun _ => none) (0 : Int32).toNatClampNeg (some 26)) (1 : Int32).toNatClampNeg (some 30)) (2 : Int32).toNatClampNeg (some 34)) (3 : Int32).toNatClampNeg (some 38))))))), (20, .inl (5, 4, .inr (.inr (.inr (.inr (va_up (va_up (va_up (va_up (fun _ => none) (0 : Int32).toNatClampNeg (some 28)) (1 : Int32).toNatClampNeg (some 32)) (2 : Int32).toNatClampNeg (some 36)) (3 : Int32).toNatClampNeg (some 40))))))), (21, .inl (1, 16, .inr (.inl (fun _ => 0)))), (22, .inl (1, 16, .inr (.inl (fun _ => 0)))), (23, .inl (0, 4, .inl (fun _ => 0))), (24, .inl (0, 16, .inl (upd (upd (upd (upd (upd (upd (upd (upd (upd (upd (upd (upd (upd (upd (upd (upd (fun _ => 0) (0 : Int32).toNatClampNeg 0) (1 : Int32).toNatClampNeg 1) (2 : Int32).toNatClampNeg 2) (3 : Int32).toNatClampNeg 3) (4 : Int32).toNatClampNeg 4) (5 : Int32).toNatClampNeg 5) (6 : Int32).toNatClampNeg 6) (7 : Int32).toNatClampNeg 7) (8 : Int32).toNatClampNeg 8) (9 : Int32).toNatClampNeg 9) (10 : Int32).toNatClampNeg 10) (11 : Int32).toNatClampNeg 11) (12 : Int32).toNatClampNeg 12) (13 : Int32).toNatClampNeg 13) (14 : Int32).toNatClampNeg 14) (15 : Int32).toNatClampNeg 15))), (25, .inl (1, 16, .inr (.inl (fun _ => 0)))), (26, .inr (9, [.ref 27, .int 0])), (27, .inl (1, 20, .inr (.inl (fun _ => 0)))), (28, .inr (9, [.ref 29, .int 0])), (29, .inl (1, 16, .inr (.inl (fun _ => 0)))), (30, .inr (9, [.ref 31, .int 0])), (31, .inl (1, 20, .inr (.inl (fun _ => 0)))), (32, .inr (9, [.ref 33, .int 0])), (33, .inl (1, 16, .inr (.inl (fun _ => 0)))), (34, .inr (9, [.ref 35, .int 0])), (35, .inl (1, 20, .inr (.inl (fun _ => 0)))), (36, .inr (9, [.ref 37, .int 0])), (37, .inl (1, 16, .inr (.inl (fun _ => 0)))), (38, .inr (9, [.ref 39, .int 0])), (39, .inl (1, 20, .inr (.inl (fun _ => 0)))), (40, .inr (9, [.ref 41, .int 0])), (41, .inl (1, 16, .inr (.inl (fun _ => 0)))), (42, .inl (4, 8, .inr (.inr (.inr (.inr (fun _ => none))))))]
theorem ct_X11_init {E : aG} (l : Launch) {M : aM} (hM : M 1 = some (.inr (10, [.null, .null, .null, .null, .null, .null, .null, .int 0, .int 0]))) (hNW : NW E) : CT E l yX11_init cX11_init 1 none 3 [.ref 1] M 2 41 418 (fun r M' nx' => r = none ∧ M' = mz 1 43 M lz_X11 ∧ 43 = nx') := by
  refine CT_intro (by decide) (Nat.le_of_ble_eq_true rfl) (fun Γ hΓ hQ => ?_)
  replace hΓ : CK E RX11 cX11_init 1 none "<init>" 3 41 418 Γ := hΓ
  show SV E Γ 1 M 2 0 0 0 [(0, .ref 1)] []
  refine sv_sub (va_up M 1 (some (.inr (10, [.null, .null, .null, .null, .null, .null, .null, .int 0, .int 0])))) (fun j x h => by rw [← va_up_eq hM] at h; exact h) ?_
  refine sv_aload_n hΓ dX11_init_0 rfl 0 rfl rfl ?_
  refine sv_objInit hΓ ⟨tb_28, tb_29, tb_30⟩ (by decide) (Nat.le_of_ble_eq_true rfl) dX11_init_1 rfl ?_
  refine sv_aload_n hΓ dX11_init_4 rfl 0 rfl rfl ?_
  refine nw_X11_7 hΓ dX11_init_5 (Nat.le_of_ble_eq_true rfl) (Nat.le_of_ble_eq_true rfl) rfl ?_
  refine sv_dup hΓ dX11_init_8 rfl rfl ?_
  refine sv_callIN hΓ (fun l => ct_X1_init l rfl hNW) hNW.1 tb_34 rfl rfl rfl (by decide) (Nat.le_of_ble_eq_true rfl) (Nat.le_of_ble_eq_true rfl) (Nat.le_of_ble_eq_true rfl) dX11_init_9 rfl (fun r M' nx' p1 => ?_)
  obtain ⟨rfl, rfl, rfl⟩ := p1
  show SV E Γ 1 _ 4 2 18 12 [(0, .ref 1)] [.ref 2, .ref 1]
  refine pf_X11_10 hΓ rfl ⟨rfl, rfl⟩ (Nat.lt_of_succ_le (Nat.le_of_ble_eq_true rfl)) dX11_init_12 rfl ?_
  refine sv_aload_n hΓ dX11_init_15 rfl 0 rfl rfl ?_
  refine nw_X11_16 hΓ dX11_init_16 (Nat.le_of_ble_eq_true rfl) (Nat.le_of_ble_eq_true rfl) rfl ?_
  refine sv_dup hΓ dX11_init_19 rfl rfl ?_
  refine sv_callIN hΓ (fun l => ct_X9_init l rfl) hNW.2.1 tb_49 rfl rfl rfl (by decide) (Nat.le_of_ble_eq_true rfl) (Nat.le_of_ble_eq_true rfl) (Nat.le_of_ble_eq_true rfl) dX11_init_20 rfl (fun r M' nx' p1 => ?_)
  obtain ⟨rfl, rfl, rfl⟩ := p1
  show SV E Γ 1 _ 8 6 33 23 [(0, .ref 1)] [.ref 4, .ref 1]
  refine pf_X11_19 hΓ rfl ⟨rfl, rfl⟩ (Nat.lt_of_succ_le (Nat.le_of_ble_eq_true rfl)) dX11_init_23 rfl ?_
  refine sv_aload_n hΓ dX11_init_26 rfl 0 rfl rfl ?_
  refine nw_X11_23 hΓ dX11_init_27 (Nat.le_of_ble_eq_true rfl) (Nat.le_of_ble_eq_true rfl) rfl ?_
  refine sv_dup hΓ dX11_init_30 rfl rfl ?_
  refine sv_aload_n hΓ dX11_init_31 rfl 0 rfl rfl ?_
  refine gt_X11_10 hΓ rfl rfl dX11_init_32 rfl ?_
  refine sv_aload_n hΓ dX11_init_35 rfl 0 rfl rfl ?_
  refine gt_X11_19 hΓ rfl rfl dX11_init_36 rfl ?_
  refine sv_callI hΓ (fun l => ct_X4_init l rfl) wv_X11_25 tb_71 rfl rfl rfl (by decide) (Nat.le_of_ble_eq_true rfl) (Nat.le_of_ble_eq_true rfl) (Nat.le_of_ble_eq_true rfl) dX11_init_39 rfl (fun r M' nx' p1 => ?_)
  obtain ⟨rfl, rfl, rfl⟩ := p1
  show SV E Γ 1 _ 10 8 52 42 [(0, .ref 1)] [.ref 8, .ref 1]
  refine pf_X11_28 hΓ rfl ⟨rfl, rfl⟩ (Nat.lt_of_succ_le (Nat.le_of_ble_eq_true rfl)) dX11_init_42 rfl ?_
  refine sv_aload_n hΓ dX11_init_45 rfl 0 rfl rfl ?_
  refine nw_X11_32 hΓ dX11_init_46 (Nat.le_of_ble_eq_true rfl) (Nat.le_of_ble_eq_true rfl) rfl ?_
  refine sv_dup hΓ dX11_init_49 rfl rfl ?_
  refine sv_aload_n hΓ dX11_init_50 rfl 0 rfl rfl ?_
  refine gt_X11_10 hΓ rfl rfl dX11_init_51 rfl ?_
  refine sv_aload_n hΓ dX11_init_54 rfl 0 rfl rfl ?_
  refine gt_X11_19 hΓ rfl rfl dX11_init_55 rfl ?_
  refine sv_aload_n hΓ dX11_init_58 rfl 0 rfl rfl ?_
  refine gt_X11_28 hΓ rfl rfl dX11_init_59 rfl ?_
  refine sv_callI hΓ (fun l => ct_X5_init l rfl) wv_X11_34 tb_87 rfl rfl rfl (by decide) (Nat.le_of_ble_eq_true rfl) (Nat.le_of_ble_eq_true rfl) (Nat.le_of_ble_eq_true rfl) dX11_init_62 rfl (fun r M' nx' p1 => ?_)
  obtain ⟨rfl, rfl, rfl⟩ := p1
  show SV E Γ 1 _ 14 12 107 65 [(0, .ref 1)] [.ref 10, .ref 1]
  refine pf_X11_37 hΓ rfl ⟨rfl, rfl⟩ (Nat.lt_of_succ_le (Nat.le_of_ble_eq_true rfl)) dX11_init_65 rfl ?_
  refine sv_aload_n hΓ dX11_init_68 rfl 0 rfl rfl ?_
  refine nw_X11_41 hΓ dX11_init_69 (Nat.le_of_ble_eq_true rfl) (Nat.le_of_ble_eq_true rfl) rfl ?_
  refine sv_dup hΓ dX11_init_72 rfl rfl ?_
  refine sv_aload_n hΓ dX11_init_73 rfl 0 rfl rfl ?_
  refine gt_X11_10 hΓ rfl rfl dX11_init_74 rfl ?_
  refine sv_aload_n hΓ dX11_init_77 rfl 0 rfl rfl ?_
  refine gt_X11_19 hΓ rfl rfl dX11_init_78 rfl ?_
  refine sv_aload_n hΓ dX11_init_81 rfl 0 rfl rfl ?_
  refine gt_X11_37 hΓ rfl rfl dX11_init_82 rfl ?_
  refine sv_callI hΓ (fun l => ct_X6_init l rfl) wv_X11_43 tb_123 rfl rfl rfl (by decide) (Nat.le_of_ble_eq_true rfl) (Nat.le_of_ble_eq_true rfl) (Nat.le_of_ble_eq_true rfl) dX11_init_85 rfl (fun r M' nx' p1 => ?_)
  obtain ⟨rfl, rfl, rfl⟩ := p1
  show SV E Γ 1 _ 18 16 162 88 [(0, .ref 1)] [.ref 14, .ref 1]
  refine pf_X11_46 hΓ rfl ⟨rfl, rfl⟩ (Nat.lt_of_succ_le (Nat.le_of_ble_eq_true rfl)) dX11_init_88 rfl ?_
  refine sv_aload_n hΓ dX11_init_91 rfl 0 rfl rfl ?_
  refine nw_X11_50 hΓ dX11_init_92 (Nat.le_of_ble_eq_true rfl) (Nat.le_of_ble_eq_true rfl) rfl ?_
  refine sv_dup hΓ dX11_init_95 rfl rfl ?_
  refine sv_aload_n hΓ dX11_init_96 rfl 0 rfl rfl ?_
  refine gt_X11_10 hΓ rfl rfl dX11_init_97 rfl ?_
  refine sv_callI hΓ (fun l => ct_X3_init l rfl hNW) wv_X11_52 tb_155 rfl rfl rfl (by decide) (Nat.le_of_ble_eq_true rfl) (Nat.le_of_ble_eq_true rfl) (Nat.le_of_ble_eq_true rfl) dX11_init_100 rfl (fun r M' nx' p1 => ?_)
  obtain ⟨rfl, rfl, rfl⟩ := p1
  show SV E Γ 1 _ 42 40 410 103 [(0, .ref 1)] [.ref 18, .ref 1]
  refine pf_X11_55 hΓ rfl ⟨rfl, rfl⟩ (Nat.lt_of_succ_le (Nat.le_of_ble_eq_true rfl)) dX11_init_103 rfl ?_
  refine sv_aload_n hΓ dX11_init_106 rfl 0 rfl rfl ?_
  refine sv_bipush (v := 8) hΓ dX11_init_107 (by decide) rfl ?_
  refine sv_newA hΓ (n := 8) (t := 4) 8 rfl tb_218 hNW.2.2.2.2.2.2.2.1 dX11_init_109 (by decide) (by decide) (by decide) (Nat.le_of_ble_eq_true rfl) (Nat.le_of_ble_eq_true rfl) rfl ?_
  refine pf_X11_61 hΓ rfl ⟨rfl, rfl⟩ (Nat.lt_of_succ_le (Nat.le_of_ble_eq_true rfl)) dX11_init_112 rfl ?_
  refine sv_aload_n hΓ dX11_init_115 rfl 0 rfl rfl ?_
  refine sv_iconst (v := 0) hΓ dX11_init_116 (by decide) rfl ?_
  refine pt_X11_65 hΓ rfl ⟨rfl, rfl⟩ (Nat.lt_of_succ_le (Nat.le_of_ble_eq_true rfl)) dX11_init_117 rfl ?_
  refine sv_aload_n hΓ dX11_init_120 rfl 0 rfl rfl ?_
  refine sv_iconst (v := 0) hΓ dX11_init_121 (by decide) rfl ?_
  refine pt_X11_69 hΓ rfl ⟨rfl, rfl⟩ (Nat.lt_of_succ_le (Nat.le_of_ble_eq_true rfl)) dX11_init_122 rfl ?_
  refine sv_sub (mz 1 43 M lz_X11) (mz_le ?_ (fun j hj => ?_)) ?_
  · refine List.forall_mem_cons.mpr ⟨rfl, ?_⟩
    refine List.forall_mem_cons.mpr ⟨rfl, ?_⟩
    refine List.forall_mem_cons.mpr ⟨rfl, ?_⟩
    refine List.forall_mem_cons.mpr ⟨rfl, ?_⟩
    refine List.forall_mem_cons.mpr ⟨rfl, ?_⟩
    refine List.forall_mem_cons.mpr ⟨rfl, ?_⟩
    refine List.forall_mem_cons.mpr ⟨rfl, ?_⟩
    refine List.forall_mem_cons.mpr ⟨rfl, ?_⟩
    refine List.forall_mem_cons.mpr ⟨rfl, ?_⟩
    refine List.forall_mem_cons.mpr ⟨rfl, ?_⟩
    refine List.forall_mem_cons.mpr ⟨rfl, ?_⟩
    refine List.forall_mem_cons.mpr ⟨rfl, ?_⟩
    refine List.forall_mem_cons.mpr ⟨rfl, ?_⟩
    refine List.forall_mem_cons.mpr ⟨rfl, ?_⟩
    refine List.forall_mem_cons.mpr ⟨rfl, ?_⟩
    refine List.forall_mem_cons.mpr ⟨rfl, ?_⟩
    refine List.forall_mem_cons.mpr ⟨rfl, ?_⟩
    refine List.forall_mem_cons.mpr ⟨rfl, ?_⟩
    refine List.forall_mem_cons.mpr ⟨rfl, ?_⟩
    refine List.forall_mem_cons.mpr ⟨rfl, ?_⟩
    refine List.forall_mem_cons.mpr ⟨rfl, ?_⟩
    refine List.forall_mem_cons.mpr ⟨rfl, ?_⟩
    refine List.forall_mem_cons.mpr ⟨rfl, ?_⟩
    refine List.forall_mem_cons.mpr ⟨rfl, ?_⟩
    refine List.forall_mem_cons.mpr ⟨rfl, ?_⟩
    refine List.forall_mem_cons.mpr ⟨rfl, ?_⟩
    refine List.forall_mem_cons.mpr ⟨rfl, ?_⟩
    refine List.forall_mem_cons.mpr ⟨rfl, ?_⟩
    refine List.forall_mem_cons.mpr ⟨rfl, ?_⟩
    refine List.forall_mem_cons.mpr ⟨rfl, ?_⟩
    refine List.forall_mem_cons.mpr ⟨rfl, ?_⟩
    refine List.forall_mem_cons.mpr ⟨rfl, ?_⟩
    refine List.forall_mem_cons.mpr ⟨rfl, ?_⟩
    refine List.forall_mem_cons.mpr ⟨rfl, ?_⟩
    refine List.forall_mem_cons.mpr ⟨rfl, ?_⟩
    refine List.forall_mem_cons.mpr ⟨rfl, ?_⟩
    refine List.forall_mem_cons.mpr ⟨rfl, ?_⟩
    refine List.forall_mem_cons.mpr ⟨rfl, ?_⟩
    refine List.forall_mem_cons.mpr ⟨rfl, ?_⟩
    refine List.forall_mem_cons.mpr ⟨rfl, ?_⟩
    refine List.forall_mem_cons.mpr ⟨rfl, ?_⟩
    refine List.forall_mem_cons.mpr ⟨rfl, ?_⟩
    exact fun _ h => nomatch h
  · exact (va_up_ne _ _ (by omega)).trans ((va_up_ne _ _ (by omega)).trans ((va_up_ne _ _ (by omega)).trans ((va_up_ne _ _ (by omega)).trans ((va_up_ne _ _ (by omega)).trans ((mz_out (by omega)).trans ((va_up_ne _ _ (by omega)).trans ((va_up_ne _ _ (by omega)).trans ((mz_out (by omega)).trans ((va_up_ne _ _ (by omega)).trans ((va_up_ne _ _ (by omega)).trans ((mz_out (by omega)).trans ((va_up_ne _ _ (by omega)).trans ((va_up_ne _ _ (by omega)).trans ((mz_out (by omega)).trans ((va_up_ne _ _ (by omega)).trans ((va_up_ne _ _ (by omega)).trans ((mz_out (by omega)).trans ((va_up_ne _ _ (by omega)).trans ((va_up_ne _ _ (by omega)).trans ((mz_out (by omega)).trans ((va_up_ne _ _ (by omega)).trans ((va_up_ne _ _ (by omega))))))))))))))))))))))))
  · exact sv_vret hΓ hQ dX11_init_125 (Nat.le_of_ble_eq_true rfl) (Nat.le_of_ble_eq_true rfl) ⟨rfl, rfl, rfl⟩
def lz_X12 : List (Nat × aE) := [(43, .inr (11, [.int 0, .int 0, .ref 44, .ref 45, .ref 46, .ref 47, .ref 48, .ref 49, .ref 50, .ref 51, .ref 52, .ref 53, .ref 54, .int 0, .ref 55, .ref 56, .int 0, .ref 57, .int 0, .int 0, .int 0, .int 0, .int 0, .int 0, .ref 58, .ref 59, .ref 60, .ref 61, .ref 62, .long 0, .long 0, .ref 63, .ref 64, .ref 65, .ref 66, .ref 67, .ref 68, .ref 69, .ref 70, .ref 71, .ref 72])), (44, .inl (0, 16, .inl (fun _ => 0))), (45, .inl (0, 16, .inl (fun _ => 0))), (46, .inl (0, 48, .inl (fun _ => 0))), (47, .inl (0, 16, .inl (fun _ => 0))), (48, .inl (1, 16, .inr (.inl (fun _ => 0)))), (49, .inl (0, 4, .inl (upd (upd (upd (upd (fun _ => 0) (0 : Int32).toNatClampNeg 1) (1 : Int32).toNatClampNeg 1) (2 : Int32).toNatClampNeg 1) (3 : Int32).toNatClampNeg 1))), (50, .inl (0, 4, .inl (upd (upd (upd (upd (fun _ => 0) (0 : Int32).toNatClampNeg 1) (1 : Int32).toNatClampNeg 2) (2 : Int32).toNatClampNeg 4) (3 : Int32).toNatClampNeg 1))), (51, .inl (2, 4, .inl (fun _ => 0))), (52, .inl (0, 4, .inl (fun _ => 0))), (53, .inl (1, 80, .inr (.inl (fun _ => 0)))), (54, .inl (1, 16, .inr (.inl (fun _ => 0)))), (55, .inl (0, 16, .inl (fun _ => 0))), (56, .inl (0, 16, .inl (fun _ => 0))), (57, .inl (0, 16, .inl (fun _ => 0))), (58, .inl (0, 4, .inl (fun _ => 0))), (59, .inl (1, 64, .inr (.inl (fun _ => 0)))), (60, .inl (1, 16, .inr (.inl (fun _ => 0)))), (61, .inl (1, 16, .inr (.inl (fun _ => 0)))), (62, .inl (1, 16, .inr (.inl (fun _ => 0)))), (63, .inl (0, 16, .inl (fun _ => 0))), (64, .inl (0, 16, .inl (fun _ => 0))), (65, .inl (1, 16, .inr (.inl (fun _ => 0)))), (66, .inl (0, 4, .inl (fun _ => 0))), (67, .inl (0, 8, .inl (fun _ => 0))), (68, .inl (0, 8, .inl (fun _ => 0))), (69, .inl (0, 8, .inl (fun _ => 0))), (70, .inl (0, 8, .inl (fun _ => 0))), (71, .inl (1, 480, .inr (.inl (fun _ => 0)))), (72, .inl (1, 60, .inr (.inl (fun _ => 0))))]
theorem ct_X12_init {E : aG} (l : Launch) {M : aM} (hM : M 43 = some (.inr (11, [.int 0, .int 0, .null, .null, .null, .null, .null, .null, .null, .null, .null, .null, .null, .int 0, .null, .null, .int 0, .null, .int 0, .int 0, .int 0, .int 0, .int 0, .int 0, .null, .null, .null, .null, .null, .long 0, .long 0, .null, .null, .null, .null, .null, .null, .null, .null, .null, .null]))) : CT E l yX12_init cX12_init 1 none 1 [.ref 43] M 44 29 1012 (fun r M' nx' => r = none ∧ M' = mz 43 73 M lz_X12 ∧ 73 = nx') := by
  refine CT_intro (by decide) (Nat.le_of_ble_eq_true rfl) (fun Γ hΓ hQ => ?_)
  replace hΓ : CK E RX12 cX12_init 1 none "<init>" 1 29 1012 Γ := hΓ
  show SV E Γ 1 M 44 0 0 0 [(0, .ref 43)] []
  refine sv_sub (va_up M 43 (some (.inr (11, [.int 0, .int 0, .null, .null, .null, .null, .null, .null, .null, .null, .null, .null, .null, .int 0, .null, .null, .int 0, .null, .int 0, .int 0, .int 0, .int 0, .int 0, .int 0, .null, .null, .null, .null, .null, .long 0, .long 0, .null, .null, .null, .null, .null, .null, .null, .null, .null, .null])))) (fun j x h => by rw [← va_up_eq hM] at h; exact h) ?_
  refine sv_aload_n hΓ dX12_init_0 rfl 0 rfl rfl ?_
  refine sv_objInit hΓ ⟨tb_945, tb_29, tb_30⟩ (by decide) (Nat.le_of_ble_eq_true rfl) dX12_init_1 rfl ?_
  refine sv_aload_n hΓ dX12_init_4 rfl 0 rfl rfl ?_
  refine sv_bipush (v := 16) hΓ dX12_init_5 (by decide) rfl ?_
  refine sv_newI hΓ (n := 16) 16 tb_66 dX12_init_7 (by decide) (by decide) (by decide) (Nat.le_of_ble_eq_true rfl) (Nat.le_of_ble_eq_true rfl) rfl ?_
  refine pf_X12_7 hΓ rfl ⟨rfl, rfl⟩ (Nat.lt_of_succ_le (Nat.le_of_ble_eq_true rfl)) dX12_init_9 rfl ?_
  refine sv_aload_n hΓ dX12_init_12 rfl 0 rfl rfl ?_
  refine sv_bipush (v := 16) hΓ dX12_init_13 (by decide) rfl ?_
  refine sv_newI hΓ (n := 16) 16 tb_66 dX12_init_15 (by decide) (by decide) (by decide) (Nat.le_of_ble_eq_true rfl) (Nat.le_of_ble_eq_true rfl) rfl ?_
  refine pf_X12_13 hΓ rfl ⟨rfl, rfl⟩ (Nat.lt_of_succ_le (Nat.le_of_ble_eq_true rfl)) dX12_init_17 rfl ?_
  refine sv_aload_n hΓ dX12_init_20 rfl 0 rfl rfl ?_
  refine sv_bipush (v := 48) hΓ dX12_init_21 (by decide) rfl ?_
  refine sv_newI hΓ (n := 48) 48 tb_66 dX12_init_23 (by decide) (by decide) (by decide) (Nat.le_of_ble_eq_true rfl) (Nat.le_of_ble_eq_true rfl) rfl ?_
  refine pf_X12_16 hΓ rfl ⟨rfl, rfl⟩ (Nat.lt_of_succ_le (Nat.le_of_ble_eq_true rfl)) dX12_init_25 rfl ?_
  refine sv_aload_n hΓ dX12_init_28 rfl 0 rfl rfl ?_
  refine sv_bipush (v := 16) hΓ dX12_init_29 (by decide) rfl ?_
  refine sv_newI hΓ (n := 16) 16 tb_66 dX12_init_31 (by decide) (by decide) (by decide) (Nat.le_of_ble_eq_true rfl) (Nat.le_of_ble_eq_true rfl) rfl ?_
  refine pf_X12_19 hΓ rfl ⟨rfl, rfl⟩ (Nat.lt_of_succ_le (Nat.le_of_ble_eq_true rfl)) dX12_init_33 rfl ?_
  refine sv_aload_n hΓ dX12_init_36 rfl 0 rfl rfl ?_
  refine sv_bipush (v := 16) hΓ dX12_init_37 (by decide) rfl ?_
  refine sv_newJ hΓ (n := 16) 16 tb_172 dX12_init_39 (by decide) (by decide) (by decide) (Nat.le_of_ble_eq_true rfl) (Nat.le_of_ble_eq_true rfl) rfl ?_
  refine pf_X12_22 hΓ rfl ⟨rfl, rfl⟩ (Nat.lt_of_succ_le (Nat.le_of_ble_eq_true rfl)) dX12_init_41 rfl ?_
  refine sv_aload_n hΓ dX12_init_44 rfl 0 rfl rfl ?_
  refine sv_iconst (v := 4) hΓ dX12_init_45 (by decide) rfl ?_
  refine sv_newI hΓ (n := 4) 4 tb_66 dX12_init_46 (by decide) (by decide) (by decide) (Nat.le_of_ble_eq_true rfl) (Nat.le_of_ble_eq_true rfl) rfl ?_
  refine sv_dup hΓ dX12_init_48 rfl rfl ?_
  refine sv_iconst (v := 0) hΓ dX12_init_49 (by decide) rfl ?_
  refine sv_iconst (v := 1) hΓ dX12_init_50 (by decide) rfl ?_
  refine sv_iast hΓ dX12_init_51 rfl (by unfold vp_in; decide) rfl ?_
  refine sv_dup hΓ dX12_init_52 rfl rfl ?_
  refine sv_iconst (v := 1) hΓ dX12_init_53 (by decide) rfl ?_
  refine sv_iconst (v := 1) hΓ dX12_init_54 (by decide) rfl ?_
  refine sv_iast hΓ dX12_init_55 rfl (by unfold vp_in; decide) rfl ?_
  refine sv_dup hΓ dX12_init_56 rfl rfl ?_
  refine sv_iconst (v := 2) hΓ dX12_init_57 (by decide) rfl ?_
  refine sv_iconst (v := 1) hΓ dX12_init_58 (by decide) rfl ?_
  refine sv_iast hΓ dX12_init_59 rfl (by unfold vp_in; decide) rfl ?_
  refine sv_dup hΓ dX12_init_60 rfl rfl ?_
  refine sv_iconst (v := 3) hΓ dX12_init_61 (by decide) rfl ?_
  refine sv_iconst (v := 1) hΓ dX12_init_62 (by decide) rfl ?_
  refine sv_iast hΓ dX12_init_63 rfl (by unfold vp_in; decide) rfl ?_
  refine pf_X12_26 hΓ rfl ⟨rfl, rfl⟩ (Nat.lt_of_succ_le (Nat.le_of_ble_eq_true rfl)) dX12_init_64 rfl ?_
  refine sv_aload_n hΓ dX12_init_67 rfl 0 rfl rfl ?_
  refine sv_iconst (v := 4) hΓ dX12_init_68 (by decide) rfl ?_
  refine sv_newI hΓ (n := 4) 4 tb_66 dX12_init_69 (by decide) (by decide) (by decide) (Nat.le_of_ble_eq_true rfl) (Nat.le_of_ble_eq_true rfl) rfl ?_
  refine sv_dup hΓ dX12_init_71 rfl rfl ?_
  refine sv_iconst (v := 0) hΓ dX12_init_72 (by decide) rfl ?_
  refine sv_iconst (v := 1) hΓ dX12_init_73 (by decide) rfl ?_
  refine sv_iast hΓ dX12_init_74 rfl (by unfold vp_in; decide) rfl ?_
  refine sv_dup hΓ dX12_init_75 rfl rfl ?_
  refine sv_iconst (v := 1) hΓ dX12_init_76 (by decide) rfl ?_
  refine sv_iconst (v := 2) hΓ dX12_init_77 (by decide) rfl ?_
  refine sv_iast hΓ dX12_init_78 rfl (by unfold vp_in; decide) rfl ?_
  refine sv_dup hΓ dX12_init_79 rfl rfl ?_
  refine sv_iconst (v := 2) hΓ dX12_init_80 (by decide) rfl ?_
  refine sv_iconst (v := 4) hΓ dX12_init_81 (by decide) rfl ?_
  refine sv_iast hΓ dX12_init_82 rfl (by unfold vp_in; decide) rfl ?_
  refine sv_dup hΓ dX12_init_83 rfl rfl ?_
  refine sv_iconst (v := 3) hΓ dX12_init_84 (by decide) rfl ?_
  refine sv_iconst (v := 1) hΓ dX12_init_85 (by decide) rfl ?_
  refine sv_iast hΓ dX12_init_86 rfl (by unfold vp_in; decide) rfl ?_
  refine pf_X12_29 hΓ rfl ⟨rfl, rfl⟩ (Nat.lt_of_succ_le (Nat.le_of_ble_eq_true rfl)) dX12_init_87 rfl ?_
  refine sv_aload_n hΓ dX12_init_90 rfl 0 rfl rfl ?_
  refine sv_iconst (v := 4) hΓ dX12_init_91 (by decide) rfl ?_
  refine sv_newZ hΓ (n := 4) 4 tb_67 dX12_init_92 (by decide) (by decide) (by decide) (Nat.le_of_ble_eq_true rfl) (Nat.le_of_ble_eq_true rfl) rfl ?_
  refine pf_X12_32 hΓ rfl ⟨rfl, rfl⟩ (Nat.lt_of_succ_le (Nat.le_of_ble_eq_true rfl)) dX12_init_94 rfl ?_
  refine sv_aload_n hΓ dX12_init_97 rfl 0 rfl rfl ?_
  refine sv_iconst (v := 4) hΓ dX12_init_98 (by decide) rfl ?_
  refine sv_newI hΓ (n := 4) 4 tb_66 dX12_init_99 (by decide) (by decide) (by decide) (Nat.le_of_ble_eq_true rfl) (Nat.le_of_ble_eq_true rfl) rfl ?_
  refine pf_X12_36 hΓ rfl ⟨rfl, rfl⟩ (Nat.lt_of_succ_le (Nat.le_of_ble_eq_true rfl)) dX12_init_101 rfl ?_
  refine sv_aload_n hΓ dX12_init_104 rfl 0 rfl rfl ?_
  refine sv_bipush (v := 80) hΓ dX12_init_105 (by decide) rfl ?_
  refine sv_newJ hΓ (n := 80) 80 tb_172 dX12_init_107 (by decide) (by decide) (by decide) (Nat.le_of_ble_eq_true rfl) (Nat.le_of_ble_eq_true rfl) rfl ?_
  refine pf_X12_39 hΓ rfl ⟨rfl, rfl⟩ (Nat.lt_of_succ_le (Nat.le_of_ble_eq_true rfl)) dX12_init_109 rfl ?_
  refine sv_aload_n hΓ dX12_init_112 rfl 0 rfl rfl ?_
  refine sv_bipush (v := 16) hΓ dX12_init_113 (by decide) rfl ?_
  refine sv_newJ hΓ (n := 16) 16 tb_172 dX12_init_115 (by decide) (by decide) (by decide) (Nat.le_of_ble_eq_true rfl) (Nat.le_of_ble_eq_true rfl) rfl ?_
  refine pf_X12_42 hΓ rfl ⟨rfl, rfl⟩ (Nat.lt_of_succ_le (Nat.le_of_ble_eq_true rfl)) dX12_init_117 rfl ?_
  refine sv_aload_n hΓ dX12_init_120 rfl 0 rfl rfl ?_
  refine sv_bipush (v := 16) hΓ dX12_init_121 (by decide) rfl ?_
  refine sv_newI hΓ (n := 16) 16 tb_66 dX12_init_123 (by decide) (by decide) (by decide) (Nat.le_of_ble_eq_true rfl) (Nat.le_of_ble_eq_true rfl) rfl ?_
  refine pf_X12_45 hΓ rfl ⟨rfl, rfl⟩ (Nat.lt_of_succ_le (Nat.le_of_ble_eq_true rfl)) dX12_init_125 rfl ?_
  refine sv_aload_n hΓ dX12_init_128 rfl 0 rfl rfl ?_
  refine sv_bipush (v := 16) hΓ dX12_init_129 (by decide) rfl ?_
  refine sv_newI hΓ (n := 16) 16 tb_66 dX12_init_131 (by decide) (by decide) (by decide) (Nat.le_of_ble_eq_true rfl) (Nat.le_of_ble_eq_true rfl) rfl ?_
  refine pf_X12_48 hΓ rfl ⟨rfl, rfl⟩ (Nat.lt_of_succ_le (Nat.le_of_ble_eq_true rfl)) dX12_init_133 rfl ?_
  refine sv_aload_n hΓ dX12_init_136 rfl 0 rfl rfl ?_
  refine sv_bipush (v := 16) hΓ dX12_init_137 (by decide) rfl ?_
  refine sv_newI hΓ (n := 16) 16 tb_66 dX12_init_139 (by decide) (by decide) (by decide) (Nat.le_of_ble_eq_true rfl) (Nat.le_of_ble_eq_true rfl) rfl ?_
  refine pf_X12_51 hΓ rfl ⟨rfl, rfl⟩ (Nat.lt_of_succ_le (Nat.le_of_ble_eq_true rfl)) dX12_init_141 rfl ?_
  refine sv_aload_n hΓ dX12_init_144 rfl 0 rfl rfl ?_
  refine sv_iconst (v := 4) hΓ dX12_init_145 (by decide) rfl ?_
  refine sv_newI hΓ (n := 4) 4 tb_66 dX12_init_146 (by decide) (by decide) (by decide) (Nat.le_of_ble_eq_true rfl) (Nat.le_of_ble_eq_true rfl) rfl ?_
  refine pf_X12_54 hΓ rfl ⟨rfl, rfl⟩ (Nat.lt_of_succ_le (Nat.le_of_ble_eq_true rfl)) dX12_init_148 rfl ?_
  refine sv_aload_n hΓ dX12_init_151 rfl 0 rfl rfl ?_
  refine sv_bipush (v := 64) hΓ dX12_init_152 (by decide) rfl ?_
  refine sv_newJ hΓ (n := 64) 64 tb_172 dX12_init_154 (by decide) (by decide) (by decide) (Nat.le_of_ble_eq_true rfl) (Nat.le_of_ble_eq_true rfl) rfl ?_
  refine pf_X12_57 hΓ rfl ⟨rfl, rfl⟩ (Nat.lt_of_succ_le (Nat.le_of_ble_eq_true rfl)) dX12_init_156 rfl ?_
  refine sv_aload_n hΓ dX12_init_159 rfl 0 rfl rfl ?_
  refine sv_bipush (v := 16) hΓ dX12_init_160 (by decide) rfl ?_
  refine sv_newJ hΓ (n := 16) 16 tb_172 dX12_init_162 (by decide) (by decide) (by decide) (Nat.le_of_ble_eq_true rfl) (Nat.le_of_ble_eq_true rfl) rfl ?_
  refine pf_X12_60 hΓ rfl ⟨rfl, rfl⟩ (Nat.lt_of_succ_le (Nat.le_of_ble_eq_true rfl)) dX12_init_164 rfl ?_
  refine sv_aload_n hΓ dX12_init_167 rfl 0 rfl rfl ?_
  refine sv_bipush (v := 16) hΓ dX12_init_168 (by decide) rfl ?_
  refine sv_newJ hΓ (n := 16) 16 tb_172 dX12_init_170 (by decide) (by decide) (by decide) (Nat.le_of_ble_eq_true rfl) (Nat.le_of_ble_eq_true rfl) rfl ?_
  refine pf_X12_63 hΓ rfl ⟨rfl, rfl⟩ (Nat.lt_of_succ_le (Nat.le_of_ble_eq_true rfl)) dX12_init_172 rfl ?_
  refine sv_aload_n hΓ dX12_init_175 rfl 0 rfl rfl ?_
  refine sv_bipush (v := 16) hΓ dX12_init_176 (by decide) rfl ?_
  refine sv_newJ hΓ (n := 16) 16 tb_172 dX12_init_178 (by decide) (by decide) (by decide) (Nat.le_of_ble_eq_true rfl) (Nat.le_of_ble_eq_true rfl) rfl ?_
  refine pf_X12_66 hΓ rfl ⟨rfl, rfl⟩ (Nat.lt_of_succ_le (Nat.le_of_ble_eq_true rfl)) dX12_init_180 rfl ?_
  refine sv_aload_n hΓ dX12_init_183 rfl 0 rfl rfl ?_
  refine sv_bipush (v := 16) hΓ dX12_init_184 (by decide) rfl ?_
  refine sv_newI hΓ (n := 16) 16 tb_66 dX12_init_186 (by decide) (by decide) (by decide) (Nat.le_of_ble_eq_true rfl) (Nat.le_of_ble_eq_true rfl) rfl ?_
  refine pf_X12_69 hΓ rfl ⟨rfl, rfl⟩ (Nat.lt_of_succ_le (Nat.le_of_ble_eq_true rfl)) dX12_init_188 rfl ?_
  refine sv_aload_n hΓ dX12_init_191 rfl 0 rfl rfl ?_
  refine sv_bipush (v := 16) hΓ dX12_init_192 (by decide) rfl ?_
  refine sv_newI hΓ (n := 16) 16 tb_66 dX12_init_194 (by decide) (by decide) (by decide) (Nat.le_of_ble_eq_true rfl) (Nat.le_of_ble_eq_true rfl) rfl ?_
  refine pf_X12_72 hΓ rfl ⟨rfl, rfl⟩ (Nat.lt_of_succ_le (Nat.le_of_ble_eq_true rfl)) dX12_init_196 rfl ?_
  refine sv_aload_n hΓ dX12_init_199 rfl 0 rfl rfl ?_
  refine sv_bipush (v := 16) hΓ dX12_init_200 (by decide) rfl ?_
  refine sv_newJ hΓ (n := 16) 16 tb_172 dX12_init_202 (by decide) (by decide) (by decide) (Nat.le_of_ble_eq_true rfl) (Nat.le_of_ble_eq_true rfl) rfl ?_
  refine pf_X12_75 hΓ rfl ⟨rfl, rfl⟩ (Nat.lt_of_succ_le (Nat.le_of_ble_eq_true rfl)) dX12_init_204 rfl ?_
  refine sv_aload_n hΓ dX12_init_207 rfl 0 rfl rfl ?_
  refine sv_iconst (v := 4) hΓ dX12_init_208 (by decide) rfl ?_
  refine sv_newI hΓ (n := 4) 4 tb_66 dX12_init_209 (by decide) (by decide) (by decide) (Nat.le_of_ble_eq_true rfl) (Nat.le_of_ble_eq_true rfl) rfl ?_
  refine pf_X12_78 hΓ rfl ⟨rfl, rfl⟩ (Nat.lt_of_succ_le (Nat.le_of_ble_eq_true rfl)) dX12_init_211 rfl ?_
  refine sv_aload_n hΓ dX12_init_214 rfl 0 rfl rfl ?_
  refine sv_bipush (v := 8) hΓ dX12_init_215 (by decide) rfl ?_
  refine sv_newI hΓ (n := 8) 8 tb_66 dX12_init_217 (by decide) (by decide) (by decide) (Nat.le_of_ble_eq_true rfl) (Nat.le_of_ble_eq_true rfl) rfl ?_
  refine pf_X12_81 hΓ rfl ⟨rfl, rfl⟩ (Nat.lt_of_succ_le (Nat.le_of_ble_eq_true rfl)) dX12_init_219 rfl ?_
  refine sv_aload_n hΓ dX12_init_222 rfl 0 rfl rfl ?_
  refine sv_bipush (v := 8) hΓ dX12_init_223 (by decide) rfl ?_
  refine sv_newI hΓ (n := 8) 8 tb_66 dX12_init_225 (by decide) (by decide) (by decide) (Nat.le_of_ble_eq_true rfl) (Nat.le_of_ble_eq_true rfl) rfl ?_
  refine pf_X12_84 hΓ rfl ⟨rfl, rfl⟩ (Nat.lt_of_succ_le (Nat.le_of_ble_eq_true rfl)) dX12_init_227 rfl ?_
  refine sv_aload_n hΓ dX12_init_230 rfl 0 rfl rfl ?_
  refine sv_bipush (v := 8) hΓ dX12_init_231 (by decide) rfl ?_
  refine sv_newI hΓ (n := 8) 8 tb_66 dX12_init_233 (by decide) (by decide) (by decide) (Nat.le_of_ble_eq_true rfl) (Nat.le_of_ble_eq_true rfl) rfl ?_
  refine pf_X12_87 hΓ rfl ⟨rfl, rfl⟩ (Nat.lt_of_succ_le (Nat.le_of_ble_eq_true rfl)) dX12_init_235 rfl ?_
  refine sv_aload_n hΓ dX12_init_238 rfl 0 rfl rfl ?_
  refine sv_bipush (v := 8) hΓ dX12_init_239 (by decide) rfl ?_
  refine sv_newI hΓ (n := 8) 8 tb_66 dX12_init_241 (by decide) (by decide) (by decide) (Nat.le_of_ble_eq_true rfl) (Nat.le_of_ble_eq_true rfl) rfl ?_
  refine pf_X12_90 hΓ rfl ⟨rfl, rfl⟩ (Nat.lt_of_succ_le (Nat.le_of_ble_eq_true rfl)) dX12_init_243 rfl ?_
  refine sv_aload_n hΓ dX12_init_246 rfl 0 rfl rfl ?_
  refine sv_sipush (v := 480) hΓ dX12_init_247 (by decide) rfl ?_
  refine sv_newJ hΓ (n := 480) 480 tb_172 dX12_init_250 (by decide) (by decide) (by decide) (Nat.le_of_ble_eq_true rfl) (Nat.le_of_ble_eq_true rfl) rfl ?_
  refine pf_X12_93 hΓ rfl ⟨rfl, rfl⟩ (Nat.lt_of_succ_le (Nat.le_of_ble_eq_true rfl)) dX12_init_252 rfl ?_
  refine sv_aload_n hΓ dX12_init_255 rfl 0 rfl rfl ?_
  refine sv_bipush (v := 60) hΓ dX12_init_256 (by decide) rfl ?_
  refine sv_newJ hΓ (n := 60) 60 tb_172 dX12_init_258 (by decide) (by decide) (by decide) (Nat.le_of_ble_eq_true rfl) (Nat.le_of_ble_eq_true rfl) rfl ?_
  refine pf_X12_96 hΓ rfl ⟨rfl, rfl⟩ (Nat.lt_of_succ_le (Nat.le_of_ble_eq_true rfl)) dX12_init_260 rfl ?_
  refine sv_sub (mz 43 73 M lz_X12) (mz_le ?_ (fun j hj => ?_)) ?_
  · refine List.forall_mem_cons.mpr ⟨rfl, ?_⟩
    refine List.forall_mem_cons.mpr ⟨rfl, ?_⟩
    refine List.forall_mem_cons.mpr ⟨rfl, ?_⟩
    refine List.forall_mem_cons.mpr ⟨rfl, ?_⟩
    refine List.forall_mem_cons.mpr ⟨rfl, ?_⟩
    refine List.forall_mem_cons.mpr ⟨rfl, ?_⟩
    refine List.forall_mem_cons.mpr ⟨rfl, ?_⟩
    refine List.forall_mem_cons.mpr ⟨rfl, ?_⟩
    refine List.forall_mem_cons.mpr ⟨rfl, ?_⟩
    refine List.forall_mem_cons.mpr ⟨rfl, ?_⟩
    refine List.forall_mem_cons.mpr ⟨rfl, ?_⟩
    refine List.forall_mem_cons.mpr ⟨rfl, ?_⟩
    refine List.forall_mem_cons.mpr ⟨rfl, ?_⟩
    refine List.forall_mem_cons.mpr ⟨rfl, ?_⟩
    refine List.forall_mem_cons.mpr ⟨rfl, ?_⟩
    refine List.forall_mem_cons.mpr ⟨rfl, ?_⟩
    refine List.forall_mem_cons.mpr ⟨rfl, ?_⟩
    refine List.forall_mem_cons.mpr ⟨rfl, ?_⟩
    refine List.forall_mem_cons.mpr ⟨rfl, ?_⟩
    refine List.forall_mem_cons.mpr ⟨rfl, ?_⟩
    refine List.forall_mem_cons.mpr ⟨rfl, ?_⟩
    refine List.forall_mem_cons.mpr ⟨rfl, ?_⟩
    refine List.forall_mem_cons.mpr ⟨rfl, ?_⟩
    refine List.forall_mem_cons.mpr ⟨rfl, ?_⟩
    refine List.forall_mem_cons.mpr ⟨rfl, ?_⟩
    refine List.forall_mem_cons.mpr ⟨rfl, ?_⟩
    refine List.forall_mem_cons.mpr ⟨rfl, ?_⟩
    refine List.forall_mem_cons.mpr ⟨rfl, ?_⟩
    refine List.forall_mem_cons.mpr ⟨rfl, ?_⟩
    refine List.forall_mem_cons.mpr ⟨rfl, ?_⟩
    exact fun _ h => nomatch h
  · exact (va_up_ne _ _ (by omega)).trans ((va_up_ne _ _ (by omega)).trans ((va_up_ne _ _ (by omega)).trans ((va_up_ne _ _ (by omega)).trans ((va_up_ne _ _ (by omega)).trans ((va_up_ne _ _ (by omega)).trans ((va_up_ne _ _ (by omega)).trans ((va_up_ne _ _ (by omega)).trans ((va_up_ne _ _ (by omega)).trans ((va_up_ne _ _ (by omega)).trans ((va_up_ne _ _ (by omega)).trans ((va_up_ne _ _ (by omega)).trans ((va_up_ne _ _ (by omega)).trans ((va_up_ne _ _ (by omega)).trans ((va_up_ne _ _ (by omega)).trans ((va_up_ne _ _ (by omega)).trans ((va_up_ne _ _ (by omega)).trans ((va_up_ne _ _ (by omega)).trans ((va_up_ne _ _ (by omega)).trans ((va_up_ne _ _ (by omega)).trans ((va_up_ne _ _ (by omega)).trans ((va_up_ne _ _ (by omega)).trans ((va_up_ne _ _ (by omega)).trans ((va_up_ne _ _ (by omega)).trans ((va_up_ne _ _ (by omega)).trans ((va_up_ne _ _ (by omega)).trans ((va_up_ne _ _ (by omega)).trans ((va_up_ne _ _ (by omega)).trans ((va_up_ne _ _ (by omega)).trans ((va_up_ne _ _ (by omega)).trans ((va_up_ne _ _ (by omega)).trans ((va_up_ne _ _ (by omega)).trans ((va_up_ne _ _ (by omega)).trans ((va_up_ne _ _ (by omega)).trans ((va_up_ne _ _ (by omega)).trans ((va_up_ne _ _ (by omega)).trans ((va_up_ne _ _ (by omega)).trans ((va_up_ne _ _ (by omega)).trans ((va_up_ne _ _ (by omega)).trans ((va_up_ne _ _ (by omega)).trans ((va_up_ne _ _ (by omega)).trans ((va_up_ne _ _ (by omega)).trans ((va_up_ne _ _ (by omega)).trans ((va_up_ne _ _ (by omega)).trans ((va_up_ne _ _ (by omega)).trans ((va_up_ne _ _ (by omega)).trans ((va_up_ne _ _ (by omega)).trans ((va_up_ne _ _ (by omega)).trans ((va_up_ne _ _ (by omega)).trans ((va_up_ne _ _ (by omega)).trans ((va_up_ne _ _ (by omega)).trans ((va_up_ne _ _ (by omega)).trans ((va_up_ne _ _ (by omega)).trans ((va_up_ne _ _ (by omega)).trans ((va_up_ne _ _ (by omega)).trans ((va_up_ne _ _ (by omega)).trans ((va_up_ne _ _ (by omega)).trans ((va_up_ne _ _ (by omega)).trans ((va_up_ne _ _ (by omega)).trans ((va_up_ne _ _ (by omega)).trans ((va_up_ne _ _ (by omega)).trans ((va_up_ne _ _ (by omega)).trans ((va_up_ne _ _ (by omega)).trans ((va_up_ne _ _ (by omega)).trans ((va_up_ne _ _ (by omega)).trans ((va_up_ne _ _ (by omega)).trans ((va_up_ne _ _ (by omega))))))))))))))))))))))))))))))))))))))))))))))))))))))))))))))))))))
  · exact sv_vret hΓ hQ dX12_init_263 (Nat.le_of_ble_eq_true rfl) (Nat.le_of_ble_eq_true rfl) ⟨rfl, rfl, rfl⟩
