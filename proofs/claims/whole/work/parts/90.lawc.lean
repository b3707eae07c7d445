/-! The law's own walk: what it reads, what it rests on -/
abbrev LVk (k : Nat) : List (Nat × Value) := [(4, .int (nI (6 * k))), (3, .ref 73), (2, .ref 43), (1, .ref 1), (0, .ref 0)]
/-- what the law's walk rests on -/
def LC (E : aG) (Γ : aC) (nm : String) : Prop := CK E RL cL_law 8 ret nm 9 601024 7293034 Γ ∧ SX E Γ ∧ gL E ≤ 3072 ∧ NW E ∧ NX E ∧ XW E ∧ XN E ∧ (gl Γ).stackTraces = false
def KK (E : aG) (Γ : aC) (ce sl k : Nat) : Prop := ∀ ci cl cr dy nx n, INV ci cl cr dy nx n → SV E Γ 8 (mm ci cl cr dy) nx ce sl 1595 (LVk k) []
def lgV (a b : Int32) : Int64 := a.toInt64 <<< ((32 : Int32).toInt64 &&& 63) ||| (b.toInt64 &&& 4294967295)
def nzI (x : Int32) : Int32 := if x = 0 then 0 else 1
theorem nz01 (x : Int32) : nzI x = 0 ∨ nzI x = 1 := by
  unfold nzI
  split
  · exact Or.inl rfl
  · exact Or.inr rfl
section
variable {E : aG} {Γ : aC} {own : String} {cc : ByteArray} {nL : Nat} {ret : Option FieldType} {nm : String} {d mc ms : Nat} {M : aM} {nx ce sl pc pc' : Nat} {lv : List (Nat × Value)} {st : List Value}
theorem sv_arg (hΓ : CK E own cc nL ret nm d mc ms Γ) (hX : SX E Γ) {k : Nat} (j : Nat) (hk : 6 * k + 6 ≤ gL E) (hL : gL E ≤ 3072) (hj : j ≤ 5) {nj : Int} (d0 : decode cc pc = .ok (.aload_n 0, 1)) (d1 : decode cc (pc + 1) = .ok (.iload 4, 2)) (d3 : decode cc (pc + 3) = .ok (.iconst nj, 1)) (hnj : Int32.ofInt nj = nI j) (d4 : decode cc (pc + 4) = .ok (.iadd, 1)) (d5 : decode cc (pc + 5) = .ok (.iaload, 1)) (q0 q4 : Nat) (h0 : lv[q0]? = some (0, .ref 0)) (h4 : lv[q4]? = some (4, .int (nI (6 * k)))) (hn : pc + 6 = pc') (kk : SV E Γ nL M nx ce sl pc' lv (.int (gX E (6 * k + j)) :: st)) : SV E Γ nL M nx ce sl pc lv st := by
  refine sv_aload_n hΓ d0 rfl q0 h0 rfl ?_
  refine sv_iload hΓ d1 q4 h4 rfl ?_
  refine sv_iconst (v := nI j) hΓ d3 hnj rfl ?_
  refine sv_iaddE hΓ d4 (nx_add rfl rfl) rfl ?_
  refine sv_sld (pc' := pc') hΓ hX (nI_in (by omega) (by omega)) d5 (by omega) ?_
  rw [nI_clamp (by omega)]
  exact kk
theorem sv_nz (hΓ : CK E own cc nL ret nm d mc ms Γ) {x : Int32} (d0 : decode cc pc = .ok (.ifCond .eq 7, 3)) (d3 : decode cc (pc + 3) = .ok (.iconst 1, 1)) (d4 : decode cc (pc + 4) = .ok (.goto 4, 3)) (d7 : decode cc (pc + 7) = .ok (.iconst 0, 1)) (hn : pc + 8 = pc') (kk : SV E Γ nL M nx ce sl pc' lv (.int (nzI x) :: st)) : SV E Γ nL M nx ce sl pc lv (.int x :: st) := by
  refine sv_if_eq (tgt := pc + 7) hΓ d0 (by omega) rfl (fun h => ?_) (fun h => ?_)
  · refine sv_iconst (v := 0) (pc' := pc') hΓ d7 (by decide) (by omega) ?_
    rw [show nzI x = 0 from if_pos h] at kk
    exact kk
  · refine sv_iconst (v := 1) (pc' := pc + 4) hΓ d3 (by decide) (by omega) ?_
    refine sv_goto (pc' := pc') hΓ d4 (by omega) ?_
    rw [show nzI x = 1 from if_neg h] at kk
    exact kk
end
section
variable {ci : aI} {cl : aL} {cr : Nat → Nat → Option Nat} {dy : aM} {nx n : Nat}
theorem INV.ht (h : INV ci cl cr dy nx n) : ¬ ci 1 7 = 0 → ∀ a, a < n → up2 ci 43 0 0 55 a = ci 11 a := fun z a ha => by
  obtain ⟨T, -, p2, -⟩ := h.2.2.2.1 (fun y => z (h.2.2.1.1.trans y))
  rw [up2_k _ _ _ (by decide)]
  exact (p2 a ha).1.symm
theorem INV.hp1 (h : INV ci cl cr dy nx n) : ∀ j, j < 4 → 1 ≤ up2 ci 43 0 0 49 j := fun j hj => by
  obtain ⟨v, v1, v4, e⟩ := h.1.2.2.2.1 j hj
  rw [up2_k _ _ _ (by decide), e]
  exact nI_le (a := 1) v1 (by omega)
theorem INV.hld (h : INV ci cl cr dy nx n) : ¬ ci 1 7 = 0 → (∀ x, x < n → up2 ci 43 0 0 57 x = ci 17 x) ∧ ∀ a, a < n → up2 ci 43 0 0 56 a = ci 12 a := fun z => by
  obtain ⟨T, -, p2, -, -, p5, -⟩ := h.2.2.2.1 (fun y => z (h.2.2.1.1.trans y))
  rw [up2_k _ _ _ (by decide), up2_k _ _ _ (by decide)]
  exact ⟨fun x hx => (p5 x hx).1.symm, fun a ha => (p2 a ha).2.symm⟩
theorem INV.hrx (h : INV ci cl cr dy nx n) {w : Nat} (hw : w < 3) : ∀ a, a < n → 0 ≤ up2 ci 43 0 0 46 (3 * a + w) → ∃ x, x < n ∧ up2 ci 43 0 0 46 (3 * a + w) = nI x := fun a ha h0 => by
  rw [up2_k _ _ _ (by decide)] at h0 ⊢
  obtain ⟨x, hx, e⟩ := h.1.2.2.2.2.1 a ha w hw h0
  exact ⟨x, by omega, e⟩
theorem INV.hrx2 (h : INV ci cl cr dy nx n) : ∀ a, a < n → ∀ w, w < 3 → 0 ≤ ci 46 (3 * a + w) → ∃ x, x < 16 ∧ ci 46 (3 * a + w) = nI x := fun a ha w hw h0 => by
  obtain ⟨x, hx, e⟩ := h.1.2.2.2.2.1 a ha w hw h0
  have := h.n6
  exact ⟨x, by omega, e⟩
theorem INV.hfd (h : INV ci cl cr dy nx n) : ∀ k, k < 4 → ∃ f, f ≤ 20 ∧ ci (26 + 2 * (2 * k)) 1 = nI f := fun k hk => by
  rw [(h.2.1.1 k hk).1]
  exact h.2.1.2.2.1 k hk
theorem INV.hpu (h : INV ci cl cr dy nx n) : ∀ k, k < 4 → ∃ f, f ≤ 16 ∧ ci (26 + 2 * (2 * k + 1)) 1 = nI f := fun k hk => by
  rw [(h.2.1.2.2.2.2.2.2.1 k hk).1]
  exact (h.2.1.2.2.2.2.2.2.1 k hk).2
theorem INV.gg (h : INV ci cl cr dy nx n) : ∃ g, ¬ ci 1 7 = 0 → OA ci g n := by
  by_cases z : ci 43 13 = 0
  · exact ⟨fun _ => 0, fun y => absurd (h.2.2.1.1.trans z) y⟩
  · obtain ⟨T, -, -, -, ⟨g, hg⟩, -⟩ := h.2.2.2.1 z
    exact ⟨g, fun _ => hg⟩
theorem w3of (z : Int32) : (if z = 0 then 0 else 1 : Nat) < 3 := by split <;> decide
end
