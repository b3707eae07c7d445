/-! The calls that ask, one by one: the class's answer is the reference's -/
section
variable {ci : aI} {cl : aL} {cr : Nat → Nat → Option Nat} {dy : aM} {nx n nx' : Nat} {r : Option Value} {M' : aM}
theorem INV.B0 (h : INV ci cl cr dy nx n) : BK (up2 ci 43 0 0) (cl 48) ci cr dy n := (sm.up (by decide)).BK h.1.1 rfl rfl rfl rfl
theorem INV.n6 (h : INV ci cl cr dy nx n) : n ≤ 16 := h.1.1.2.2.1
theorem INV.wf (h : INV ci cl cr dy nx n) : ∀ i, i < n → WF ci i := h.1.1.2.2.2.2.1
theorem INV.z0 (h : INV ci cl cr dy nx n) {v : Int32} : NXT (mm (up2 ci 43 0 v) cl cr dy) nx := NXT.i (h.mv EI.z EL.rf (Nat.le_refl _))
theorem INV.zf (h : INV ci cl cr dy nx n) {v : Int32} {cs : aL} {c : aI} {m : Nat} (hf : FSI c cl cs m) : NXT (mm (up2 ci 43 0 v) cs cr dy) nx := NXT.i (h.mv EI.z (EL.f hf) (Nat.le_refl _))
theorem LSp_f {c : aI} {cs : aL} (hf : FSI c cl cs n) : LSp c (cl 48) cs n := hf.2
theorem k_eq {a b : Nat} (h : nI a = nI b) (ha : a ≤ 1000) (hb : b ≤ 1000) : a = b := (nI_eq (by omega) (by omega)).mp h
theorem k_in {a b k : Nat} (ha : a ≤ k) (hb : k ≤ b) (h : b ≤ 1000) : II a b (nI k) := ⟨by rw [nI_toInt (by omega)]; omega, by rw [nI_toInt (by omega)]; omega⟩
theorem a_in {a n : Nat} (ha : a < n) (h : n ≤ 1000) : AI n (nI a) := ⟨by rw [nI_toInt (by omega)]; omega, by rw [nI_toInt (by omega)]; omega⟩
theorem acF_8 {c : aI} {l : aL} {a : Nat} : acF c l a 8 = kd (c 44 a) := by unfold acF; rfl
theorem acF_o {c : aI} {l l' : aL} {a k : Nat} (h8 : k ≤ 8) (h : ¬ k = 7) : acF c l a k = acF c l' a k := by
  rcases (by omega : k = 0 ∨ k = 1 ∨ k = 2 ∨ k = 3 ∨ k = 4 ∨ k = 5 ∨ k = 6 ∨ k = 8) with e | e | e | e | e | e | e | e
  · subst e; simp only [acF]
  · subst e; simp only [acF]
  · subst e; simp only [acF]
  · subst e; simp only [acF]
  · subst e; simp only [acF]
  · subst e; simp only [acF]
  · subst e; simp only [acF]
  · subst e; rw [acF_8, acF_8]
theorem acF_7 {c : aI} {l : aL} {a : Nat} : acF c l a 7 = nI (btF (l 61 a) (l 62 a) 32 1) := by unfold acF; rfl
theorem A_act (h : INV ci cl cr dy nx n) {q m : Int32} (p : p1_act (up2 ci 43 0 0) (cl 48) q m n ci cl cr dy nx r M' nx') : ∃ x, r = some (.int x) ∧ M' = mm ci cl cr dy ∧ nx = nx' ∧ HF x (p2_act q m n ci cl cr dy nx) := by
  have h6 := h.n6
  rcases p with ⟨a1, rfl, rfl, rfl⟩ | ⟨a, ha, rfl, ⟨a1, rfl, rfl, rfl⟩ | ⟨k, hk, rfl, rfl, rfl, rfl⟩⟩
  · refine ⟨_, rfl, rfl, rfl, fun r2 M2 nx2 p2 => ?_⟩
    rcases p2 with ⟨-, rfl, rfl, rfl⟩ | ⟨a, k, ha, rfl, -, -, -⟩
    · exact ⟨rfl, h.z0⟩
    · exact absurd (a_in ha (by omega)) a1
  · refine ⟨_, rfl, rfl, rfl, fun r2 M2 nx2 p2 => ?_⟩
    rcases p2 with ⟨-, rfl, rfl, rfl⟩ | ⟨a', k, -, -, hk, rfl, -⟩
    · exact ⟨rfl, h.z0⟩
    · exact absurd (k_in (Nat.zero_le k) hk (by omega)) a1
  · refine ⟨_, rfl, rfl, rfl, fun r2 M2 nx2 p2 => ?_⟩
    rcases p2 with ⟨a1, -⟩ | ⟨a', k', ha', ea, hk', ek, cs, hcs, rfl, rfl, rfl⟩
    · exact absurd ⟨a_in ha (by omega), k_in (Nat.zero_le k) hk (by omega)⟩ a1
    · have ea2 := k_eq ea (by omega) (by omega)
      have ek2 := k_eq ek (by omega) (by omega)
      subst ea2
      subst ek2
      rcases hcs with ⟨h7, rfl⟩ | hf
      · exact ⟨by rw [acF_o hk h7], h.z0⟩
      · refine ⟨?_, h.zf hf⟩
        by_cases h7 : k = 7
        · subst h7
          have e1 : sC (up2 ci 43 0 0) (cl 48) 61 a = cs 61 a := (hf.2 a ha).1.symm
          have e2 : sC (up2 ci 43 0 0) (cl 48) 62 a = cs 62 a := (hf.2 a ha).2.symm
          rw [acF_7, acF_7, e1, e2]
        · rw [acF_o hk h7]
theorem ndc_i {x y : Int32} (h6 : n ≤ 16) : (AI n x ∧ AI n y ∧ x < y) ↔ NDC n x y := by
  have e0 : (0 : Int32).toInt = 0 := rfl
  unfold NDC
  rw [Int32.lt_iff_toInt_lt, Int32.lt_iff_toInt_lt, e0]
  constructor
  · rintro ⟨⟨a1, a2⟩, b1, b2⟩; exact ⟨b1, by omega, b2⟩
  · rintro ⟨⟨a1, a2⟩, b1, b2⟩; exact ⟨⟨by omega, by omega⟩, ⟨a1, a2⟩, b2⟩
theorem A_needs (h : INV ci cl cr dy nx n) {x y : Int32} (p : p1_needs (up2 ci 43 0 0) (cl 48) x y n ci cl cr dy nx r M' nx') : ∃ v, r = some (.int v) ∧ M' = mm ci cl cr dy ∧ nx = nx' ∧ HF v (p2_needs x y n ci cl cr dy nx) := by
  have h6 := h.n6
  have hw : ∀ i, i < n → WF (up2 ci 43 0 0) i := fun i hi => (sm.up (by decide)).WF (h.wf i hi)
  rcases p with ⟨a1, rfl, rfl, rfl⟩ | ⟨a, b, hab, hb, rfl, rfl, rfl, rfl, rfl⟩
  · refine ⟨_, rfl, rfl, rfl, fun r2 M2 nx2 p2 => ?_⟩
    rcases p2 with ⟨-, rfl, rfl, rfl⟩ | ⟨a, b, cs, hab, hb, rfl, rfl, -⟩
    · exact ⟨rfl, h.z0⟩
    · exact absurd ⟨a_in (by omega) (by omega), a_in hb (by omega), Int32.not_le.mp (nI_ge hab (by omega))⟩ a1
  · refine ⟨_, rfl, rfl, rfl, fun r2 M2 nx2 p2 => ?_⟩
    rcases p2 with ⟨a1, -⟩ | ⟨a', b', cs, hab', hb', ea, eb, hf, rfl, rfl, rfl⟩
    · exact absurd ((ndc_i h6).mp ⟨a_in (by omega) (by omega), a_in hb (by omega), Int32.not_le.mp (nI_ge hab (by omega))⟩) a1
    · cases k_eq ea (by omega) (by omega)
      cases k_eq eb (by omega) (by omega)
      refine ⟨?_, h.zf hf⟩
      rw [nd_l h6 (by omega) hb (hw a (by omega)) (hw b hb) (LSp_f hf) LSp_s]
theorem A_registers (h : INV ci cl cr dy nx n) (p : p1_registers ci cl cr dy nx r M' nx') : ∃ v, r = some (.int v) ∧ M' = mm ci cl cr dy ∧ nx = nx' ∧ HF v (p2_registers ci cl cr dy nx) := by
  obtain ⟨rfl, rfl, rfl⟩ := p
  refine ⟨_, rfl, rfl, rfl, fun r2 M2 nx2 p2 => ?_⟩
  obtain ⟨rfl, rfl, rfl⟩ := p2
  refine ⟨?_, h.z0⟩
  rw [h.2.2.1.1, show up2 ci 43 0 0 43 13 = ci 43 13 from up2_j _ _ _ (by decide), show up2 ci 43 0 0 43 18 = ci 43 18 from up2_j _ _ _ (by decide)]
  by_cases z : ci 43 13 = 0
  · rw [if_pos z, if_pos z]
  · obtain ⟨T, -, -, -, -, -, p6⟩ := h.2.2.2.1 z
    rw [if_neg z, if_neg z, p6]
theorem A_at (h : INV ci cl cr dy nx n) {t i : Int32} (p : p1_at (up2 ci 43 0 0) n t i ci cl cr dy nx r M' nx') : ∃ v, r = some (.int v) ∧ M' = mm ci cl cr dy ∧ nx = nx' ∧ HF v (p2_at t i n ci cl cr dy nx) := by
  have e13 : up2 ci 43 0 0 43 13 = ci 1 7 := (up2_j _ _ _ (by decide)).trans h.2.2.1.1.symm
  rcases p with ⟨a1, rfl, rfl, rfl⟩ | ⟨a1, a2, rfl, rfl, rfl⟩ | ⟨a1, a2, rfl, rfl, rfl⟩
  · refine ⟨_, rfl, rfl, rfl, fun r2 M2 nx2 p2 => ?_⟩
    rcases p2 with ⟨-, rfl, rfl, rfl⟩ | ⟨b1, -⟩
    · exact ⟨rfl, h.z0⟩
    · exact absurd b1 a1
  · refine ⟨_, rfl, rfl, rfl, fun r2 M2 nx2 p2 => ?_⟩
    rcases p2 with ⟨b1, -⟩ | ⟨-, ⟨-, rfl, rfl, rfl⟩ | ⟨b2, -⟩⟩
    · exact absurd a1 b1
    · exact ⟨rfl, h.z0⟩
    · exact absurd (e13.trans a2) b2
  · refine ⟨_, rfl, rfl, rfl, fun r2 M2 nx2 p2 => ?_⟩
    rcases p2 with ⟨b1, -⟩ | ⟨-, ⟨b2, -⟩ | ⟨-, rfl, rfl, rfl⟩⟩
    · exact absurd a1 b1
    · exact absurd (e13.symm.trans b2) a2
    · exact ⟨rfl, h.z0⟩
theorem tl_e {c : aI} {e : Nat} (hF : ∀ p, p < 4 → ci (26 + 2 * (2 * p + e)) 1 = c 52 p) : tlF ci e 4 = c 52 0 + c 52 1 + c 52 2 + c 52 3 := by
  show 0 + ci (26 + 2 * (2 * 0 + e)) 1 + ci (26 + 2 * (2 * 1 + e)) 1 + ci (26 + 2 * (2 * 2 + e)) 1 + ci (26 + 2 * (2 * 3 + e)) 1 = _
  rw [hF 0 (by decide), hF 1 (by decide), hF 2 (by decide), hF 3 (by decide), Int32.zero_add]
theorem tl_p {c : aI} {e : Nat} (hF : ∀ p, p < 4 → ci (26 + 2 * (2 * p + e)) 1 = c 58 p) : tlF ci e 4 = c 58 0 + c 58 1 + c 58 2 + c 58 3 := by
  show 0 + ci (26 + 2 * (2 * 0 + e)) 1 + ci (26 + 2 * (2 * 1 + e)) 1 + ci (26 + 2 * (2 * 2 + e)) 1 + ci (26 + 2 * (2 * 3 + e)) 1 = _
  rw [hF 0 (by decide), hF 1 (by decide), hF 2 (by decide), hF 3 (by decide), Int32.zero_add]
theorem A_told (h : INV ci cl cr dy nx n) {q : Int32} (p : p1_told q ci cl cr dy nx r M' nx') : ∃ v, r = some (.int v) ∧ M' = mm ci cl cr dy ∧ nx = nx' ∧ HF v (p2_told q ci cl cr dy nx) := by
  obtain ⟨-, r2, r3⟩ := h.2.2.1
  have e19 : up2 ci 43 0 0 43 19 = ci 1 8 := (up2_j _ _ _ (by decide)).trans r2.symm
  rcases p with ⟨a1, rfl, rfl, rfl⟩ | ⟨a1, a2, rfl, rfl, rfl⟩ | ⟨k, hk, rfl, a2, rfl, rfl, rfl⟩
  · refine ⟨_, rfl, rfl, rfl, fun r2 M2 nx2 p2 => ?_⟩
    rcases p2 with ⟨-, rfl, rfl, rfl⟩ | ⟨b1, -⟩
    · exact ⟨rfl, h.z0⟩
    · exact absurd b1 a1
  · refine ⟨_, rfl, rfl, rfl, fun r2 M2 nx2 p2 => ?_⟩
    rcases p2 with ⟨b1, -⟩ | ⟨-, ⟨-, rfl, rfl, rfl⟩ | ⟨b2, -⟩⟩
    · exact absurd a1 b1
    · exact ⟨rfl, h.z0⟩
    · exact absurd (e19.trans a2) b2
  · refine ⟨_, rfl, rfl, rfl, fun r2 M2 nx2 p2 => ?_⟩
    rcases p2 with ⟨b1, -⟩ | ⟨-, ⟨b2, -⟩ | ⟨-, k', hk', ek, rfl, rfl, rfl⟩⟩
    · exact absurd (k_in (Nat.zero_le k) hk (by omega)) b1
    · exact absurd (e19.symm.trans b2) a2
    · cases k_eq ek (by omega) (by omega)
      refine ⟨?_, h.z0⟩
      obtain ⟨q0, q1, q2, q3⟩ := r3.1 (fun z => a2 (r2.trans z))
      refine congrArg (fun z => (some (Value.int z) : Option Value)) ?_
      rcases (by omega : k = 0 ∨ k = 1 ∨ k = 2 ∨ k = 3 ∨ k = 4) with e | e | e | e | e <;> subst e
      · exact (up2_j _ _ _ (by decide)).trans q0.symm
      · exact (up2_j _ _ _ (by decide)).trans q1.symm
      · exact (up2_j _ _ _ (by decide)).trans q2.symm
      · exact (up2_j _ _ _ (by decide)).trans q3.symm
      · exact (tl_p (c := up2 ci 43 0 0) (fun p hp => by rw [up2_k _ _ _ (by decide)]; exact (h.2.1.2.2.2.2.2.2.1 p hp).1)).symm
theorem A_outs (h : INV ci cl cr dy nx n) {q : Int32} (p : p1_outs q ci cl cr dy nx r M' nx') : ∃ v, r = some (.int v) ∧ M' = mm ci cl cr dy ∧ nx = nx' ∧ HF v (p2_outs q ci cl cr dy nx) := by
  obtain ⟨-, r2, r3⟩ := h.2.2.1
  have e19 : up2 ci 43 0 0 43 19 = ci 1 8 := (up2_j _ _ _ (by decide)).trans r2.symm
  rcases p with ⟨a1, rfl, rfl, rfl⟩ | ⟨k, hk, rfl, rfl, rfl, rfl⟩
  · refine ⟨_, rfl, rfl, rfl, fun r2 M2 nx2 p2 => ?_⟩
    rcases p2 with ⟨-, rfl, rfl, rfl⟩ | ⟨b1, -⟩
    · exact ⟨rfl, h.z0⟩
    · exact absurd b1 a1
  · refine ⟨_, rfl, rfl, rfl, fun r2 M2 nx2 p2 => ?_⟩
    rcases p2 with ⟨b1, -⟩ | ⟨-, ⟨b2, rfl, rfl, rfl⟩ | ⟨b2, rfl, rfl, rfl⟩⟩
    · exact absurd (k_in (Nat.zero_le k) (by omega : k ≤ 3) (by omega)) b1
    · rw [e19] at b2
      exact ⟨by rw [if_pos b2], h.z0⟩
    · rw [e19] at b2
      refine ⟨?_, h.z0⟩
      rw [if_neg b2, nI_clamp (by omega), up2_k _ _ _ (by decide), (h.2.1.2.2.2.2.2.2.1 k hk).1]
theorem A_count (h : INV ci cl cr dy nx n) {q : Int32} (p : p1_count (up2 ci 43 0 0) (cl 48) q n ci cl cr dy nx r M' nx') : ∃ v, r = some (.int v) ∧ M' = mm ci cl cr dy ∧ nx = nx' ∧ HF v (p2_count q n ci cl cr dy nx) := by
  have h6 := h.n6
  have e2 : ci 2 1 = nI n := h.1.1.2.2.2.1
  have k1 : up2 ci 43 0 0 43 1 = nI n := (up2_j _ _ _ (by decide)).trans h.1.2.1
  have k9 : up2 ci 43 0 0 49 = ci 49 := up2_k _ _ _ (by decide)
  have k2 : up2 ci 43 0 0 52 = ci 52 := up2_k _ _ _ (by decide)
  have hst : ∀ k, k < 4 → ci 5 k = ci 49 k := fun k hk => (h.1.1.2.1 k hk).1
  have key : ∀ x, r = some (.int x) → M' = mm ci cl cr dy → nx = nx' → cnF (up2 ci 43 0 0) n q = x → ∃ v, r = some (.int v) ∧ M' = mm ci cl cr dy ∧ nx = nx' ∧ HF v (p2_count q n ci cl cr dy nx) := by
    intro x h1 h2 h3 h4
    refine ⟨x, h1, h2, h3, fun r2 M2 nx2 p2 => ?_⟩
    obtain ⟨rfl, rfl, rfl⟩ := p2
    exact ⟨by rw [h4], h.z0⟩
  rcases p with ⟨rfl, h1, h2, h3⟩ | ⟨rfl, h1, h2, h3⟩ | ⟨rfl, h1, h2, h3⟩ | ⟨q1, q2, h1, h2, h3⟩ | ⟨q1, k, hk, ek, h1, h2, h3⟩
  · refine key _ h1 h2 h3 ?_
    rw [e2]; exact k1
  · exact key _ h1 h2 h3 rfl
  · refine key _ h1 h2 h3 ?_
    show up2 ci 43 0 0 52 0 + up2 ci 43 0 0 52 1 + up2 ci 43 0 0 52 2 + up2 ci 43 0 0 52 3 = _
    rw [k2]
    exact (tl_e (fun p hp => (h.2.1.1 p hp).1)).symm
  · refine key _ h1 h2 h3 ?_
    have hne : ∀ j : Nat, j ≤ 6 → ¬ q = nI j := by
      intro j hj e
      subst e
      rw [nI_toInt (by omega)] at q1
      refine q2 ?_
      have e3 : nI j - 3 = nI (j - 3) := nx_subE (a := j) (b := 3) rfl rfl (by omega)
      rw [e3]
      exact k_in (Nat.zero_le _) (by omega : j - 3 ≤ 3) (by omega)
    have n0 : ¬ q = 0 := hne 0 (by omega)
    have n1 : ¬ q = 1 := hne 1 (by omega)
    have n2 : ¬ q = 2 := hne 2 (by omega)
    have n3 : ¬ q = 3 := hne 3 (by omega)
    have n4 : ¬ q = 4 := hne 4 (by omega)
    have n5 : ¬ q = 5 := hne 5 (by omega)
    have n6 : ¬ q = 6 := hne 6 (by omega)
    unfold cnF
    rw [if_neg n0, if_neg n1, if_neg n2, if_neg n3, if_neg n4, if_neg n5, if_neg n6]
  · refine key _ h1 h2 h3 ?_
    have eq : q = nI (k + 3) := by
      have : q = nI k + 3 := by rw [← ek, Int32.sub_add_cancel]
      rw [this]; exact nx_add (a := k) (b := 3) rfl rfl
    subst eq
    rw [hst k hk]
    unfold cnF
    rw [k9]
    rcases (by omega : k = 0 ∨ k = 1 ∨ k = 2 ∨ k = 3) with e | e | e | e <;> subst e <;> rfl
theorem A_tick (h : INV ci cl cr dy nx n) {q m : Int32} (p : p1_tick (up2 ci 43 0 0) (cl 48) q m n ci cl cr dy nx r M' nx') : ∃ v, r = some (.int v) ∧ M' = mm ci cl cr dy ∧ nx = nx' ∧ HF v (p2_tick q m n ci cl cr dy nx) := by
  have h6 := h.n6
  have hs : sm ci (up2 ci 43 0 0) := sm.up (by decide)
  have hw : ∀ i, i < n → WF (up2 ci 43 0 0) i := fun i hi => hs.WF (h.wf i hi)
  have e13 := h.2.2.1.1
  rcases p with ⟨a1, rfl, rfl, rfl⟩ | ⟨a1, a2, rfl, rfl, rfl⟩ | ⟨a, k, ha, rfl, hk, rfl, a2, rfl, rfl, rfl⟩
  · refine ⟨_, rfl, rfl, rfl, fun r2 M2 nx2 p2 => ?_⟩
    rcases p2 with ⟨-, rfl, rfl, rfl⟩ | ⟨b1, -⟩ | ⟨a, k, cs, ha, rfl, hk, rfl, -⟩
    · exact ⟨rfl, h.z0⟩
    · exact absurd b1 a1
    · exact absurd ⟨a_in ha (by omega), k_in (Nat.zero_le k) hk (by omega)⟩ a1
  · refine ⟨_, rfl, rfl, rfl, fun r2 M2 nx2 p2 => ?_⟩
    rcases p2 with ⟨b1, -⟩ | ⟨-, -, rfl, rfl, rfl⟩ | ⟨a, k, cs, -, -, -, -, b2, -⟩
    · exact absurd a1 b1
    · exact ⟨rfl, h.z0⟩
    · exact absurd (e13.symm.trans a2) b2
  · refine ⟨_, rfl, rfl, rfl, fun r2 M2 nx2 p2 => ?_⟩
    rcases p2 with ⟨b1, -⟩ | ⟨-, b2, -⟩ | ⟨a', k', cs, ha', ea, hk', ek, b2, hf, rfl, rfl, rfl⟩
    · exact absurd ⟨a_in ha (by omega), k_in (Nat.zero_le k) hk (by omega)⟩ b1
    · exact absurd (e13.trans b2) a2
    · cases k_eq ea (by omega) (by omega)
      cases k_eq ek (by omega) (by omega)
      refine ⟨?_, h.zf hf⟩
      obtain ⟨T, p1, p2, p3, p4, p5, p6⟩ := h.2.2.2.1 b2
      obtain ⟨r1, r2, r3, -⟩ := RR_mv p5 (EI.z (v := 0)).RK (fun b _ => ⟨rfl, rfl, rfl⟩) a ha
      have e55 : up2 ci 43 0 0 55 = ci 55 := up2_k _ _ _ (by decide)
      have e56 : up2 ci 43 0 0 56 = ci 56 := up2_k _ _ _ (by decide)
      have p1' : PN (up2 ci 43 0 0) (cl 48) n T := p1.mv (EI.z (v := 0)).LK (EI.z (v := 0)).RK
      refine congrArg (fun z => (some (Value.int z) : Option Value)) ?_
      rcases (by omega : k = 0 ∨ k = 1 ∨ k = 2 ∨ k = 3 ∨ k = 4 ∨ k = 5 ∨ k = 6) with e | e | e | e | e | e | e <;> subst e
      · show up2 ci 43 0 0 55 a = ci 11 a
        rw [e55, (p2 a ha).1]
      · show up2 ci 43 0 0 56 a = ci 12 a
        rw [e56, (p2 a ha).2]
      · exact (jb_l sm.rf h6 ha hw (LSp_f hf) LSp_s a 0 (by omega))
      · show (if up2 ci 43 0 0 55 a ≤ up2 ci 43 0 0 63 a then (0 : Int32) else 1) = if ci 11 a ≤ askF (up2 ci 43 0 0) (sC (up2 ci 43 0 0) (cl 48)) a a then 0 else 1
        rw [pn_63 h6 hw p1' ha, e55, (p2 a ha).1]
      · exact r1.symm
      · exact r2.symm
      · exact r3.symm
theorem A_bound (h : INV ci cl cr dy nx n) {q : Int32} (p : p1_bound (up2 ci 43 0 0) (cl 48) q n ci cl cr dy nx r M' nx') : ∃ v c1, r = some (.int v) ∧ M' = mm c1 cl cr dy ∧ nx = nx' ∧ INV c1 cl cr dy nx n ∧ HF v (p2_bound q n c1 cl cr dy nx) := by
  have h6 := h.n6
  rcases p with ⟨a1, rfl, rfl, rfl⟩ | ⟨k, c1, hk, rfl, hc, rfl, rfl, rfl⟩
  · refine ⟨_, ci, rfl, rfl, rfl, h, fun r2 M2 nx2 p2 => ?_⟩
    rcases p2 with ⟨-, rfl, rfl, rfl⟩ | ⟨k, c2, cs, hk, rfl, -⟩
    · exact ⟨rfl, h.z0⟩
    · exact absurd (k_in (Nat.zero_le k) hk (by omega)) a1
  · have h1 : INV c1 cl cr dy nx n := h.mv (EI.n hc) EL.rf (Nat.le_refl _)
    refine ⟨_, c1, rfl, rfl, rfl, h1, fun r2 M2 nx2 p2 => ?_⟩
    rcases p2 with ⟨b1, -⟩ | ⟨k', c2, cs, hk', ek, hB, hcs, rfl, rfl, rfl⟩
    · exact absurd (k_in (Nat.zero_le k) hk (by omega)) b1
    · cases k_eq ek (by omega) (by omega)
      have hsm : sm (up2 ci 43 0 0) (up2 c1 43 0 0) := ((sm.up (by decide)).sy.tr (EI.n hc).sm).tr (sm.up (by decide))
      have hkp : sm (up2 c1 43 0 0) (kpC (up2 c1 43 0 0) n) := sm.of fun q h1 h2 _ => kpC_k _ (by omega) n
      have hE : EL cl cs := by
        rcases hcs with ⟨-, -, rfl⟩ | hf
        · exact EL.rf
        · exact EL.f hf
      refine ⟨?_, NXT.i (h1.mv (EI.z.tr (EI.b hB)) hE (Nat.le_refl _))⟩
      have hft : FSI (up2 c1 43 0 0) cl cs n → ftA (kpC (up2 c1 43 0 0) n) cs n = ftA (up2 ci 43 0 0) (sC (up2 ci 43 0 0) (cl 48)) n := fun hf => by
        rw [(ft_c hkp n).2, (ft_c hsm n).2]
        exact (ft_l h6 (fun i hi => (sm.up (by decide)).WF (h.wf i hi)) ((LSp_f hf).sm hsm.sy) LSp_s n (Nat.le_refl n)).2
      refine congrArg (fun z => (some (Value.int z) : Option Value)) ?_
      unfold bdF bdF2
      by_cases k0 : k = 0
      · rw [if_pos k0, if_pos k0]
        rcases hcs with ⟨z, -⟩ | hf
        · exact absurd k0 z
        · exact hft hf
      · rw [if_neg k0, if_neg k0]
        by_cases k5 : k < 5
        · rw [if_pos k5, if_pos k5]; exact flB_c hsm n _
        · rw [if_neg k5, if_neg k5]
          rcases hcs with ⟨-, z, -⟩ | hf
          · exact absurd z k5
          · rw [bm_c hsm, hft hf]
theorem A_chooser (h : INV ci cl cr dy nx n) {q i z : Int32} (hz : z = 0 ∨ z = 1) (p : p1_chooser (up2 ci 43 0 0) (cl 48) n q i z (if z = 0 then 0 else 1) ci cl cr dy nx r M' nx') : ∃ v, r = some (.int v) ∧ M' = mm ci cl cr dy ∧ nx = nx' ∧ HF v (p2_chooser q i z n ci cl cr dy nx) := by
  have h6 := h.n6
  have e13 : up2 ci 43 0 0 43 13 = ci 1 7 := (up2_j _ _ _ (by decide)).trans h.2.2.1.1.symm
  have e49 : up2 ci 43 0 0 49 = ci 49 := up2_k _ _ _ (by decide)
  have hst : ∀ k, k < 4 → ci 5 k = ci 49 k := fun k hk => (h.1.1.2.1 k hk).1
  have hq : ∀ k, k < 4 → q = nI k → (¬ i < 0 ∧ i < ci 5 k) → II 0 3 q ∧ ¬ i < 0 ∧ i < up2 ci 43 0 0 49 q.toNatClampNeg := by
    intro k hk e hi
    subst e
    rw [nI_clamp (by omega), e49, ← hst k hk]
    exact ⟨k_in (Nat.zero_le k) (by omega : k ≤ 3) (by omega), hi⟩
  rcases p with ⟨a1, rfl, rfl, rfl⟩ | ⟨k, hk, rfl, a1, ⟨a2, rfl, rfl, rfl⟩ | ⟨a2, rfl, rfl, rfl⟩⟩
  · refine ⟨_, rfl, rfl, rfl, fun r2 M2 nx2 p2 => ?_⟩
    rcases p2 with ⟨-, rfl, rfl, rfl⟩ | ⟨k, hk, rfl, b1, -⟩
    · exact ⟨rfl, h.z0⟩
    · rw [e49] at b1
      exact absurd ⟨k_in (Nat.zero_le k) (by omega : k ≤ 3) (by omega), b1.1, by rw [nI_clamp (by omega), hst k hk]; exact b1.2⟩ a1
  · refine ⟨_, rfl, rfl, rfl, fun r2 M2 nx2 p2 => ?_⟩
    rcases p2 with ⟨b1, -⟩ | ⟨k', -, -, -, ⟨-, rfl, rfl, rfl⟩ | ⟨b2, -⟩⟩
    · exact absurd (hq k hk rfl a1) b1
    · exact ⟨rfl, h.z0⟩
    · exact absurd (e13.trans a2) b2
  · refine ⟨_, rfl, rfl, rfl, fun r2 M2 nx2 p2 => ?_⟩
    rcases p2 with ⟨b1, -⟩ | ⟨k', hk', ek, -, ⟨b2, -⟩ | ⟨-, rfl, rfl, rfl⟩⟩
    · exact absurd (hq k hk rfl a1) b1
    · exact absurd (e13.symm.trans b2) a2
    · cases k_eq ek (by omega) (by omega)
      refine ⟨?_, h.z0⟩
      obtain ⟨T, p1, -⟩ := h.2.2.2.1 (fun z => a2 (h.2.2.1.1.trans z))
      have hs : sm ci (up2 ci 43 0 0) := sm.up (by decide)
      have hS : SRC (up2 ci 43 0 0) n (if z = 0 then 0 else 1) := SRC_of h6 (by split <;> decide) (h.1.2.2.1.sm hs) (h.1.2.2.2.1.sm hs) (OX_c h.1.2.2.2.2.1 hs.2.2.1) (p1.mv (EI.z (v := 0)).LK (EI.z (v := 0)).RK)
      rw [(ch_e hS n (Nat.le_refl n)).1]
end
