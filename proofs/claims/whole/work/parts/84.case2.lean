/-! The calls that throw, and the SHELVES -/
section
variable {ci : aI} {cl : aL} {cr : Nat → Nat → Option Nat} {dy : aM} {nx n nx' : Nat} {r : Option Value} {M' : aM}
theorem INV.t0 (h : INV ci cl cr dy nx n) {v : Int32} (y : Int64) (hv : ¬ v = 0) : ∃ y' c2 l2 r2 d2 n2, (some (.long y) : Option Value) = some (.long y') ∧ mm (up2 ci 43 0 v) cl cr dy = mm c2 l2 r2 d2 ∧ INV c2 l2 r2 d2 nx n2 ∧ c2 43 0 = v ∧ (v = 0 → l2 73 0 = y') := ⟨y, _, _, _, _, n, rfl, rfl, h.mv EI.z EL.rf (Nat.le_refl _), up2_s _ _ _ _, fun z => absurd z hv⟩
theorem INV.t1 (h : INV ci cl cr dy nx n) {cs : aL} {y : Int64} (hE : EL cl cs) (hy : cs 73 0 = y) : ∃ y' c2 l2 r2 d2 n2, (some (.long y) : Option Value) = some (.long y') ∧ mm (up2 ci 43 0 0) cs cr dy = mm c2 l2 r2 d2 ∧ INV c2 l2 r2 d2 nx n2 ∧ c2 43 0 = 0 ∧ ((0 : Int32) = 0 → l2 73 0 = y') := ⟨y, _, _, _, _, n, rfl, rfl, h.mv EI.z hE (Nat.le_refl _), up2_s _ _ _ _, fun _ => hy⟩
theorem A_span (h : INV ci cl cr dy nx n) {q z : Int32} (p : q1_span (up2 ci 43 0 0) (cl 48) q z n ci cl cr dy nx r M' nx') : ∃ k l1, r = some (.int k) ∧ M' = mm ci l1 cr dy ∧ INV ci l1 cr dy nx' n ∧ HF8 k (p2_span q z n ci l1 cr dy nx') := by
  have h6 := h.n6
  rcases p with ⟨a1, rfl, rfl, hx⟩ | ⟨a, ha, rfl, rfl, rfl, hx⟩
  · have h1 := h.mv EI.rf EL.rf hx
    refine ⟨_, _, rfl, rfl, h1, fun r2 M2 nx2 p2 => ?_⟩
    rcases p2 with ⟨-, rfl, rfl, rfl⟩ | ⟨a, cs, ha, rfl, -⟩
    · exact h1.t0 0 (by decide)
    · exact absurd (a_in ha (by omega)) a1
  · generalize hv : (if z = 0 then SL (up2 ci 43 0 0) (cl 48) a else SH (up2 ci 43 0 0) (cl 48) a) = v
    have h1 : INV ci (up2 cl 73 0 v) cr dy nx' n := h.mv EI.rf EL.o hx
    have e48 : up2 cl 73 0 v 48 = cl 48 := up2_k _ _ _ (by decide)
    refine ⟨_, _, rfl, rfl, h1, fun r2 M2 nx2 p2 => ?_⟩
    rcases p2 with ⟨b1, -⟩ | ⟨a', cs, ha', ea, hf, rfl, rfl, rfl⟩
    · exact absurd (a_in ha (by omega)) b1
    · cases k_eq ea (by omega) (by omega)
      refine h1.t1 (EL.f hf) ?_
      rw [hf.1 73 (by decide) (by decide) (by decide), up2_s, (hf.2 a ha).1, (hf.2 a ha).2, e48]
      exact hv.symm
theorem A_row (h : INV ci cl cr dy nx n) {q : Int32} (p : q1_row q ci cl cr dy nx r M' nx') : ∃ k l1, r = some (.int k) ∧ M' = mm ci l1 cr dy ∧ INV ci l1 cr dy nx' n ∧ HF8 k (p2_row q ci l1 cr dy nx') := by
  have e19 : ci 1 8 = ci 43 19 := h.2.2.1.2.1
  rcases p with ⟨a1, rfl, rfl, hx⟩ | ⟨a1, a2, rfl, rfl, hx⟩ | ⟨k, hk, rfl, a2, rfl, rfl, hx⟩
  · have h1 := h.mv EI.rf EL.rf hx
    refine ⟨_, _, rfl, rfl, h1, fun r2 M2 nx2 p2 => ?_⟩
    rcases p2 with ⟨-, rfl, rfl, rfl⟩ | ⟨b1, -⟩ | ⟨b1, -⟩
    · exact h1.t0 0 (by decide)
    · exact absurd b1 a1
    · exact absurd b1 a1
  · have h1 := h.mv EI.rf EL.rf hx
    refine ⟨_, _, rfl, rfl, h1, fun r2 M2 nx2 p2 => ?_⟩
    rcases p2 with ⟨b1, -⟩ | ⟨-, -, rfl, rfl, rfl⟩ | ⟨-, b2, -⟩
    · exact absurd a1 b1
    · exact h1.t0 0 (by decide)
    · exact absurd (e19.symm.trans a2) b2
  · have h1 : INV ci (up2 cl 73 0 (cl 22 k)) cr dy nx' n := h.mv EI.rf EL.o hx
    refine ⟨_, _, rfl, rfl, h1, fun r2 M2 nx2 p2 => ?_⟩
    rcases p2 with ⟨b1, -⟩ | ⟨-, b2, -⟩ | ⟨-, -, rfl, rfl, rfl⟩
    · exact absurd (k_in (Nat.zero_le k) hk (by omega)) b1
    · exact absurd (e19.trans b2) a2
    · refine h1.t1 EL.rf ?_
      rw [up2_s, nI_clamp (by omega), up2_k _ _ _ (by decide)]
      exact h.2.1.2.2.2.2.2.2.2.1 k (by omega)
theorem A_out (h : INV ci cl cr dy nx n) {q i : Int32} (p : q1_out q i ci cl cr dy nx r M' nx') : ∃ k l1, r = some (.int k) ∧ M' = mm ci l1 cr dy ∧ INV ci l1 cr dy nx' n ∧ HF8 k (p2_out q i ci l1 cr dy nx') := by
  have e19 : ci 1 8 = ci 43 19 := h.2.2.1.2.1
  have hp := h.2.1.2.2.2.2.2.2.1
  rcases p with ⟨a1, rfl, rfl, hx⟩ | ⟨a0, a1, a2, rfl, rfl, hx⟩ | ⟨k, hk, rfl, a1, a2, a3, rfl, rfl, hx⟩ | ⟨k, j, f, hk, rfl, rfl, a2, hf, a3, hj, rfl, rfl, hx⟩
  · have h1 := h.mv EI.rf EL.rf hx
    refine ⟨_, _, rfl, rfl, h1, fun r2 M2 nx2 p2 => ?_⟩
    rcases p2 with ⟨-, rfl, rfl, rfl⟩ | ⟨⟨⟨b1, b2⟩, -⟩, -⟩ | ⟨k, j, v, hk, hv, -, rfl, rfl, hj, -⟩
    · exact h1.t0 0 (by decide)
    · exact absurd ⟨b1, Int32.not_lt.mp b2⟩ a1
    · exact absurd ⟨k_in (Nat.zero_le k) (by omega : k ≤ 3) (by omega), nI_nn (by omega)⟩ a1
  · have h1 := h.mv EI.rf EL.rf hx
    refine ⟨_, _, rfl, rfl, h1, fun r2 M2 nx2 p2 => ?_⟩
    rcases p2 with ⟨b1, -⟩ | ⟨-, rfl, rfl, rfl⟩ | ⟨k, j, v, -, -, -, -, -, -, b2, -⟩
    · exact absurd ⟨a0, Int32.not_lt.mpr a1, Or.inl (e19.symm.trans a2)⟩ b1
    · exact h1.t0 0 (by decide)
    · exact absurd (e19.symm.trans a2) b2
  · have h1 := h.mv EI.rf EL.rf hx
    refine ⟨_, _, rfl, rfl, h1, fun r2 M2 nx2 p2 => ?_⟩
    rcases p2 with ⟨-, rfl, rfl, rfl⟩ | ⟨⟨-, b2⟩, -⟩ | ⟨k', j, v, hk', hv, ev, ek, rfl, hj, -⟩
    · exact h1.t0 0 (by decide)
    · exact absurd (e19.trans b2) a2
    · cases k_eq ek (by omega) (by omega)
      rw [(hp k hk).1, ev] at a3
      exact absurd (Int32.not_le.mp (nI_ge hj (by omega))) a3
  · have h1 : INV ci (up2 cl 73 0 (cl (27 + 2 * (2 * k + 1)) j)) cr dy nx' n := h.mv EI.rf EL.o hx
    refine ⟨_, _, rfl, rfl, h1, fun r2 M2 nx2 p2 => ?_⟩
    rcases p2 with ⟨b1, -⟩ | ⟨⟨-, b2⟩, -⟩ | ⟨k', j', v, hk', hv, ev, ek, ej, hj', -, rfl, rfl, rfl⟩
    · refine absurd ⟨k_in (Nat.zero_le k) (by omega : k ≤ 3) (by omega), Int32.not_lt.mpr (nI_nn (by omega)), Or.inr ?_⟩ b1
      rw [nI_clamp (by omega), ← (hp k hk).1, a3]
      exact Int32.not_le.mp (nI_ge hj (by omega))
    · exact absurd (e19.trans b2) a2
    · cases k_eq ek (by omega) (by omega)
      cases k_eq ej (by omega) (by omega)
      refine h1.t1 EL.rf ?_
      rw [up2_s, up2_k _ _ _ (by decide)]
      exact h.2.1.2.2.2.1.2 k hk j (by omega)
theorem rc_y {v j : Nat} (hj : j < v) (hv : v ≤ 60) : RC v (nI j) 1 := by
  refine ⟨nI_nneg (by omega), by decide, ?_⟩
  rw [Int64.lt_iff_toInt_lt, Int64.toInt_add, Int32.toInt_toInt64, Int32.toInt_toInt64, nI_toInt (by omega), nI_toInt (by omega), Int32.toInt_toInt64]
  show ¬ (v : Int) < ((j : Int) + 1).bmod _
  rw [Int.bmod_eq_of_le (by omega) (by omega)]
  omega
theorem A_element (h : INV ci cl cr dy nx n) {q i : Int32} (p : q1_element q i ci cl cr dy nx r M' nx') : ∃ k l1, r = some (.int k) ∧ M' = mm ci l1 cr dy ∧ INV ci l1 cr dy nx' n ∧ HF8 k (p2_element q i ci l1 cr dy nx') := by
  have hs := h.2.2.2.2.1.1
  rcases p with ⟨a1, rfl, rfl, hx⟩ | ⟨e, he, rfl, a1, rfl, rfl, hx⟩ | ⟨e, j, k, q', w, v, f, he, rfl, rfl, a1, hR, hv, hj, rfl, rfl, hx⟩
  · have h1 := h.mv EI.rf EL.rf hx
    refine ⟨_, _, rfl, rfl, h1, fun r2 M2 nx2 p2 => ?_⟩
    rcases p2 with ⟨-, rfl, rfl, rfl⟩ | ⟨e, v, he, -, -, rfl, -⟩ | ⟨e, v, j, he, -, -, rfl, -⟩
    · exact h1.t0 0 (by decide)
    · exact absurd (a_in he (by omega)) a1
    · exact absurd (a_in he (by omega)) a1
  · have h1 := h.mv EI.rf EL.rf hx
    refine ⟨_, _, rfl, rfl, h1, fun r2 M2 nx2 p2 => ?_⟩
    rcases p2 with ⟨b1, -⟩ | ⟨e', v, -, -, -, -, -, rfl, rfl, rfl⟩ | ⟨e', v', j, he', hv', ev, ee, rfl, hj, b2, -⟩
    · exact absurd (a_in he (by omega)) b1
    · exact h1.t0 0 (by decide)
    · cases k_eq ee (by omega) (by omega)
      rcases a1 with a1 | ⟨k, c, nu, a, s, a1, a2⟩ | ⟨k, q, w, v, f, a1, a2, a3, a4⟩
      · rw [(hs e he).n a1] at b2
        exact absurd (by decide) b2
      · rw [((hs e he).a a1 a2).1] at b2
        exact absurd (by decide) b2
      · obtain ⟨-, -, -, e68, -⟩ := (hs e he).r a1 a2
        cases k_eq (e68.symm.trans ev) (by omega) (by omega)
        exact absurd (rc_y hj a3) a4
  · have h1 : INV ci (up2 cl 73 0 (f j)) cr dy nx' n := h.mv EI.rf EL.o hx
    obtain ⟨e67, hw, -, e68, ef⟩ := (hs e he).r a1 hR
    have h2 : ¬ ci 67 e ≤ 2 := by
      rw [e67]
      rcases hw with rfl | rfl <;> decide
    refine ⟨_, _, rfl, rfl, h1, fun r2 M2 nx2 p2 => ?_⟩
    rcases p2 with ⟨b1, -⟩ | ⟨e', v', he', hv', ev, ee, b1, -⟩ | ⟨e', v', j', he', hv', ev, ee, ej, hj', -, rfl, rfl, rfl⟩
    · exact absurd (a_in he (by omega)) b1
    · cases k_eq ee (by omega) (by omega)
      cases k_eq (e68.symm.trans ev) (by omega) (by omega)
      exact absurd ⟨h2, a_in hj (by omega)⟩ b1
    · cases k_eq ee (by omega) (by omega)
      cases k_eq ej (by omega) (by omega)
      refine h1.t1 EL.rf ?_
      rw [up2_s, up2_k _ _ _ (by decide)]
      exact ef j hj
theorem A_weight (h : INV ci cl cr dy nx n) {d : Int32} (p : p1_weight d ci cl cr dy nx r M' nx') : ∃ v, r = some (.int v) ∧ M' = mm ci cl cr dy ∧ nx = nx' ∧ HF v (p2_weight d ci cl cr dy nx) := by
  have hs := h.2.2.2.2.1.1
  have k67 : up2 ci 43 0 0 67 = ci 67 := up2_k _ _ _ (by decide)
  have k69 : up2 ci 43 0 0 69 = ci 69 := up2_k _ _ _ (by decide)
  rcases p with ⟨a1, rfl, rfl, rfl⟩ | ⟨e, he, rfl, a⟩
  · refine ⟨_, rfl, rfl, rfl, fun r2 M2 nx2 p2 => ?_⟩
    rcases p2 with ⟨-, rfl, rfl, rfl⟩ | ⟨e, he, rfl, -⟩
    · exact ⟨rfl, h.z0⟩
    · exact absurd (a_in he (by omega)) a1
  · have key : ∀ x, r = some (.int x) → M' = mm ci cl cr dy → nx = nx' → (ci 67 e = 0 → x = -11) → (¬ ci 67 e = 0 → ¬ ci 67 e ≤ 1 → x = -12) → (¬ ci 67 e = 0 → ci 67 e ≤ 1 → x = ci 69 e) → ∃ v, r = some (.int v) ∧ M' = mm ci cl cr dy ∧ nx = nx' ∧ HF v (p2_weight (nI e) ci cl cr dy nx) := by
      intro x g1 g2 g3 x0 x1 x2
      refine ⟨x, g1, g2, g3, fun r2 M2 nx2 p2 => ?_⟩
      rcases p2 with ⟨b1, -⟩ | ⟨e', he', ee, b⟩
      · exact absurd (a_in he (by omega)) b1
      · cases k_eq ee (by omega) (by omega)
        rw [k67, k69] at b
        rcases b with ⟨b1, rfl, rfl, rfl⟩ | ⟨b1, b2, rfl, rfl, rfl⟩ | ⟨b1, b2, rfl, rfl, rfl⟩
        · exact ⟨by rw [x0 b1], h.z0⟩
        · exact ⟨by rw [x1 b1 b2], h.z0⟩
        · exact ⟨by rw [x2 b1 b2], h.z0⟩
    rcases a with ⟨a1, g1, g2, g3⟩ | ⟨k, c, nu, a, s, a1, a2, g1, g2, g3⟩ | ⟨k, q, w, v, f, a1, a2, a3, g1, g2, g3⟩
    · have e0 := (hs e he).n a1
      exact key _ g1 g2 g3 (fun _ => rfl) (fun z => absurd e0 z) (fun z => absurd e0 z)
    · obtain ⟨e1, e2, -⟩ := (hs e he).a a1 a2
      refine key _ g1 g2 g3 (fun z => ?_) (fun _ z => ?_) (fun _ _ => e2.symm)
      · rw [e1] at z; exact absurd z (by decide)
      · rw [e1] at z; exact absurd (by decide) z
    · obtain ⟨e1, e2, -⟩ := (hs e he).r a1 a2
      refine key _ g1 g2 g3 (fun z => ?_) (fun _ _ => rfl) (fun _ z => ?_)
      · rw [e1] at z; rcases e2 with rfl | rfl <;> exact absurd z (by decide)
      · rw [e1] at z; rcases e2 with rfl | rfl <;> exact absurd z (by decide)
theorem sf_fl {c : aI} {a : Nat} : sfF c a = if flF (c 44 a) = 0 then -15 else flF (c 44 a) := by
  unfold sfF flF
  repeat' split
  all_goals first | rfl | (rename_i z; exact absurd z (by decide)) | simp_all
theorem A_toss (h : INV ci cl cr dy nx n) {d : Int32} (p : p1_toss d ci cl cr dy nx r M' nx') : ∃ v, r = some (.int v) ∧ M' = mm ci cl cr dy ∧ nx ≤ nx' ∧ HF v (p2_toss d ci cl cr dy nx') := by
  have hs := h.2.2.2.2.1.1
  have k67 : up2 ci 43 0 0 67 = ci 67 := up2_k _ _ _ (by decide)
  have k70 : up2 ci 43 0 0 70 = ci 70 := up2_k _ _ _ (by decide)
  rcases p with ⟨a1, rfl, rfl, hx⟩ | ⟨e, he, rfl, a⟩
  · refine ⟨_, rfl, rfl, hx, fun r2 M2 nx2 p2 => ?_⟩
    rcases p2 with ⟨-, rfl, rfl, rfl⟩ | ⟨e, he, rfl, -⟩
    · exact ⟨rfl, (h.mv EI.rf EL.rf hx).z0⟩
    · exact absurd (a_in he (by omega)) a1
  · have key : ∀ x, r = some (.int x) → M' = mm ci cl cr dy → nx ≤ nx' → (ci 67 e = 0 → x = -11) → (¬ ci 67 e = 0 → ¬ ci 67 e ≤ 1 → x = -12) → (¬ ci 67 e = 0 → ci 67 e ≤ 1 → x = ci 70 e) → ∃ v, r = some (.int v) ∧ M' = mm ci cl cr dy ∧ nx ≤ nx' ∧ HF v (p2_toss (nI e) ci cl cr dy nx') := by
      intro x g1 g2 g3 x0 x1 x2
      have h1 := h.mv EI.rf EL.rf g3
      refine ⟨x, g1, g2, g3, fun r2 M2 nx2 p2 => ?_⟩
      rcases p2 with ⟨b1, -⟩ | ⟨e', he', ee, b⟩
      · exact absurd (a_in he (by omega)) b1
      · cases k_eq ee (by omega) (by omega)
        rw [k67, k70] at b
        rcases b with ⟨b1, rfl, rfl, rfl⟩ | ⟨b1, b2, rfl, rfl, rfl⟩ | ⟨b1, b2, rfl, rfl, rfl⟩
        · exact ⟨by rw [x0 b1], h1.z0⟩
        · exact ⟨by rw [x1 b1 b2], h1.z0⟩
        · exact ⟨by rw [x2 b1 b2], h1.z0⟩
    rcases a with ⟨a1, g1, g2, g3⟩ | ⟨k, c, nu, a, s, a1, a2, g1, g2, g3⟩ | ⟨k, q, w, v, f, a1, a2, a3, g1, g2, g3⟩
    · have e0 := (hs e he).n a1
      exact key _ g1 g2 g3 (fun _ => rfl) (fun z => absurd e0 z) (fun z => absurd e0 z)
    · obtain ⟨e1, -, e2⟩ := (hs e he).a a1 a2
      refine key _ g1 g2 g3 (fun z => ?_) (fun _ z => ?_) (fun _ _ => by rw [e2]; exact sf_fl.symm)
      · rw [e1] at z; exact absurd z (by decide)
      · rw [e1] at z; exact absurd (by decide) z
    · obtain ⟨e1, e2, -⟩ := (hs e he).r a1 a2
      refine key _ g1 g2 g3 (fun z => ?_) (fun _ _ => rfl) (fun _ z => ?_)
      · rw [e1] at z; rcases e2 with rfl | rfl <;> exact absurd z (by decide)
      · rw [e1] at z; rcases e2 with rfl | rfl <;> exact absurd z (by decide)
theorem rwC_at (l : aL) (b : Nat) (f : Nat → Int64) : ∀ m j, j < m → rwC l b f m 71 (b + j) = f j
  | 0, j, h => by omega
  | m + 1, j, h => by
    show up2 (rwC l b f m) 71 (b + m) (f m) 71 (b + j) = f j
    by_cases e : j = m
    · subst e; rw [up2_s]
    · rw [up2_j _ _ _ (by omega)]; exact rwC_at l b f m j (by omega)
theorem rwC_out (l : aL) (b : Nat) (f : Nat → Int64) : ∀ m j, (j < b ∨ b + m ≤ j) → rwC l b f m 71 j = l 71 j
  | 0, j, _ => rfl
  | m + 1, j, h => by
    show up2 (rwC l b f m) 71 (b + m) (f m) 71 j = _
    rw [up2_j _ _ _ (by omega)]; exact rwC_out l b f m j (by omega)
theorem EL6.rw {l : aL} {b m : Nat} {f : Nat → Int64} : EL6 l (rwC l b f m) := fun k h1 _ _ _ => rwC_k l b f (by omega) m
/-- a new ROW at SHELF e -/
theorem INV_row (h : INV ci cl cr dy nx n) {dy' : aM} (hE : EX dy nx dy' nx') {e k q v : Nat} {w : Int32} {f g : Nat → Int64} (he : e < 8) (hk : nx ≤ k) (hq : nx ≤ q) (hR : RW dy' k q w v f) (hw : w = 3 ∨ w = 4) (hv : v ≤ 60) (hf : ∀ j, j < v → f j = g j) : INV (up2 (up2 (up2 ci 43 0 0) 67 e w) 68 e (nI v)) (rwC cl (60 * e) g v) (up2 cr 42 e (some k)) dy' nx' n := by
  have hD := h.2.2.2.2.2.1
  have hS := h.2.2.2.2.1
  refine h.mvS hE ⟨fun k h1 h2 _ _ => ?_, fun j hj => ?_⟩ EL6.rw (fun k hk => up2_k _ _ _ hk) (iS_set (e := e) (hS.ex hD hE) (fun g hg => ?_) (fun g hg => ?_) (fun g hg => ?_) (fun g hg => ?_) (fun g' hg hne j hj => ?_) (fun g hg => up2_j _ _ _ hg) (Or.inr (Or.inr ?_)) ⟨v, hv, up2_s _ _ _ _⟩ (fun g' k1 k2 q1 q2 w1 w2 hg hne c1 c2 d1 d2 => ?_))
  · rw [up2_k _ _ _ (by omega), up2_k _ _ _ (by omega), up2_k _ _ _ h2]
  · rw [up2_k _ _ _ (by decide), up2_k _ _ _ (by decide), up2_j _ _ _ hj]
  · rw [up2_k _ _ _ (by decide), up2_j _ _ _ hg, up2_k _ _ _ (by decide)]
  · rw [up2_j _ _ _ hg, up2_k _ _ _ (by decide), up2_k _ _ _ (by decide)]
  · rw [up2_k _ _ _ (by decide), up2_k _ _ _ (by decide), up2_k _ _ _ (by decide)]
  · rw [up2_k _ _ _ (by decide), up2_k _ _ _ (by decide), up2_k _ _ _ (by decide)]
  · exact rwC_out cl _ g v _ (by omega)
  · have e67 : up2 (up2 (up2 ci 43 0 0) 67 e w) 68 e (nI v) 67 e = w := by rw [up2_k _ _ _ (by decide), up2_s]
    rw [e67]
    exact ⟨hw, k, q, v, f, up2_s _ _ _ _, hR, hv, up2_s _ _ _ _, fun j hj => by rw [rwC_at cl _ g v j hj]; exact hf j hj⟩
  · rw [up2_s] at c1
    cases c1
    have l2 := ((hS.1 g' hg).x.lt hD c2).1
    rw [hE.2.1 k2 l2] at d2
    obtain ⟨-, -, r1, -⟩ := hR
    rw [r1] at d1
    injection d1 with d1
    injection d1 with d1
    injection d1 with d1 d3
    injection d3 with d3 d4
    injection d4 with d4
    injection d4 with d4
    subst d4
    intro z
    subst z
    rcases hS.1 g' hg with ⟨-, y⟩ | ⟨-, k3, c, nu, a, s, y, y2, -⟩ | ⟨-, k3, q3, v3, f3, y, y2, -⟩
    · rw [c2] at y; cases y
    · cases y.symm.trans c2
      have z := y2.2.2.1.symm.trans d2
      injection z with z
      injection z with z
      injection z with z
      cases z
    · cases y.symm.trans c2
      have z := y2.2.2.1.symm.trans d2
      injection z with z
      injection z with z
      injection z with z z2
      injection z2 with z2 z3
      injection z3 with z3
      injection z3 with z3
      subst z3
      have := hD.lt y2.2.2.2
      omega
theorem A_make (h : INV ci cl cr dy nx n) {d m x : Int32} (p : p1_make d m x ci cl cr dy nx r M' nx') : ∃ v r1 d1, r = some (.int v) ∧ M' = mm ci cl r1 d1 ∧ HF v (p2_make d m x ci cl r1 d1 nx') := by
  rcases p with ⟨a1, rfl, rfl, rfl⟩ | ⟨a1, a2, rfl, rfl, rfl⟩ | ⟨hm, e, j, he, hj, rfl, rfl, k, q, f, dy', hE, hk, hq, hR, hf, rfl, rfl⟩
  · refine ⟨_, _, _, rfl, rfl, fun r2 M2 nx2 p2 => ?_⟩
    rcases p2 with ⟨-, rfl, rfl, rfl⟩ | ⟨b1, -⟩
    · exact ⟨rfl, h.z0⟩
    · exact absurd b1 a1
  · refine ⟨_, _, _, rfl, rfl, fun r2 M2 nx2 p2 => ?_⟩
    rcases p2 with ⟨b1, -⟩ | ⟨-, ⟨-, rfl, rfl, rfl⟩ | ⟨e, j, he, hj, -, rfl, -⟩⟩
    · exact absurd a1 b1
    · exact ⟨rfl, h.z0⟩
    · exact absurd (nI_nn (by omega)) a2
  · refine ⟨_, _, _, rfl, rfl, fun r2 M2 nx2 p2 => ?_⟩
    rcases p2 with ⟨b1, -⟩ | ⟨-, ⟨b2, -⟩ | ⟨e', j', he', hj', ee, ej, rfl, rfl, rfl⟩⟩
    · exact absurd ⟨a_in he (by omega), hm, nI_le (b := 60) hj (by omega)⟩ b1
    · exact absurd (nI_nn (by omega)) b2
    · cases k_eq ee (by omega) (by omega)
      cases k_eq ej (by omega) (by omega)
      obtain ⟨m', m3, m4, rfl⟩ := II.k hm
      have hw : nI m' = 3 ∨ nI m' = 4 := by
        rcases (by omega : m' = 3 ∨ m' = 4) with z | z <;> subst z
        · exact Or.inl rfl
        · exact Or.inr rfl
      exact ⟨rfl, NXT.i (INV_row h hE he hk hq hR hw hj hf)⟩
end
