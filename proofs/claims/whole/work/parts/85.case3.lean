/-! keep and copy -/
section
variable {ci : aI} {cl : aL} {cr : Nat → Nat → Option Nat} {dy : aM} {nx n nx' : Nat} {r : Option Value} {M' : aM}
theorem INV_none (h : INV ci cl cr dy nx n) {e : Nat} (he : e < 8) : INV (up2 (up2 (up2 ci 43 0 0) 67 e 0) 68 e 0) cl (up2 cr 42 e none) dy nx n := by
  refine h.mvS (EX.rf h.2.2.2.2.2.1) ⟨fun k h1 h2 _ _ => ?_, fun j hj => ?_⟩ (fun _ _ _ _ _ => rfl) (fun k hk => up2_k _ _ _ hk) (iS_set (e := e) h.2.2.2.2.1 (fun g hg => ?_) (fun g hg => ?_) (fun g hg => ?_) (fun g hg => ?_) (fun g' hg hne j hj => rfl) (fun g hg => up2_j _ _ _ hg) (Or.inl ⟨?_, up2_s _ _ _ _⟩) ⟨0, by omega, up2_s _ _ _ _⟩ (fun g' k1 k2 q1 q2 w1 w2 hg hne c1 c2 d1 d2 => ?_))
  · rw [up2_k _ _ _ (by omega), up2_k _ _ _ (by omega), up2_k _ _ _ h2]
  · rw [up2_k _ _ _ (by decide), up2_k _ _ _ (by decide), up2_j _ _ _ hj]
  · rw [up2_k _ _ _ (by decide), up2_j _ _ _ hg, up2_k _ _ _ (by decide)]
  · rw [up2_j _ _ _ hg, up2_k _ _ _ (by decide), up2_k _ _ _ (by decide)]
  · rw [up2_k _ _ _ (by decide), up2_k _ _ _ (by decide), up2_k _ _ _ (by decide)]
  · rw [up2_k _ _ _ (by decide), up2_k _ _ _ (by decide), up2_k _ _ _ (by decide)]
  · rw [up2_k _ _ _ (by decide), up2_s]
  · rw [up2_s] at c1; cases c1
theorem INV_act (h : INV ci cl cr dy nx n) {e k a s : Nat} {c : aI} {nu : Nat → Int64} (he : e < 8) (hA : AT c nu dy a k s) : INV (up2 (up2 (up2 (up2 (up2 ci 43 0 0) 67 e 1) 68 e 0) 69 e (wtF c a)) 70 e (sfF c a)) cl (up2 cr 42 e (some k)) dy nx n := by
  refine h.mvS (EX.rf h.2.2.2.2.2.1) ⟨fun k h1 h2 _ _ => ?_, fun j hj => ?_⟩ (fun _ _ _ _ _ => rfl) (fun k hk => up2_k _ _ _ hk) (iS_set (e := e) h.2.2.2.2.1 (fun g hg => ?_) (fun g hg => ?_) (fun g hg => ?_) (fun g hg => ?_) (fun g' hg hne j hj => rfl) (fun g hg => up2_j _ _ _ hg) (Or.inr (Or.inl ⟨?_, k, c, nu, a, s, up2_s _ _ _ _, hA, ?_, up2_s _ _ _ _⟩)) ⟨0, by omega, ?_⟩ (fun g' k1 k2 q1 q2 w1 w2 hg hne c1 c2 d1 d2 => ?_))
  · rw [up2_k _ _ _ (by omega), up2_k _ _ _ (by omega), up2_k _ _ _ (by omega), up2_k _ _ _ (by omega), up2_k _ _ _ h2]
  · rw [up2_k _ _ _ (by decide), up2_k _ _ _ (by decide), up2_k _ _ _ (by decide), up2_k _ _ _ (by decide), up2_j _ _ _ hj]
  · rw [up2_k _ _ _ (by decide), up2_k _ _ _ (by decide), up2_k _ _ _ (by decide), up2_j _ _ _ hg, up2_k _ _ _ (by decide)]
  · rw [up2_k _ _ _ (by decide), up2_k _ _ _ (by decide), up2_j _ _ _ hg, up2_k _ _ _ (by decide), up2_k _ _ _ (by decide)]
  · rw [up2_k _ _ _ (by decide), up2_j _ _ _ hg, up2_k _ _ _ (by decide), up2_k _ _ _ (by decide), up2_k _ _ _ (by decide)]
  · rw [up2_j _ _ _ hg, up2_k _ _ _ (by decide), up2_k _ _ _ (by decide), up2_k _ _ _ (by decide), up2_k _ _ _ (by decide)]
  · rw [up2_k _ _ _ (by decide), up2_k _ _ _ (by decide), up2_k _ _ _ (by decide), up2_s]
  · rw [up2_k _ _ _ (by decide), up2_s]
  · rw [up2_k _ _ _ (by decide), up2_k _ _ _ (by decide), up2_s]; rfl
  · rw [up2_s] at c1
    cases c1
    have z := hA.2.2.1.symm.trans d1
    injection z with z
    injection z with z
    injection z with z
    cases z
theorem A_keep (h : INV ci cl cr dy nx n) {d m x : Int32} (p : p1_keep (up2 ci 43 0 0) (cl 48) n d m x ci cl cr dy nx r M' nx') : ∃ v r1 d1, r = some (.int v) ∧ M' = mm ci cl r1 d1 ∧ HF v (p2_keep d m x n ci cl r1 d1 nx') := by
  have h6 := h.n6
  have e13 : up2 ci 43 0 0 43 13 = ci 1 7 := (up2_j _ _ _ (by decide)).trans h.2.2.1.1.symm
  rcases p with ⟨a1, rfl, rfl, rfl⟩ | ⟨e, he, rfl, ⟨rfl, rfl, rfl, rfl⟩ | ⟨rfl, ⟨a1, rfl, rfl, rfl⟩ | ⟨a, k, s, ha, rfl, hA, rfl, rfl, rfl⟩⟩ | ⟨rfl, ⟨a1, rfl, rfl, rfl⟩ | ⟨a1, k, q, f, dy', hE, hk, hq, hR, hf, rfl, rfl⟩⟩ | ⟨rfl, k, q, f, dy', hE, hk, hq, hR, hf, rfl, rfl⟩ | ⟨m0, m1, m3, m4, rfl, rfl, rfl⟩⟩
  · refine ⟨_, _, _, rfl, rfl, fun r2 M2 nx2 p2 => ?_⟩
    rcases p2 with ⟨-, rfl, rfl, rfl⟩ | ⟨b1, -⟩ | ⟨e, he, rfl, -⟩
    · exact ⟨rfl, h.z0⟩
    · exact absurd b1 a1
    · exact absurd (a_in he (by omega)) a1
  · refine ⟨_, _, _, rfl, rfl, fun r2 M2 nx2 p2 => ?_⟩
    rcases p2 with ⟨b1, -⟩ | ⟨-, b1, -⟩ | ⟨e', he', ee, ⟨-, rfl, rfl, rfl⟩ | ⟨b1, -⟩ | ⟨b1, -⟩ | ⟨b1, -⟩⟩
    · exact absurd ⟨a_in he (by omega), Or.inl rfl⟩ b1
    · exact absurd b1 (by decide)
    · have e2 := k_eq ee (by omega) (by omega)
      subst e2
      exact ⟨rfl, NXT.i (INV_none h he)⟩
    · exact absurd b1 (by decide)
    · exact absurd b1 (by decide)
    · exact absurd b1 (by decide)
  · refine ⟨_, _, _, rfl, rfl, fun r2 M2 nx2 p2 => ?_⟩
    rcases p2 with ⟨-, rfl, rfl, rfl⟩ | ⟨-, b1, -⟩ | ⟨e', he', ee, ⟨b1, -⟩ | ⟨-, a, ha, rfl, -⟩ | ⟨b1, -⟩ | ⟨b1, -⟩⟩
    · exact ⟨rfl, h.z0⟩
    · exact absurd b1 (by decide)
    · exact absurd b1 (by decide)
    · exact absurd (a_in ha (by omega)) a1
    · exact absurd b1 (by decide)
    · exact absurd b1 (by decide)
  · refine ⟨_, _, _, rfl, rfl, fun r2 M2 nx2 p2 => ?_⟩
    rcases p2 with ⟨b1, -⟩ | ⟨-, b1, -⟩ | ⟨e', he', ee, ⟨b1, -⟩ | ⟨-, a', ha', ea, rfl, rfl, rfl⟩ | ⟨b1, -⟩ | ⟨b1, -⟩⟩
    · exact absurd ⟨a_in he (by omega), Or.inr (Or.inl ⟨rfl, a_in ha (by omega)⟩)⟩ b1
    · exact absurd b1 (by decide)
    · exact absurd b1 (by decide)
    · have e2 := k_eq ee (by omega) (by omega)
      have a2 := k_eq ea (by omega) (by omega)
      subst e2
      subst a2
      exact ⟨rfl, NXT.i (INV_act h he hA)⟩
    · exact absurd b1 (by decide)
    · exact absurd b1 (by decide)
  · refine ⟨_, _, _, rfl, rfl, fun r2 M2 nx2 p2 => ?_⟩
    rcases p2 with ⟨b1, -⟩ | ⟨-, -, -, rfl, rfl, rfl⟩ | ⟨e', he', ee, ⟨b1, -⟩ | ⟨b1, -⟩ | ⟨-, b1, -⟩ | ⟨b1, -⟩⟩
    · exact absurd ⟨a_in he (by omega), Or.inr (Or.inr (Or.inl rfl))⟩ b1
    · exact ⟨rfl, h.z0⟩
    · exact absurd b1 (by decide)
    · exact absurd b1 (by decide)
    · exact absurd (e13.trans a1) b1
    · exact absurd b1 (by decide)
  · refine ⟨_, _, _, rfl, rfl, fun r2 M2 nx2 p2 => ?_⟩
    rcases p2 with ⟨b1, -⟩ | ⟨-, -, b1, -⟩ | ⟨e', he', ee, ⟨b1, -⟩ | ⟨b1, -⟩ | ⟨-, b1, rfl, rfl, rfl⟩ | ⟨b1, -⟩⟩
    · exact absurd ⟨a_in he (by omega), Or.inr (Or.inr (Or.inl rfl))⟩ b1
    · exact absurd (e13.symm.trans b1) a1
    · exact absurd b1 (by decide)
    · exact absurd b1 (by decide)
    · have e2 := k_eq ee (by omega) (by omega)
      subst e2
      obtain ⟨T, -, p2, -⟩ := h.2.2.2.1 (fun z => a1 (h.2.2.1.1.trans z))
      exact ⟨rfl, NXT.i (INV_row h hE he hk hq hR (Or.inl rfl) (by omega) (fun j hj => by rw [hf j hj, (p2 j hj).1, up2_k _ _ _ (by decide)]))⟩
    · exact absurd b1 (by decide)
  · refine ⟨_, _, _, rfl, rfl, fun r2 M2 nx2 p2 => ?_⟩
    rcases p2 with ⟨b1, -⟩ | ⟨-, b1, -⟩ | ⟨e', he', ee, ⟨b1, -⟩ | ⟨b1, -⟩ | ⟨b1, -⟩ | ⟨-, rfl, rfl, rfl⟩⟩
    · exact absurd ⟨a_in he (by omega), Or.inr (Or.inr (Or.inr rfl))⟩ b1
    · exact absurd b1 (by decide)
    · exact absurd b1 (by decide)
    · exact absurd b1 (by decide)
    · exact absurd b1 (by decide)
    · have e2 := k_eq ee (by omega) (by omega)
      subst e2
      exact ⟨rfl, NXT.i (INV_row (v := 16) h hE he hk hq hR (Or.inr rfl) (by omega) (fun j hj => by rw [hf j hj]; exact h.2.1.2.2.2.2.1 j hj))⟩
  · refine ⟨_, _, _, rfl, rfl, fun r2 M2 nx2 p2 => ?_⟩
    rcases p2 with ⟨-, rfl, rfl, rfl⟩ | ⟨-, b1, -⟩ | ⟨e', he', ee, ⟨b1, -⟩ | ⟨b1, -⟩ | ⟨b1, -⟩ | ⟨b1, -⟩⟩
    · exact ⟨rfl, h.z0⟩
    · exact absurd b1 m3
    · exact absurd b1 m0
    · exact absurd b1 m1
    · exact absurd b1 m3
    · exact absurd b1 m4
theorem rc_hp {c : aI} {v e : Nat} {i m : Int32} (hv : v ≤ 60) (h68 : c 68 e = nI v) : RC v i m ↔ HP c e i m := by
  unfold RC HP
  have e0 : (0 : Int32).toInt = 0 := rfl
  have i1 := Int32.toInt_lt i
  have i2 := Int32.le_toInt i
  have m1 := Int32.toInt_lt m
  have m2 := Int32.le_toInt m
  have ev : (nI v).toInt = (v : Int) := nI_toInt (by omega)
  have es : (i.toInt64 + m.toInt64).toInt = i.toInt + m.toInt := by
    rw [Int64.toInt_add, Int32.toInt_toInt64, Int32.toInt_toInt64]
    exact Int.bmod_eq_of_le (by omega) (by omega)
  rw [h68, Int64.lt_iff_toInt_lt, Int32.lt_iff_toInt_lt, Int32.lt_iff_toInt_lt, Int32.lt_iff_toInt_lt, Int32.lt_iff_toInt_lt, es, Int32.toInt_toInt64, ev, e0]
  by_cases hi : i.toInt < 0
  · exact ⟨fun z => absurd hi z.1, fun z => absurd hi z.2.1⟩
  · by_cases hiv : (v : Int) < i.toInt
    · by_cases hm : m.toInt < 0
      · exact ⟨fun z => absurd hm z.2.1, fun z => absurd hm z.1⟩
      · exact ⟨fun z => absurd (by omega) z.2.2, fun z => absurd hiv z.2.2.1⟩
    · have ed : (nI v - i).toInt = (v : Int) - i.toInt := by
        rw [Int32.toInt_sub, ev]
        exact Int.bmod_eq_of_le (by omega) (by omega)
      rw [ed]
      constructor
      · rintro ⟨z1, z2, z3⟩; exact ⟨z2, z1, hiv, by omega⟩
      · rintro ⟨z1, z2, z3, z4⟩; exact ⟨z2, z1, by omega⟩
theorem bwC_at (l : aL) (b : Nat) : ∀ m i, i < m → bwC l b m 72 i = l 71 (b + i)
  | 0, i, h => by omega
  | m + 1, i, h => by
    show up2 (bwC l b m) 72 m (bwC l b m 71 (b + m)) 72 i = _
    by_cases e : i = m
    · subst e; rw [up2_s, bwC_k l b (by decide)]
    · rw [up2_j _ _ _ e]; exact bwC_at l b m i (by omega)
theorem AT.up {c : aI} {nu : Nat → Int64} {a k s q : Nat} {x : vp_A} {t : Nat} {Y : Option aE} (h : AT c nu dy a k s) (hq : dy q = some (.inl (t, x))) : AT c nu (va_up dy q Y) a k s := by
  obtain ⟨h1, h2, h3, h4⟩ := h
  have n1 : ¬ k = q := fun z => by
    subst z
    have y := h3.symm.trans hq
    injection y with y
    cases y
  have n2 : ¬ s = q := fun z => by
    subst z
    have y := h4.symm.trans hq
    injection y with y
    cases y
  exact ⟨h1, h2, by rw [va_up_ne _ _ n1]; exact h3, by rw [va_up_ne _ _ n2]; exact h4⟩
/-- numbers are copied into the ROW at SHELF g -/
theorem INV_cpy (h : INV ci cl cr dy nx n) {g k q v : Nat} {w : Int32} {f F : Nat → Int64} {l2 : aL} (hg : g < 8) (hk : cr 42 g = some k) (hR : RW dy k q w v f) (hl : EL6 cl l2) (h1 : ∀ j, j < v → F j = l2 71 (60 * g + j)) (h2 : ∀ e, e < 8 → ¬ e = g → ∀ j, j < 60 → l2 71 (60 * e + j) = cl 71 (60 * e + j)) : INV (up2 ci 43 0 0) l2 cr (va_up dy q (some (.inl (1, v, .inr (.inl F))))) nx n := by
  have hD := h.2.2.2.2.2.1
  have hS := h.2.2.2.2.1
  have hqc := hR.2.2.2
  have hql := hD.lt hqc
  have hi : EI6 ci (up2 ci 43 0 0) := (EI.z (v := 0)).six
  have h48 := hl 48 (by decide) (by decide) (by decide) (by decide)
  have hkk : ∀ k, k < 67 → ¬ k = 43 → ¬ k = 9 → ¬ k = 64 → up2 ci 43 0 0 k = ci k := hi.1
  obtain ⟨a1, a2, a3, a4, a5, a6, a7⟩ := h
  have b1 := a1.mv (ci' := up2 ci 43 0 0) (cl' := l2) hi.sm (hkk 2 (by decide) (by decide) (by decide) (by decide)) (hkk 5 (by decide) (by decide) (by decide) (by decide)) (hkk 6 (by decide) (by decide) (by decide) (by decide)) (hkk 7 (by decide) (by decide) (by decide) (by decide)) (hi.2 1 (by decide)) h48
  have row : ∀ {k' : Nat} {y : List Value}, dy k' = some (.inr (6, y)) → va_up dy q (some (.inl (1, v, .inr (.inl F)))) k' = some (.inr (6, y)) := fun {k' y} z => by
    rw [va_up_ne _ _ (fun y => by
      subst y
      have y := z.symm.trans hqc
      injection y with y
      cases y)]
    exact z
  have rowb : ∀ {k' : Nat} {y : List Value}, va_up dy q (some (.inl (1, v, .inr (.inl F)))) k' = some (.inr (6, y)) → dy k' = some (.inr (6, y)) := fun {k' y} z => by
    by_cases e : k' = q
    · subst e
      rw [va_up_self] at z
      injection z with z
      cases z
    · rw [va_up_ne _ _ e] at z; exact z
  refine ⟨?_, a2.mv hi hl, a3.mv (hkk 1 (by decide) (by decide) (by decide) (by decide)) (hkk 18 (by decide) (by decide) (by decide) (by decide)) (fun j h1 _ => hi.2 j (by omega)), a4.mv hi.LK hi.RK (hi.2 13 (by decide)) (fun k h1 h2 => hkk k (by omega) (by omega) (by omega) (by omega)) h48, ⟨fun e he => ?_, fun e he => ?_, fun e g' k1 k2 q1 q2 w1 w2 he hg' hne c1 c2 d1 d2 => ?_⟩, fun z hz => ?_, a7⟩
  · obtain ⟨⟨c1, c2⟩, c3⟩ := b1
    refine ⟨⟨fun a ha => ?_, c2⟩, c3⟩
    obtain ⟨k1, s1, d1, d2⟩ := c1 a ha
    exact ⟨k1, s1, d1, d2.up hqc⟩
  · have e67 : up2 ci 43 0 0 67 = ci 67 := up2_k _ _ _ (by decide)
    have e68 : up2 ci 43 0 0 68 = ci 68 := up2_k _ _ _ (by decide)
    have e69 : up2 ci 43 0 0 69 = ci 69 := up2_k _ _ _ (by decide)
    have e70 : up2 ci 43 0 0 70 = ci 70 := up2_k _ _ _ (by decide)
    unfold SHF
    rw [e67, e68, e69, e70]
    rcases hS.1 e he with c | ⟨c0, k1, c, nu, a, s, c1, c2, c3, c4⟩ | ⟨c0, k1, q1, v1, f1, c1, c2, c3, c4, c5⟩
    · exact Or.inl c
    · exact Or.inr (Or.inl ⟨c0, k1, c, nu, a, s, c1, c2.up hqc, c3, c4⟩)
    · by_cases z : e = g
      · subst z
        cases hk.symm.trans c1
        obtain ⟨u1, u2, u3, u4⟩ := hR.u c2
        subst u2
        subst u3
        exact Or.inr (Or.inr ⟨c0, k, q, v, F, hk, ⟨c2.1, c2.2.1, row c2.2.2.1, va_up_self _ _ _⟩, c3, c4, h1⟩)
      · have nq : ¬ q1 = q := hS.2.2 e g k1 k q1 q _ _ he hg z c1 hk c2.2.2.1 hR.2.2.1
        exact Or.inr (Or.inr ⟨c0, k1, q1, v1, f1, c1, ⟨c2.1, c2.2.1, row c2.2.2.1, by rw [va_up_ne _ _ nq]; exact c2.2.2.2⟩, c3, c4, fun j hj => by rw [h2 e he z j (by omega)]; exact c5 j hj⟩)
  · rw [up2_k _ _ _ (by decide)]; exact hS.2.1 e he
  · exact hS.2.2 e g' k1 k2 q1 q2 w1 w2 he hg' hne c1 c2 (rowb d1) (rowb d2)
  · rw [va_up_ne _ _ (by omega)]; exact hD z hz
theorem SHF.nn {e : Nat} (h : SHF ci cl cr dy e) (hk : ¬ cr 42 e = none) : ¬ ci 67 e = 0 := by
  rcases h with ⟨-, h⟩ | ⟨h, -⟩ | ⟨h, -⟩
  · exact absurd h hk
  · rw [h]; decide
  · rcases h with h | h <;> (rw [h]; decide)
theorem hp_y {c : aI} {e a b v : Nat} (hv : v ≤ 60) (h68 : c 68 e = nI v) (h : a + b ≤ v) : HP c e (nI a) (nI b) := by
  refine ⟨nI_nneg (by omega), nI_nneg (by omega), ?_, ?_⟩
  · rw [h68]; exact Int32.not_lt.mpr (nI_le (by omega) (by omega))
  · rw [h68, nx_sub (by omega)]; exact Int32.not_lt.mpr (nI_le (by omega) (by omega))
theorem A_copy (h : INV ci cl cr dy nx n) {d i u j m : Int32} (p : p1_copy d i u j m ci cl cr dy nx r M' nx') : ∃ v d1, r = some (.int v) ∧ M' = mm ci cl cr d1 ∧ nx = nx' ∧ HF v (p2_copy d i u j m ci cl cr d1 nx) := by
  have hs := h.2.2.2.2.1.1
  have e67 : up2 ci 43 0 0 67 = ci 67 := up2_k _ _ _ (by decide)
  have e68 : up2 ci 43 0 0 68 = ci 68 := up2_k _ _ _ (by decide)
  have w3 : ∀ w : Int32, w = 3 ∨ w = 4 → ¬ w = 0 ∧ ¬ w < 3 := by
    intro w hw
    rcases hw with rfl | rfl <;> exact ⟨by decide, by decide⟩
  rcases p with ⟨a1, rfl, rfl, rfl⟩ | ⟨e, g, he, hg, rfl, rfl, p⟩
  · refine ⟨_, _, rfl, rfl, rfl, fun r2 M2 nx2 p2 => ?_⟩
    rcases p2 with ⟨-, rfl, rfl, rfl⟩ | ⟨e, f, he, hf, rfl, rfl, -⟩
    · exact ⟨rfl, h.z0⟩
    · exact absurd ⟨a_in he (by omega), a_in hf (by omega)⟩ a1
  · have key : ∀ {P : Prop} {r2 : Option Value} {M2 : aM} {nx2 : Nat} {dd : aM}, p2_copy (nI e) i (nI g) j m ci cl cr dd nx r2 M2 nx2 → ((ci 67 e = 0 ∨ ci 67 g = 0) → r2 = some (.int (-11)) → M2 = mm (up2 ci 43 0 0) cl cr dd → nx = nx2 → P) → (¬ (ci 67 e = 0 ∨ ci 67 g = 0) → (ci 67 e < 3 ∨ ¬ ci 67 e = ci 67 g) → r2 = some (.int (-12)) → M2 = mm (up2 ci 43 0 0) cl cr dd → nx = nx2 → P) → (¬ (ci 67 e < 3 ∨ ¬ ci 67 e = ci 67 g) → ¬ (HP (up2 ci 43 0 0) e i m ∧ HP (up2 ci 43 0 0) g j m) → r2 = some (.int (-13)) → M2 = mm (up2 ci 43 0 0) cl cr dd → nx = nx2 → P) → (∀ a c b v y, ¬ (ci 67 e < 3 ∨ ¬ ci 67 e = ci 67 g) → HP (up2 ci 43 0 0) e i m → HP (up2 ci 43 0 0) g j m → v ≤ 60 → y ≤ 60 → ci 68 e = nI v → ci 68 g = nI y → a + b ≤ v → c + b ≤ y → i = nI a → j = nI c → m = nI b → r2 = some (.int (nI b)) → M2 = mm (up2 ci 43 0 0) (rwC (bwC cl (60 * e + a) b) (60 * g + c) (fun i => (bwC cl (60 * e + a) b) 72 i) b) cr dd → nx = nx2 → P) → P := by
      intro P r2 M2 nx2 dd p2 x1 x2 x3 x4
      rcases p2 with ⟨b1, -⟩ | ⟨e', g', he', hg', ee, eg, b⟩
      · exact absurd ⟨a_in he (by omega), a_in hg (by omega)⟩ b1
      · have z1 := k_eq ee (by omega) (by omega)
        have z2 := k_eq eg (by omega) (by omega)
        subst z1
        subst z2
        rw [e67] at b
        rcases b with ⟨b1, b2, b3, b4⟩ | ⟨b1, ⟨b2, b3, b4, b5⟩ | ⟨b2, ⟨b3, b4, b5, b6⟩ | ⟨b3, b4, a, c, b, v, y, v6, y6, c1, c2, c3, c4, c5, c6, c7, c8, c9, c10⟩⟩⟩
        · exact x1 b1 b2 b3 b4
        · exact x2 b1 b2 b3 b4 b5
        · exact x3 b2 b3 b4 b5 b6
        · rw [e68] at c1 c2
          exact x4 a c b v y b2 b3 b4 v6 y6 c1 c2 c3 c4 c5 c6 c7 c8 c9 c10
    rcases p with ⟨a1, rfl, rfl, rfl⟩ | ⟨a1, rfl, rfl, rfl⟩ | ⟨k, q, w, v, f, k2, q2, v2, f2, c1, c2, c3, c4, c5, c6, a⟩
    · have z : ci 67 e = 0 ∨ ci 67 g = 0 := a1.imp (hs e he).n (hs g hg).n
      have z2 : ci 67 e < 3 ∨ ¬ ci 67 e = ci 67 g := by
        rcases z with z | z
        · exact Or.inl (by rw [z]; decide)
        · by_cases q : ci 67 e = ci 67 g
          · exact Or.inl (by rw [q, z]; decide)
          · exact Or.inr q
      refine ⟨_, _, rfl, rfl, rfl, fun r2 M2 nx2 p2 => key p2 (fun _ y1 y2 y3 => ?_) (fun y => absurd z y) (fun y => absurd z2 y) (fun a c b v y y1 => absurd z2 y1)⟩
      subst y1; subst y2; subst y3; exact ⟨rfl, h.z0⟩
    · have zz : ¬ (ci 67 e = 0 ∨ ci 67 g = 0) ∧ (ci 67 e < 3 ∨ ¬ ci 67 e = ci 67 g) := by
        rcases a1 with ⟨k, c, nu, a, s, b1, b2, b3⟩ | ⟨k, c, nu, a, s, b1, b2, b3⟩ | ⟨k, q, w, v, f, k2, q2, w2, v2, f2, b1, b2, b3, b4, b5⟩
        · have e1 := ((hs e he).a b1 b2).1
          exact ⟨fun z => z.elim (fun z => by rw [e1] at z; exact absurd z (by decide)) ((hs g hg).nn b3), Or.inl (by rw [e1]; decide)⟩
        · have e1 := ((hs g hg).a b1 b2).1
          refine ⟨fun z => z.elim ((hs e he).nn b3) (fun z => by rw [e1] at z; exact absurd z (by decide)), ?_⟩
          by_cases q : ci 67 e = ci 67 g
          · exact Or.inl (by rw [q, e1]; decide)
          · exact Or.inr q
        · obtain ⟨e1, e2, -⟩ := (hs e he).r b1 b2
          obtain ⟨g1, g2, -⟩ := (hs g hg).r b3 b4
          rw [e1, g1]
          exact ⟨fun z => z.elim (w3 w e2).1 (w3 w2 g2).1, Or.inr b5⟩
      refine ⟨_, _, rfl, rfl, rfl, fun r2 M2 nx2 p2 => key p2 (fun y => absurd y zz.1) (fun _ _ y1 y2 y3 => ?_) (fun y => absurd zz.2 y) (fun a c b v y y1 => absurd zz.2 y1)⟩
      subst y1; subst y2; subst y3; exact ⟨rfl, h.z0⟩
    · obtain ⟨e1, e2, -, e4, e5⟩ := (hs e he).r c1 c2
      obtain ⟨g1, -, -, g4, g5⟩ := (hs g hg).r c4 c5
      have z1 : ¬ (ci 67 e = 0 ∨ ci 67 g = 0) := by
        rw [e1, g1]; exact fun z => z.elim (w3 w e2).1 (w3 w e2).1
      have z2 : ¬ (ci 67 e < 3 ∨ ¬ ci 67 e = ci 67 g) := by
        rw [e1, g1]; exact fun z => z.elim (w3 w e2).2 (fun y => y rfl)
      have r1 : RC v i m ↔ HP (up2 ci 43 0 0) e i m := rc_hp c3 (by rw [e68]; exact e4)
      have r2 : RC v2 j m ↔ HP (up2 ci 43 0 0) g j m := rc_hp c6 (by rw [e68]; exact g4)
      rcases a with ⟨a1, rfl, rfl, rfl⟩ | ⟨a, d, b, rfl, rfl, rfl, ha, hd, rfl, rfl, rfl⟩
      · refine ⟨_, _, rfl, rfl, rfl, fun r2' M2 nx2 p2 => key p2 (fun y => absurd y z1) (fun _ y => absurd y z2) (fun _ _ y1 y2 y3 => ?_) (fun a c b v y y1 y2 y3 => absurd ⟨r1.mpr y2, r2.mpr y3⟩ a1)⟩
        subst y1; subst y2; subst y3; exact ⟨rfl, h.z0⟩
      · have q1 : HP (up2 ci 43 0 0) e (nI a) (nI b) := hp_y c3 (by rw [e68]; exact e4) ha
        have q2' : HP (up2 ci 43 0 0) g (nI d) (nI b) := hp_y c6 (by rw [e68]; exact g4) hd
        refine ⟨_, _, rfl, rfl, rfl, fun r2' M2 nx2 p2 => key p2 (fun y => absurd y z1) (fun _ y => absurd y z2) (fun _ y => absurd ⟨q1, q2'⟩ y) (fun a' c' b' v' y' _ _ _ v6 y6 f1 f2' f3 f4 f5 f6 f7 f8 f9 f10 => ?_)⟩
        have ea : a = a' := k_eq f5 (by omega) (by omega)
        have eb : b = b' := k_eq f7 (by omega) (by omega)
        have ec : d = c' := k_eq f6 (by omega) (by omega)
        subst ea
        subst eb
        subst ec
        subst f8
        subst f9
        subst f10
        refine ⟨rfl, NXT.i (INV_cpy h hg c4 c5 (fun k h1 h2 h3 h4 => ?_) (fun j hj => ?_) (fun e' he' hne j hj => ?_))⟩
        · rw [rwC_k _ _ _ (by omega), bwC_k _ _ (by omega)]
        · show va_cpy f f2 a d b j = _
          unfold va_cpy
          by_cases z : d ≤ j ∧ j < d + b
          · rw [if_pos z, show 60 * g + j = 60 * g + d + (j - d) by omega, rwC_at _ _ _ _ _ (by omega), bwC_at _ _ _ _ (by omega), show 60 * e + a + (j - d) = 60 * e + (a + (j - d)) by omega]
            exact e5 _ (by omega)
          · rw [if_neg z, rwC_out _ _ _ _ _ (by omega), bwC_k _ _ (by decide)]
            exact g5 j hj
        · rw [rwC_out _ _ _ _ _ (by omega), bwC_k _ _ (by decide)]
end
