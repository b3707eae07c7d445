/-! parts, length, feed, place -/
section
variable {ci : aI} {cl : aL} {cr : Nat → Nat → Option Nat} {dy : aM} {nx n nx' : Nat} {r : Option Value} {M' : aM}
theorem A_parts (h : INV ci cl cr dy nx n) {q m : Int32} (p : p1_parts q m ci cl cr dy nx r M' nx') : ∃ v c1, r = some (.int v) ∧ M' = mm c1 cl cr dy ∧ nx = nx' ∧ HF v (p2_parts q m c1 cl cr dy nx) := by
  have hst := h.1.1.2.1
  rcases p with ⟨a1, rfl, rfl, rfl⟩ | ⟨a1, rfl, rfl, rfl⟩
  · refine ⟨_, _, rfl, rfl, rfl, fun r2 M2 nx2 p2 => ?_⟩
    rcases p2 with ⟨-, rfl, rfl, rfl⟩ | ⟨b1, -⟩
    · exact ⟨rfl, h.z0⟩
    · exact absurd b1 a1
  · obtain ⟨k, -, hk, rfl⟩ := II.k a1.1
    obtain ⟨v, hv1, hv4, rfl⟩ := II.k a1.2
    rw [nI_clamp (by omega)]
    generalize hc : up2 (up2 (up2 ci 1 7 0) 1 8 0) 5 k (nI v) = c1
    have k1 : ∀ j, ¬ j = 1 → ¬ j = 5 → c1 j = ci j := fun j q1 q2 => by rw [← hc, up2_k _ _ _ q2, up2_k _ _ _ q1, up2_k _ _ _ q1]
    refine ⟨_, c1, rfl, rfl, rfl, fun r2 M2 nx2 p2 => ?_⟩
    rcases p2 with ⟨b1, -⟩ | ⟨-, rfl, rfl, rfl⟩
    · exact absurd a1 b1
    · rw [nI_clamp (by omega), k1 49 (by decide) (by decide)]
      refine ⟨by rw [(hst k (by omega)).1], ?_⟩
      have k2 : ∀ j, ¬ j = 1 → ¬ j = 5 → ¬ j = 43 → ¬ j = 49 → chI (up2 (up2 c1 43 0 0) 49 k (nI v)) j = ci j := fun j q1 q2 q3 q4 => by rw [cl_k q3, up2_k _ _ _ q4, up2_k _ _ _ q3, k1 j q1 q2]
      have k5 : chI (up2 (up2 c1 43 0 0) 49 k (nI v)) 5 = va_up (ci 5) k (nI v) := by rw [cl_k (by decide), up2_k _ _ _ (by decide), up2_k _ _ _ (by decide), ← hc, up2_e, up2_k _ _ _ (by decide), up2_k _ _ _ (by decide)]
      have k9 : chI (up2 (up2 c1 43 0 0) 49 k (nI v)) 49 = va_up (ci 49) k (nI v) := by rw [cl_k (by decide), up2_e, up2_k _ _ _ (by decide), k1 49 (by decide) (by decide)]
      have hL : LEN (chI (up2 (up2 c1 43 0 0) 49 k (nI v))) := h.1.2.2.1.c (k2 50 (by decide) (by decide) (by decide) (by decide))
      refine NXT.i (INV_cl (m := n) h (h.1.1.st (k2 44 (by decide) (by decide) (by decide) (by decide)) (k2 45 (by decide) (by decide) (by decide) (by decide)) (k2 46 (by decide) (by decide) (by decide) (by decide)) (k2 47 (by decide) (by decide) (by decide) (by decide)) hL (fun j hj => ?_) (k2 2 (by decide) (by decide) (by decide) (by decide))) (Nat.le_refl n) ?_ hL (fun j hj => ?_) cl_13 cl_19 ?_ ?_ ?_ (fun j hj => ?_))
      · rw [k5, k9, k2 6 (by decide) (by decide) (by decide) (by decide), k2 7 (by decide) (by decide) (by decide) (by decide), k2 50 (by decide) (by decide) (by decide) (by decide), k2 51 (by decide) (by decide) (by decide) (by decide)]
        refine ⟨?_, (hst j hj).2⟩
        by_cases e : j = k
        · subst e; rw [va_up_self, va_up_self]
        · rw [va_up_ne _ _ e, va_up_ne _ _ e]; exact (hst j hj).1
      · rw [cl_j (by decide) (by decide), up2_k _ _ _ (by decide), up2_j _ _ _ (by decide), k1 43 (by decide) (by decide)]; exact h.1.2.1
      · rw [k9]
        by_cases e : j = k
        · subst e; exact ⟨v, hv1, hv4, va_up_self _ _ _⟩
        · rw [va_up_ne _ _ e]; exact h.1.2.2.2.1 j hj
      · rw [cl_k (by decide), up2_k _ _ _ (by decide), up2_k _ _ _ (by decide), ← hc, up2_k _ _ _ (by decide), up2_j _ _ _ (by decide), up2_s]
      · rw [cl_k (by decide), up2_k _ _ _ (by decide), up2_k _ _ _ (by decide), ← hc, up2_k _ _ _ (by decide), up2_s]
      · rw [cl_j (by decide) (by decide), up2_k _ _ _ (by decide), up2_j _ _ _ (by decide), k1 43 (by decide) (by decide)]
      · exact k2 j (by omega) (by omega) (by omega) (by omega)
theorem A_length (h : INV ci cl cr dy nx n) {q m z : Int32} (p : p1_length q m z ci cl cr dy nx r M' nx') : ∃ v c1, r = some (.int v) ∧ M' = mm c1 cl cr dy ∧ nx = nx' ∧ HF v (p2_length q m z c1 cl cr dy nx) := by
  have hst := h.1.1.2.1
  rcases p with ⟨a1, rfl, rfl, rfl⟩ | ⟨a1, rfl, rfl, rfl⟩
  · refine ⟨_, _, rfl, rfl, rfl, fun r2 M2 nx2 p2 => ?_⟩
    rcases p2 with ⟨-, rfl, rfl, rfl⟩ | ⟨b1, -⟩
    · exact ⟨rfl, h.z0⟩
    · exact absurd b1 a1
  · obtain ⟨k, -, hk, rfl⟩ := II.k a1.1
    obtain ⟨v, hv1, hv4, rfl⟩ := II.k a1.2
    rw [nI_clamp (by omega)]
    generalize hc : up2 (up2 (up2 (up2 ci 1 7 0) 1 8 0) 6 k (nI v)) 7 k z = c1
    have k1 : ∀ j, ¬ j = 1 → ¬ j = 6 → ¬ j = 7 → c1 j = ci j := fun j q1 q2 q3 => by rw [← hc, up2_k _ _ _ q3, up2_k _ _ _ q2, up2_k _ _ _ q1, up2_k _ _ _ q1]
    refine ⟨_, c1, rfl, rfl, rfl, fun r2 M2 nx2 p2 => ?_⟩
    rcases p2 with ⟨b1, -⟩ | ⟨-, rfl, rfl, rfl⟩
    · exact absurd a1 b1
    · rw [nI_clamp (by omega), k1 50 (by decide) (by decide) (by decide)]
      refine ⟨by rw [(hst k (by omega)).2.1], ?_⟩
      generalize hd : chI (up2 (up2 (up2 c1 43 0 0) 50 k (nI v)) 51 k z) = c2
      have k2 : ∀ j, ¬ j = 1 → ¬ j = 6 → ¬ j = 7 → ¬ j = 43 → ¬ j = 50 → ¬ j = 51 → c2 j = ci j := fun j q1 q2 q3 q4 q5 q6 => by rw [← hd, cl_k q4, up2_k _ _ _ q6, up2_k _ _ _ q5, up2_k _ _ _ q4, k1 j q1 q2 q3]
      have k6 : c2 6 = va_up (ci 6) k (nI v) := by rw [← hd, cl_k (by decide), up2_k _ _ _ (by decide), up2_k _ _ _ (by decide), up2_k _ _ _ (by decide), ← hc, up2_k _ _ _ (by decide), up2_e, up2_k _ _ _ (by decide), up2_k _ _ _ (by decide)]
      have k7 : c2 7 = va_up (ci 7) k z := by rw [← hd, cl_k (by decide), up2_k _ _ _ (by decide), up2_k _ _ _ (by decide), up2_k _ _ _ (by decide), ← hc, up2_e, up2_k _ _ _ (by decide), up2_k _ _ _ (by decide), up2_k _ _ _ (by decide)]
      have k50 : c2 50 = va_up (ci 50) k (nI v) := by rw [← hd, cl_k (by decide), up2_k _ _ _ (by decide), up2_e, up2_k _ _ _ (by decide), k1 50 (by decide) (by decide) (by decide)]
      have k51 : c2 51 = va_up (ci 51) k z := by rw [← hd, cl_k (by decide), up2_e, up2_k _ _ _ (by decide), up2_k _ _ _ (by decide), k1 51 (by decide) (by decide) (by decide)]
      have hL : LEN c2 := fun j hj => by
        rw [k50]
        by_cases e : j = k
        · subst e; exact ⟨v, hv1, hv4, va_up_self _ _ _⟩
        · rw [va_up_ne _ _ e]; exact h.1.2.2.1 j hj
      refine NXT.i (INV_cl (m := n) h (h.1.1.st (k2 44 (by decide) (by decide) (by decide) (by decide) (by decide) (by decide)) (k2 45 (by decide) (by decide) (by decide) (by decide) (by decide) (by decide)) (k2 46 (by decide) (by decide) (by decide) (by decide) (by decide) (by decide)) (k2 47 (by decide) (by decide) (by decide) (by decide) (by decide) (by decide)) hL (fun j hj => ?_) (k2 2 (by decide) (by decide) (by decide) (by decide) (by decide) (by decide))) (Nat.le_refl n) ?_ hL (fun j hj => ?_) (by rw [← hd]; exact cl_13) (by rw [← hd]; exact cl_19) ?_ ?_ ?_ (fun j hj => ?_))
      · rw [k6, k7, k50, k51, k2 5 (by decide) (by decide) (by decide) (by decide) (by decide) (by decide), k2 49 (by decide) (by decide) (by decide) (by decide) (by decide) (by decide)]
        refine ⟨(hst j hj).1, ?_⟩
        by_cases e : j = k
        · subst e; rw [va_up_self, va_up_self, va_up_self, va_up_self]; exact ⟨rfl, rfl⟩
        · rw [va_up_ne _ _ e, va_up_ne _ _ e, va_up_ne _ _ e, va_up_ne _ _ e]; exact (hst j hj).2
      · rw [← hd, cl_j (by decide) (by decide), up2_k _ _ _ (by decide), up2_k _ _ _ (by decide), up2_j _ _ _ (by decide), k1 43 (by decide) (by decide) (by decide)]; exact h.1.2.1
      · rw [k2 49 (by decide) (by decide) (by decide) (by decide) (by decide) (by decide)]; exact h.1.2.2.2.1 j hj
      · rw [← hd, cl_k (by decide), up2_k _ _ _ (by decide), up2_k _ _ _ (by decide), up2_k _ _ _ (by decide), ← hc, up2_k _ _ _ (by decide), up2_k _ _ _ (by decide), up2_j _ _ _ (by decide), up2_s]
      · rw [← hd, cl_k (by decide), up2_k _ _ _ (by decide), up2_k _ _ _ (by decide), up2_k _ _ _ (by decide), ← hc, up2_k _ _ _ (by decide), up2_k _ _ _ (by decide), up2_s]
      · rw [← hd, cl_j (by decide) (by decide), up2_k _ _ _ (by decide), up2_k _ _ _ (by decide), up2_j _ _ _ (by decide), k1 43 (by decide) (by decide) (by decide)]
      · exact k2 j (by omega) (by omega) (by omega) (by omega) (by omega) (by omega)
/-- what the run reads changes, the block and the plan don't -/
theorem INV_f (h : INV ci cl cr dy nx n) {c2 : aI} {l2 : aL} (hk : ∀ k, k < 26 ∨ (43 < k ∧ ¬ k = 52) → c2 k = ci k) (h43 : ∀ j, ¬ j = 0 → c2 43 j = ci 43 j) (hl : ∀ k, k = 48 ∨ 54 < k → l2 k = cl k) (hF : iF c2 l2 cr) : INV c2 l2 cr dy nx n := by
  have hL : LK ci c2 n := ⟨sm.of fun k h1 h2 _ => hk k (by omega), h43 16 (by decide), fun a _ => ⟨by rw [hk 55 (by omega)], by rw [hk 56 (by omega)], by rw [hk 63 (by omega)]⟩⟩
  have hR : RK ci c2 n := ⟨hL.1, h43 18 (by decide), fun a _ => ⟨by rw [hk 55 (by omega)], by rw [hk 57 (by omega)]⟩⟩
  obtain ⟨h1, h2, h3, h4, h5, h6, h7⟩ := h
  exact ⟨h1.mv hL.1 (hk 2 (by omega)) (hk 5 (by omega)) (hk 6 (by omega)) (hk 7 (by omega)) (h43 1 (by decide)) (hl 48 (by omega)), hF, h3.mv (hk 1 (by omega)) (hk 18 (by omega)) (fun j a b => h43 j (by omega)), h4.mv hL hR (h43 13 (by decide)) (fun k a b => hk k (by omega)) (hl 48 (by omega)), h5.mv (hk 67 (by omega)) (hk 68 (by omega)) (hk 69 (by omega)) (hk 70 (by omega)) (hl 71 (by omega)), h6, h7⟩
theorem A_feed (h : INV ci cl cr dy nx n) {q : Int32} {v : Int64} (p : p1_feed q v ci cl cr dy nx r M' nx') : ∃ x c1 l1, r = some (.int x) ∧ M' = mm c1 l1 cr dy ∧ nx = nx' ∧ (∀ k, k < 4 → ∃ f, f ≤ 20 ∧ c1 52 k = nI f) ∧ HF x (p2_feed q v c1 l1 cr dy nx) := by
  obtain ⟨f1, f2, f3, f4, f5, f6, f7, f8, T, hT, f9⟩ := h.2.1
  rcases p with ⟨a1, rfl, rfl, rfl⟩ | ⟨k, f, hk, rfl, hf, ef, ⟨rfl, rfl, rfl, rfl⟩ | ⟨a2, rfl, rfl, rfl⟩⟩
  · refine ⟨_, _, _, rfl, rfl, rfl, f3, fun r2 M2 nx2 p2 => ?_⟩
    rcases p2 with ⟨-, rfl, rfl, rfl⟩ | ⟨k, f, hk, rfl, -⟩
    · exact ⟨rfl, h.z0⟩
    · exact absurd (k_in (Nat.zero_le k) hk (by omega)) a1
  · refine ⟨_, _, _, rfl, rfl, rfl, f3, fun r2 M2 nx2 p2 => ?_⟩
    rcases p2 with ⟨b1, -⟩ | ⟨k', f', hk', ek, hf', ef', ⟨-, rfl, rfl, rfl⟩ | ⟨b2, -⟩⟩
    · exact absurd (k_in (Nat.zero_le k) (by omega : k ≤ 3) (by omega)) b1
    · exact ⟨rfl, h.z0⟩
    · have e1 := k_eq ek (by omega) (by omega)
      subst e1
      rw [(f1 k hk).1] at ef
      have e2 := k_eq (ef.symm.trans ef') (by omega) (by omega)
      omega
  · have e52 : up2 ci (26 + 2 * (2 * k)) 1 (nI (f + 1)) 52 = ci 52 := up2_k _ _ _ (by omega)
    refine ⟨_, _, _, rfl, rfl, rfl, by rw [e52]; exact f3, fun r2 M2 nx2 p2 => ?_⟩
    rcases p2 with ⟨b1, -⟩ | ⟨k', f', hk', ek, hf', ef', b⟩
    · exact absurd (k_in (Nat.zero_le k) (by omega : k ≤ 3) (by omega)) b1
    · have e1 := k_eq ek (by omega) (by omega)
      subst e1
      rw [e52] at ef'
      have ef0 := ef
      rw [(f1 k hk).1] at ef0
      have e2 := k_eq (ef0.symm.trans ef') (by omega) (by omega)
      subst e2
      rcases b with ⟨b2, -⟩ | ⟨-, rfl, rfl, rfl⟩
      · omega
      · refine ⟨rfl, NXT.i (INV_f h (fun j hj => ?_) (fun j hj => ?_) (fun j hj => ?_) ⟨fun p hp => ⟨?_, fun j hj => ?_⟩, f2, fun p hp => ?_, ⟨fun a ha => ?_, fun p hp j hj => ?_⟩, fun i hi => ?_, fun i hi => ?_, fun p hp => ?_, fun i hi => ?_, T, hT, ?_⟩)⟩
        · rw [up2_k _ _ _ (by omega), up2_k _ _ _ (by omega), up2_k _ _ _ (by omega)]
        · rw [up2_k _ _ _ (by decide), up2_j _ _ _ hj, up2_k _ _ _ (by omega)]
        · rw [up2_k _ _ _ (by omega), up2_k _ _ _ (by omega)]
        · rw [up2_k _ _ _ (by omega), up2_k _ _ _ (by omega)]
          by_cases e : p = k
          · subst e; rw [up2_s, up2_s]
          · rw [up2_j _ _ _ e, up2_k _ _ _ (by omega), up2_k _ _ _ (by omega), up2_k _ _ _ (by omega)]; exact (f1 p hp).1
        · rw [up2_k _ _ _ (by omega)]
          by_cases e : p = k
          · subst e
            by_cases e2 : j = f
            · subst e2; rw [up2_s, up2_s]
            · rw [up2_j _ _ _ e2, up2_j _ _ _ (by omega), up2_k _ _ _ (by omega)]; exact (f1 p hp).2 j hj
          · rw [up2_k _ _ _ (by omega), up2_j _ _ _ (by omega), up2_k _ _ _ (by omega)]; exact (f1 p hp).2 j hj
        · by_cases e : p = k
          · subst e; exact ⟨f + 1, by omega, up2_s _ _ _ _⟩
          · rw [up2_j _ _ _ e, up2_k _ _ _ (by decide), up2_k _ _ _ (by omega)]; exact f3 p hp
        · rw [up2_k _ _ _ (by decide), up2_k _ _ _ (by omega), up2_k _ _ _ (by decide), up2_k _ _ _ (by omega)]; exact f4.1 a ha
        · rw [up2_k _ _ _ (by omega), up2_k _ _ _ (by omega), up2_k _ _ _ (by decide), up2_k _ _ _ (by omega)]; exact f4.2 p hp j hj
        · rw [up2_k _ _ _ (by decide), up2_k _ _ _ (by omega), up2_k _ _ _ (by decide), up2_k _ _ _ (by omega)]; exact f5 i hi
        · rw [up2_k _ _ _ (by decide), up2_k _ _ _ (by decide), up2_k _ _ _ (by omega)]; exact f6 i hi
        · rw [up2_k _ _ _ (by omega), up2_k _ _ _ (by omega), up2_k _ _ _ (by omega), up2_k _ _ _ (by decide), up2_k _ _ _ (by decide), up2_k _ _ _ (by omega)]; exact f7 p hp
        · rw [up2_k _ _ _ (by decide), up2_k _ _ _ (by omega), up2_k _ _ _ (by decide), up2_k _ _ _ (by omega)]; exact f8 i hi
        · rw [up2_k _ _ _ (by decide), up2_j _ _ _ (by decide), up2_k _ _ _ (by omega)]; exact f9
theorem A_place (h : INV ci cl cr dy nx n) {q : Int32} {v : Int64} (p : p1_place q v ci cl cr dy nx r M' nx') : ∃ x l1, r = some (.int x) ∧ M' = mm ci l1 cr dy ∧ nx = nx' ∧ HF x (p2_place q v ci l1 cr dy nx) := by
  obtain ⟨f1, f2, f3, f4, f5, f6, f7, f8, T, hT, f9⟩ := h.2.1
  rcases p with ⟨a1, rfl, rfl, rfl⟩ | ⟨a1, rfl, rfl, rfl⟩
  · refine ⟨_, _, rfl, rfl, rfl, fun r2 M2 nx2 p2 => ?_⟩
    rcases p2 with ⟨-, rfl, rfl, rfl⟩ | ⟨b1, -⟩
    · exact ⟨rfl, h.z0⟩
    · exact absurd b1 a1
  · refine ⟨_, _, rfl, rfl, rfl, fun r2 M2 nx2 p2 => ?_⟩
    rcases p2 with ⟨b1, -⟩ | ⟨-, rfl, rfl, rfl⟩
    · exact absurd a1 b1
    · generalize q.toNatClampNeg = k
      refine ⟨rfl, NXT.i (INV_f h (fun j hj => up2_k _ _ _ (by omega)) (fun j hj => up2_j _ _ _ hj) (fun j hj => ?_) ⟨fun p hp => ⟨?_, fun j hj => ?_⟩, f2, fun p hp => ?_, ⟨fun a ha => ?_, fun p hp j hj => ?_⟩, fun i hi => ?_, fun i hi => ?_, fun p hp => ?_, fun i hi => ?_, T, hT, ?_⟩)⟩
      · rw [up2_k _ _ _ (by omega), up2_k _ _ _ (by omega)]
      · rw [up2_k _ _ _ (by omega), up2_k _ _ _ (by decide)]; exact (f1 p hp).1
      · rw [up2_k _ _ _ (by omega), up2_k _ _ _ (by omega), up2_k _ _ _ (by decide), up2_k _ _ _ (by decide)]; exact (f1 p hp).2 j hj
      · rw [up2_k _ _ _ (by decide)]; exact f3 p hp
      · rw [up2_k _ _ _ (by decide), up2_k _ _ _ (by decide), up2_k _ _ _ (by decide), up2_k _ _ _ (by decide)]; exact f4.1 a ha
      · rw [up2_k _ _ _ (by omega), up2_k _ _ _ (by omega), up2_k _ _ _ (by decide), up2_k _ _ _ (by decide)]; exact f4.2 p hp j hj
      · rw [up2_k _ _ _ (by decide : 21 ≠ 54)]
        by_cases e : i = k
        · subst e; rw [up2_s, up2_s]
        · rw [up2_j _ _ _ e, up2_j _ _ _ e, up2_k _ _ _ (by decide)]; exact f5 i hi
      · rw [up2_k _ _ _ (by decide)]; exact f6 i hi
      · rw [up2_k _ _ _ (by omega), up2_k _ _ _ (by decide)]; exact f7 p hp
      · rw [up2_k _ _ _ (by decide), up2_k _ _ _ (by decide), up2_k _ _ _ (by decide), up2_k _ _ _ (by decide)]; exact f8 i hi
      · rw [up2_j _ _ _ (by decide)]; exact f9
end
