/-! run -/
section
variable {ci : aI} {cl : aL} {cr : Nat → Nat → Option Nat} {dy : aM} {nx n nx' : Nat} {r : Option Value} {M' : aM}
theorem INV.RG (h : INV ci cl cr dy nx n) : RG ci (cl 48) cl ci cl cr dy n := by
  have h6 := h.n6
  obtain ⟨f1, f2, f3, f4, f5, -⟩ := h.2.1
  refine ⟨h.1.1, f1, f2, f4, f5, f3, fun a ha w hw h0 => ?_, h.1.2.2.2.2.2⟩
  obtain ⟨x, hx, e⟩ := h.1.2.2.2.2.1 a ha w hw h0
  exact ⟨x, by omega, e⟩
theorem rs_43 {c : aI} {l : aL} {j : Nat} (h0 : ¬ j = 20) (h1 : ¬ j = 21) (h2 : ¬ j = 22) : (rs0 c l).1 43 j = c 43 j := by
  show up2 (up2 (up2 (tpC c 4) 43 20 0) 43 21 (-2)) 43 22 0 43 j = c 43 j
  rw [up2_j _ _ _ h2, up2_j _ _ _ h1, up2_j _ _ _ h0, tpC_k c (by decide) (by decide)]
theorem INV_run (h : INV ci cl cr dy nx n) {g : Nat → Nat} {c1 cc : aI} {l1 ll : aL} {rl : Int32} (hg : ∀ i, i < n → g i < n) (hRO : RO ci cl g ci c1 cl l1 n) (hcc : fG g (rs0 (up2 (up2 c1 1 8 1) 43 0 0) l1) n = (cc, ll)) :
    (c1 18 8 = cc 43 20 ∧ c1 18 9 = cc 43 21 ∧ (cc 43 21 = -2 ∨ ∃ f, f < n ∧ cc 43 21 = nI f) ∧ cc 43 16 = ci 43 16 ∧ cc 55 = ci 55) ∧ (c1 18 11 = rl → INV (up2 (up2 cc 43 23 rl) 43 19 1) ll cr dy nx n) := by
  have h6 := h.n6
  have hRG := h.RG
  obtain ⟨⟨⟨m8, m9, m10⟩, mp, mr, mn⟩, mf, ml⟩ := hRO
  have hRV := (RG_at hRG hg (Nat.le_refl n) ⟨⟨⟨m8, m9, m10⟩, mp, mr, mn⟩, mf, ml⟩).1
  have hRA0 : RA (ci, cl) (up2 (up2 c1 1 8 1) 43 0 0, l1) := by
    refine ⟨fun k hk => ?_, fun j hj => ?_, fun k hk => ?_⟩
    · show up2 (up2 c1 1 8 1) 43 0 0 k = ci k
      rw [up2_k _ _ _ (by omega), up2_k _ _ _ (by omega)]; exact mf k (by omega) (by omega) (by omega) (by omega) (by omega) (by omega)
    · show up2 (up2 c1 1 8 1) 43 0 0 43 j = ci 43 j
      rw [up2_j _ _ _ hj, up2_k _ _ _ (by decide), mf 43 (by decide) (by decide) (by decide) (by decide) (by decide) (by decide)]
    · exact ml k (by omega) (by omega) (by omega) (by omega) (by omega) (by omega)
  have hRA := hRA0.rs.fG g n
  rw [hcc] at hRA
  have kc : ∀ k, ¬ k = 43 → ¬ k = 58 → ¬ k = 66 → cc k = up2 c1 1 8 1 k := fun k a b c => by
    have q := fG_k (g := g) (s := rs0 (up2 (up2 c1 1 8 1) 43 0 0) l1) a b c n
    rw [hcc] at q
    rw [show cc k = (rs0 (up2 (up2 c1 1 8 1) 43 0 0) l1).1 k from q, rs0_i a b c, up2_k _ _ _ a]
  have kl : ∀ k, ¬ k = 59 → ¬ k = 60 → ¬ k = 65 → ll k = l1 k := fun k a b c => by
    have q := fG_l (g := g) (s := rs0 (up2 (up2 c1 1 8 1) 43 0 0) l1) a b c n
    rw [hcc] at q
    rw [show ll k = (rs0 (up2 (up2 c1 1 8 1) 43 0 0) l1).2 k from q, rs0_l b]
  have kj : ∀ j, ¬ j = 0 → ¬ j = 20 → ¬ j = 21 → ¬ j = 22 → cc 43 j = ci 43 j := fun j a b c d => by
    rw [show cc 43 j = (fG g (rs0 ci cl) n).1 43 j from hRA.2.1 j a, hRV.2.1 j b c d, rs_43 b c d]
  have e20 : cc 43 20 = (fG g (rs0 ci cl) n).1 43 20 := hRA.2.1 20 (by decide)
  have e21 : cc 43 21 = (fG g (rs0 ci cl) n).1 43 21 := hRA.2.1 21 (by decide)
  have e22 : cc 43 22 = (fG g (rs0 ci cl) n).1 43 22 := hRA.2.1 22 (by decide)
  have e55 : cc 55 = ci 55 := by rw [kc 55 (by decide) (by decide) (by decide), up2_k _ _ _ (by decide), mf 55 (by decide) (by decide) (by decide) (by decide) (by decide) (by decide)]
  refine ⟨⟨m8.trans e20.symm, m9.trans e21.symm, by rw [e21]; exact hRV.2.2.2.2, kj 16 (by decide) (by decide) (by decide) (by decide), e55⟩, fun hrl => ?_⟩
  generalize hc : up2 (up2 cc 43 23 rl) 43 19 1 = c2
  have kk : ∀ k, ¬ k = 1 → ¬ k = 18 → ¬ k = 23 → ¬ k = 28 → ¬ k = 32 → ¬ k = 36 → ¬ k = 40 → ¬ k = 43 → ¬ k = 58 → ¬ k = 66 → c2 k = ci k := fun k a b c d e f g1 h1 i j => by
    rw [← hc, up2_k _ _ _ h1, up2_k _ _ _ h1, kc k h1 i j, up2_k _ _ _ a]; exact mf k b c d e f g1
  have k1 : ∀ k, ¬ k = 1 → ¬ k = 43 → ¬ k = 58 → ¬ k = 66 → c2 k = c1 k := fun k a b c d => by
    rw [← hc, up2_k _ _ _ b, up2_k _ _ _ b, kc k b c d, up2_k _ _ _ a]
  have kd2 : ∀ j, ¬ j = 0 → ¬ j = 19 → ¬ j = 20 → ¬ j = 21 → ¬ j = 22 → ¬ j = 23 → c2 43 j = ci 43 j := fun j a b c d e f => by
    rw [← hc, up2_j _ _ _ b, up2_j _ _ _ f]; exact kj j a c d e
  have kll : ∀ k, ¬ k = 22 → ¬ k = 25 → ¬ k = 29 → ¬ k = 33 → ¬ k = 37 → ¬ k = 41 → ¬ k = 59 → ¬ k = 60 → ¬ k = 65 → ll k = cl k := fun k a b c d e f g1 h1 i => (kl k g1 h1 i).trans (ml k a b c d e f)
  have c58 : c2 58 = (fG g (rs0 ci cl) n).1 58 := by
    rw [← hc, up2_k _ _ _ (by decide), up2_k _ _ _ (by decide)]; exact hRA.1 58 (by decide)
  have l65 : ll 65 = (fG g (rs0 ci cl) n).2 65 := hRA.2.2 65 (by decide)
  have l59 : ll 59 = (fG g (rs0 ci cl) n).2 59 := hRA.2.2 59 (by decide)
  have l60 : ll 60 = (fG g (rs0 ci cl) n).2 60 := hRA.2.2 60 (by decide)
  have hs : sm ci c2 := sm.of fun k a b _ => kk k (by omega) (by omega) (by omega) (by omega) (by omega) (by omega) (by omega) (by omega) (by omega) (by omega)
  have q3 : ∀ k, (10 ≤ k ∧ k ≤ 17) ∨ k = 2 ∨ k = 5 ∨ k = 6 ∨ k = 7 ∨ k = 24 ∨ k = 52 ∨ k = 55 ∨ k = 56 ∨ k = 57 ∨ k = 63 ∨ (67 ≤ k ∧ k ≤ 70) → c2 k = ci k := fun k hk => kk k (by omega) (by omega) (by omega) (by omega) (by omega) (by omega) (by omega) (by omega) (by omega) (by omega)
  have hLK : LK ci c2 n := ⟨hs, kd2 16 (by decide) (by decide) (by decide) (by decide) (by decide) (by decide), fun a _ => ⟨by rw [q3 55 (by omega)], by rw [q3 56 (by omega)], by rw [q3 63 (by omega)]⟩⟩
  have hRK : RK ci c2 n := ⟨hs, kd2 18 (by decide) (by decide) (by decide) (by decide) (by decide) (by decide), fun a _ => ⟨by rw [q3 55 (by omega)], by rw [q3 57 (by omega)]⟩⟩
  have h48 : ll 48 = cl 48 := kll 48 (by decide) (by decide) (by decide) (by decide) (by decide) (by decide) (by decide) (by decide) (by decide)
  obtain ⟨a1, ⟨f1, f2, f3, f4, f5, f6, f7, f8, T, hT, f9⟩, a3, a4, a5, a6, a7⟩ := h
  have e17 : c2 1 7 = ci 1 7 := by rw [← hc, up2_k _ _ _ (by decide), up2_k _ _ _ (by decide), kc 1 (by decide) (by decide) (by decide), up2_j _ _ _ (by decide), mf 1 (by decide) (by decide) (by decide) (by decide) (by decide) (by decide)]
  have e18 : c2 1 8 = 1 := by rw [← hc, up2_k _ _ _ (by decide), up2_k _ _ _ (by decide), kc 1 (by decide) (by decide) (by decide), up2_s]
  have e13 : c2 43 13 = ci 43 13 := kd2 13 (by decide) (by decide) (by decide) (by decide) (by decide) (by decide)
  refine ⟨a1.mv hs (q3 2 (by omega)) (q3 5 (by omega)) (q3 6 (by omega)) (q3 7 (by omega)) (kd2 1 (by decide) (by decide) (by decide) (by decide) (by decide) (by decide)) h48, ⟨fun p hp => ⟨?_, fun j hj => ?_⟩, f2, fun p hp => ?_, ⟨fun a ha => ?_, fun p hp j hj => ?_⟩, fun i hi => ?_, fun i hi => ?_, fun p hp => ⟨?_, ?_⟩, fun i hi => ?_, T, hT, ?_⟩, ⟨?_, ?_, fun _ => ⟨?_, ?_, ?_, ?_⟩, ?_⟩, a4.mv hLK hRK e13 (fun k b c => q3 k (by omega)) h48, a5.mv (q3 67 (by omega)) (q3 68 (by omega)) (q3 69 (by omega)) (q3 70 (by omega)) (kll 71 (by decide) (by decide) (by decide) (by decide) (by decide) (by decide) (by decide) (by decide) (by decide)), a6, a7⟩
  · rw [kk _ (by omega) (by omega) (by omega) (by omega) (by omega) (by omega) (by omega) (by omega) (by omega) (by omega), q3 52 (by omega)]; exact (f1 p hp).1
  · rw [kll _ (by omega) (by omega) (by omega) (by omega) (by omega) (by omega) (by omega) (by omega) (by omega), kll 53 (by decide) (by decide) (by decide) (by decide) (by decide) (by decide) (by decide) (by decide) (by decide)]; exact (f1 p hp).2 j hj
  · rw [q3 52 (by omega)]; exact f3 p hp
  · rw [kl 25 (by decide) (by decide) (by decide), l65]; exact mn.1 a ha
  · rw [kl _ (by omega) (by omega) (by omega), l59]; exact mn.2 p hp j hj
  · rw [kll 21 (by decide) (by decide) (by decide) (by decide) (by decide) (by decide) (by decide) (by decide) (by decide), kll 54 (by decide) (by decide) (by decide) (by decide) (by decide) (by decide) (by decide) (by decide) (by decide)]; exact f5 i hi
  · rw [q3 24 (by omega)]; exact f6 i hi
  · rw [k1 _ (by omega) (by omega) (by omega) (by omega), c58]; exact (mp p hp).2
  · obtain ⟨pu, q1, q2⟩ := hRV.2.2.2.1 p hp
    exact ⟨pu, by omega, by rw [c58]; exact q2⟩
  · rw [kl 22 (by decide) (by decide) (by decide), l60]; exact mr i hi
  · rw [kd2 16 (by decide) (by decide) (by decide) (by decide) (by decide) (by decide)]; exact f9
  · rw [e17, e13]; exact a3.1
  · rw [e18, ← hc, up2_s]
  · rw [k1 18 (by decide) (by decide) (by decide) (by decide), ← hc, up2_j _ _ _ (by decide), up2_j _ _ _ (by decide), e20]; exact m8
  · rw [k1 18 (by decide) (by decide) (by decide) (by decide), ← hc, up2_j _ _ _ (by decide), up2_j _ _ _ (by decide), e21]; exact m9
  · rw [k1 18 (by decide) (by decide) (by decide) (by decide), ← hc, up2_j _ _ _ (by decide), up2_j _ _ _ (by decide), e22]; exact m10
  · rw [k1 18 (by decide) (by decide) (by decide) (by decide), ← hc, up2_j _ _ _ (by decide), up2_s]; exact hrl
  · rw [e13]; exact a3.2.2.2
theorem run_pre (h : INV ci cl cr dy nx n) {g : Nat → Nat} {c1 : aI} {l1 : aL} (hRO : RO ci cl g ci c1 cl l1 n) : sm ci (up2 c1 1 8 1) ∧ up2 c1 1 8 1 43 = ci 43 ∧ up2 c1 1 8 1 52 = ci 52 ∧ up2 c1 1 8 1 55 = ci 55 := by
  have mf := hRO.2.1
  have k1 : ∀ k, 42 < k → up2 c1 1 8 1 k = ci k := fun k hk => (up2_k _ _ _ (by omega)).trans (mf k (by omega) (by omega) (by omega) (by omega) (by omega) (by omega))
  exact ⟨sm.of fun k a b _ => k1 k (by omega), k1 43 (by decide), k1 52 (by decide), k1 55 (by decide)⟩
theorem A_run (h : INV ci cl cr dy nx n) {z : Int32} {g : Nat → Nat} {TT : Nat} (hTT : ci 43 16 = nI TT) (hTl : TT ≤ 1000) (hO : ¬ ci 1 7 = 0 → OA ci g n) (p : p1_run ci (cl 48) cl n z g ci cl cr dy nx r M' nx') : ∃ v c1 l1, r = some (.int v) ∧ M' = mm c1 l1 cr dy ∧ nx = nx' ∧ sm ci c1 ∧ c1 43 = ci 43 ∧ c1 52 = ci 52 ∧ HF v (p2_run z n TT c1 l1 cr dy nx) := by
  have h6 := h.n6
  have e13 : ci 1 7 = ci 43 13 := h.2.2.1.1
  rcases p with ⟨a1, rfl, rfl, rfl⟩ | ⟨a1, a2, a3, rfl, rfl, rfl⟩ | ⟨a1, rfl, c1, l1, hRO, h11, rfl, rfl, rfl⟩ | ⟨a1, a2, a3, c1, l1, hRO, h11, rfl, rfl, rfl⟩
  · refine ⟨_, _, _, rfl, rfl, rfl, sm.rf, rfl, rfl, fun r2 M2 nx2 p2 => ?_⟩
    rcases p2 with ⟨-, rfl, rfl, rfl⟩ | ⟨b1, -⟩ | ⟨b1, -⟩
    · exact ⟨rfl, h.z0⟩
    · exact absurd a1 b1
    · exact absurd a1 b1
  · refine ⟨_, _, _, rfl, rfl, rfl, sm.rf, rfl, rfl, fun r2 M2 nx2 p2 => ?_⟩
    rcases p2 with ⟨b1, -⟩ | ⟨-, -, -, rfl, rfl, rfl⟩ | ⟨-, b2, -⟩
    · exact absurd b1 a1
    · exact ⟨rfl, h.z0⟩
    · rw [up2_j _ _ _ (by decide)] at b2
      exact absurd (b2.resolve_left a2) (fun y => y (e13.symm.trans a3))
  · obtain ⟨s1, s2, s3, s4⟩ := run_pre h hRO
    refine ⟨_, _, _, rfl, rfl, rfl, s1, s2, s3, fun r2 M2 nx2 p2 => ?_⟩
    rcases p2 with ⟨b1, -⟩ | ⟨-, b1, -⟩ | ⟨-, -, cc, ll, hcc, rfl, rfl, rfl⟩
    · exact absurd b1 a1
    · exact absurd rfl b1
    · have et : tl 0 (up2 (up2 c1 1 8 1) 43 0 0) = 0 := if_pos rfl
      rw [et, run_0] at hcc
      obtain ⟨⟨q1, -⟩, q2⟩ := INV_run (rl := rlF 0 cc) h (fun i hi => hi) hRO hcc
      exact ⟨by rw [q1], NXT.i (q2 (h11.trans (if_pos rfl).symm))⟩
  · obtain ⟨s1, s2, s3, s4⟩ := run_pre h hRO
    refine ⟨_, _, _, rfl, rfl, rfl, s1, s2, s3, fun r2 M2 nx2 p2 => ?_⟩
    have z13 : ¬ ci 43 13 = 0 := fun y => a3 (e13.trans y)
    rcases p2 with ⟨b1, -⟩ | ⟨-, -, b1, -⟩ | ⟨-, -, cc, ll, hcc, rfl, rfl, rfl⟩
    · exact absurd b1 a1
    · rw [up2_j _ _ _ (by decide), s2] at b1
      exact absurd b1 z13
    · obtain ⟨T, ⟨t1, t2, tq⟩, p2, p3, -⟩ := h.2.2.2.1 z13
      have hA := hO a3
      have et : tl z (up2 (up2 c1 1 8 1) 43 0 0) = TT := by
        unfold tl
        rw [if_neg a2, up2_j _ _ _ (by decide), s2, hTT, nI_clamp (by omega)]
      obtain ⟨k1, -⟩ := tq (cL ci) (sC (cL ci) (cl 48)) sm_cL cL_16 (LSp_s.sm sm_cL.sy)
      obtain ⟨T2, u1, u2, -, u4⟩ := lay_T (l := sC (cL ci) (cl 48)) (n := n) (cL_16 (ci := ci)) (h.1.2.2.1.sm sm_cL) (h.1.2.2.2.1.sm sm_cL) h6
      have eT : T2 = TT := k_eq (u2.symm.trans (k1.2.1.symm.trans hTT)) (by omega) hTl
      have c55 : up2 (up2 c1 1 8 1) 43 0 0 55 = ci 55 := (up2_k _ _ _ (by decide)).trans s4
      rw [et, run_z (ci := ci) (g := g) a2 hA.1 (fun a ha => by rw [c55, (p2 a ha).1]) (fun a ha => by
        obtain ⟨t, v1, v2⟩ := u4 a ha
        exact ⟨t, by omega, by rw [c55, (k1.2.2 a ha).1]; exact v2⟩) hTl] at hcc
      obtain ⟨⟨q1, q9, q21, q16, q55⟩, q2⟩ := INV_run (rl := rlF z cc) h hA.1.1 hRO hcc
      refine ⟨by rw [q1], NXT.i (q2 ?_)⟩
      rw [h11, q9]
      unfold rlF
      rw [if_neg a2]
      rcases q21 with e | ⟨f, hf, e⟩
      · rw [e, if_pos rfl, if_neg (by decide), q16, p3]
      · rw [e, if_neg (fun y => nn_2 (nI_nn (n := f) (by omega)) y), if_pos (nI_nn (by omega)), nI_clamp (by omega), q55, (p2 f hf).1]
end
