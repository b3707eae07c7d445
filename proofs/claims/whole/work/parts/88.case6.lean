/-! lay and run -/
section
variable {ci : aI} {cl : aL} {cr : Nat → Nat → Option Nat} {dy : aM} {nx n nx' : Nat} {r : Option Value} {M' : aM}
/-- the reference's ints as laying begins -/
abbrev cL (ci : aI) : aI := up2 (up2 ci 43 0 0) 43 16 0
theorem cL_k {k : Nat} (h : ¬ k = 43) : cL ci k = ci k := by
  show up2 (up2 ci 43 0 0) 43 16 0 k = ci k
  rw [up2_k _ _ _ h, up2_k _ _ _ h]
theorem cL_16 : cL ci 43 16 = 0 := by
  show up2 (up2 ci 43 0 0) 43 16 0 43 16 = 0
  rw [up2_s]
theorem cL_j {j : Nat} (h : ¬ j = 0) (h2 : ¬ j = 16) : cL ci 43 j = ci 43 j := by
  show up2 (up2 ci 43 0 0) 43 16 0 43 j = ci 43 j
  rw [up2_j _ _ _ h2, up2_j _ _ _ h]
theorem sm_cL : sm ci (cL ci) := sm.of fun k h1 h2 _ => cL_k (by omega)
/-- what the class's lay asks -/
theorem INV.L1 (h : INV ci cl cr dy nx n) : ∃ T, T ≤ 128 ∧ layC (cL ci) (sC (cL ci) (cl 48)) n 43 16 = nI T ∧ LT (layC (cL ci) (sC (cL ci) (cl 48)) n) n (T + 1) ∧ BK (cL ci) (cl 48) ci cr dy n ∧ PLF (cL ci) (cl 48) n := by
  have hL := h.1.2.2.1.sm (sm_cL (ci := ci))
  have hP := h.1.2.2.2.1.sm (sm_cL (ci := ci))
  obtain ⟨T, t1, t2, t3, -⟩ := lay_T (l := sC (cL ci) (cl 48)) (n := n) cL_16 hL hP h.n6
  exact ⟨T, t1, t2, t3, sm_cL.BK h.1.1 rfl rfl rfl rfl, PLF_of cL_16 hL hP h.n6⟩
/-- what the reference's lay asks, at ints that are like the law's -/
theorem INV.L2 (h : INV ci cl cr dy nx n) {c1 : aI} (hs : sm ci c1) : (∀ i, i < n → WF c1 i) ∧ (∀ k, k < 4 → ∃ v, v ≤ 4 ∧ c1 49 k = nI v) ∧ (∀ cs, FSI (up2 c1 43 0 0) cl cs n → ∀ b, b < n → ¬ kd (c1 44 b) < 0 → ∀ np, c1 49 (kd (c1 44 b)).toNatClampNeg = nI np → 0 ≤ fpF (ly1 (layC (up2 (up2 c1 43 0 0) 43 16 0) cs b) cs b) b (askF (layC (up2 (up2 c1 43 0 0) 43 16 0) cs b) cs b b + nI 200) np 0) ∧ (∀ cs, FSI (up2 c1 43 0 0) cl cs n → ∃ T, T ≤ 1000 ∧ layC (up2 (up2 c1 43 0 0) 43 16 0) cs n 43 16 = nI T) := by
  have hL := h.1.2.2.1.sm (hs.tr (sm_cL (ci := c1)))
  have hP := h.1.2.2.2.1.sm (hs.tr (sm_cL (ci := c1)))
  refine ⟨fun i hi => hs.WF (h.wf i hi), fun k hk => ?_, fun cs hf b hb hk np hnp => ?_, fun cs hf => ?_⟩
  · obtain ⟨v, -, v4, e⟩ := h.1.2.2.2.1.sm hs k hk
    exact ⟨v, v4, e⟩
  · have e44 : cL c1 44 = c1 44 := cL_k (by decide)
    have e49 : cL c1 49 = c1 49 := cL_k (by decide)
    exact lay_fi2 (c := cL c1) cL_16 hL hP h.n6 b hb (by rw [e44]; exact hk) np (by rw [e44, e49]; exact hnp)
  · obtain ⟨T, t1, t2, -⟩ := lay_T (l := cs) (n := n) (cL_16 (ci := c1)) hL hP h.n6
    exact ⟨T, by omega, t2⟩
theorem up13 {c : aI} {k : Nat} (h : ¬ k = 43) : up2 c 43 13 1 k = c k := up2_k _ _ _ h
theorem LK13 {c : aI} : LK c (up2 c 43 13 1) n := ⟨sm.up (by decide), up2_j _ _ _ (by decide), fun a _ => ⟨by rw [up13 (by decide)], by rw [up13 (by decide)], by rw [up13 (by decide)]⟩⟩
theorem RK13 {c : aI} : RK c (up2 c 43 13 1) n := ⟨sm.up (by decide), up2_j _ _ _ (by decide), fun a _ => ⟨by rw [up13 (by decide)], by rw [up13 (by decide)]⟩⟩
/-- behind lay: the plan is the reference's (c1: the ints as its lay begins), the rest is as it was -/
theorem INV_lay (h : INV ci cl cr dy nx n) {c1 : aI} {cs : aL} {T : Nat} (hk : ∀ k, k < 10 ∨ 17 < k → ¬ k = 1 → c1 k = ci k) (h18 : c1 1 8 = ci 1 8) (h17 : c1 1 7 = 1) (hf : FSI (up2 c1 43 0 0) cl cs n) (hT : T ≤ 1000) (h16 : layC (cL c1) cs n 43 16 = nI T)
    (p2 : ∀ a, a < n → c1 11 a = layC (cL c1) cs n 55 a ∧ c1 12 a = layC (cL c1) cs n 56 a) (p3 : c1 10 6 = nI T) (p4 : ∃ g, OA c1 g n) (p5 : RR (pnC (cL c1) cs n T) c1 n) (p6 : c1 14 6 = pnC (cL c1) cs n T 43 18) : INV (up2 (pnC (cL c1) cs n T) 43 13 1) cs cr dy nx n := by
  have h6 := h.n6
  have hs : sm ci c1 := sm.of fun k a b _ => hk k (by omega) (by omega)
  have hsL : sm ci (cL c1) := hs.tr sm_cL
  have hw : ∀ i, i < n → WF (cL c1) i := fun i hi => hsL.WF (h.wf i hi)
  have hLS : LSp (cL c1) (cl 48) cs n := (LSp_f hf).sm ((sm.up (by decide)).sy.tr sm_cL)
  have hL := h.1.2.2.1.sm hsL
  have hP := h.1.2.2.2.1.sm hsL
  obtain ⟨T2, t1, t2, -⟩ := lay_T (l := cs) (n := n) (cL_16 (ci := c1)) hL hP h6
  have eT : T2 = T := k_eq (t2.symm.trans h16) (by omega) hT
  subst eT
  generalize hc : up2 (pnC (cL c1) cs n T2) 43 13 1 = c2
  have kk : ∀ k, k < 43 ∨ (43 < k ∧ k < 55) ∨ 63 < k → c2 k = c1 k := fun k hq => by rw [← hc, up13 (by omega), pn_k hq, cL_k (by omega)]
  have kj : ∀ j, ¬ j = 0 → ¬ j = 13 → ¬ j = 16 → ¬ j = 18 → c2 43 j = ci 43 j := fun j a b c d => by rw [← hc, up2_j _ _ _ b, pn_43 c d, cL_j a c, hk 43 (by omega) (by omega)]
  have hl : EL cl cs := EL.f hf
  have hLK : LK (layC (cL c1) cs n) c2 n := by rw [← hc]; exact pn_LK.tr LK13
  have hRK : RK (pnC (cL c1) cs n T2) c2 n := by rw [← hc]; exact RK13
  have hPN : PN c2 (cl 48) n T2 := by
    have q := PN_lay cL_16 t1 t2 h6 hw hLS
    rw [← hc]
    exact q.mv LK13 RK13
  have e16 : c2 43 16 = nI T2 := hLK.2.1.trans t2
  have hs2 : sm ci c2 := sm.of fun k a b _ => (kk k (by omega)).trans (hk k (by omega) (by omega))
  have h48 := hl 48 (by decide) (by decide) (by decide) (by decide) (by decide)
  obtain ⟨a1, ⟨f1, f2, f3, f4, f5, f6, f7, f8, -⟩, a3, a4, a5, a6, a7⟩ := h
  have kc : ∀ k, k < 10 ∨ 17 < k ∧ k < 43 ∨ (43 < k ∧ k < 55) ∨ 63 < k → ¬ k = 1 → c2 k = ci k := fun k hq h1 => (kk k (by omega)).trans (hk k (by omega) h1)
  have c58 : c2 58 = ci 58 := by
    have e1 : pnC (cL c1) cs n T2 58 = (clrC (up2 (layC (cL c1) cs n) 43 18 0) n) 58 := by
      show rou _ n (T2 + 1) 58 = _
      rw [rou_e]
      exact (fold_sm n _ _).1 58 (by decide) (by decide)
    have e2 : ∀ m, clrC (up2 (layC (cL c1) cs n) 43 18 0) m 58 = up2 (layC (cL c1) cs n) 43 18 0 58 := by
      intro m
      induction m with
      | zero => rfl
      | succ m ih => exact (up2_k _ _ _ (by decide)).trans ih
    rw [← hc, up13 (by decide), e1, e2 n, up2_k _ _ _ (by decide), (lay_sm (cL c1) cs n).1 58 (by decide) (by decide) (by decide) (by decide), cL_k (by decide), hk 58 (by omega) (by omega)]
  refine ⟨a1.mv hs2 (kc 2 (by omega) (by omega)) (kc 5 (by omega) (by omega)) (kc 6 (by omega) (by omega)) (kc 7 (by omega) (by omega)) (kj 1 (by decide) (by decide) (by decide) (by decide)) h48, ⟨fun p hp => ⟨?_, fun j hj => ?_⟩, f2, fun p hp => ?_, ⟨fun a ha => ?_, fun p hp j hj => ?_⟩, fun i hi => ?_, fun i hi => ?_, fun p hp => ?_, fun i hi => ?_, T2, by omega, e16⟩, ⟨?_, ?_, ?_, Or.inr (by rw [← hc, up2_s])⟩, fun _ => ⟨T2, by rw [h48]; exact hPN, fun a ha => ?_, ?_, ?_, RR_mv p5 hRK (fun b hb => ?_), ?_⟩, a5.mv (kc 67 (by omega) (by omega)) (kc 68 (by omega) (by omega)) (kc 69 (by omega) (by omega)) (kc 70 (by omega) (by omega)) (hl 71 (by decide) (by decide) (by decide) (by decide) (by decide)), a6, a7⟩
  · rw [kc _ (by omega) (by omega), kc 52 (by omega) (by omega)]; exact (f1 p hp).1
  · rw [hl _ (by omega) (by omega) (by omega) (by omega) (by omega), hl 53 (by decide) (by decide) (by decide) (by decide) (by decide)]; exact (f1 p hp).2 j hj
  · rw [kc 52 (by omega) (by omega)]; exact f3 p hp
  · rw [hl 25 (by decide) (by decide) (by decide) (by decide) (by decide), hl 65 (by decide) (by decide) (by decide) (by decide) (by decide)]; exact f4.1 a ha
  · rw [hl _ (by omega) (by omega) (by omega) (by omega) (by omega), hl 59 (by decide) (by decide) (by decide) (by decide) (by decide)]; exact f4.2 p hp j hj
  · rw [hl 21 (by decide) (by decide) (by decide) (by decide) (by decide), hl 54 (by decide) (by decide) (by decide) (by decide) (by decide)]; exact f5 i hi
  · rw [kc 24 (by omega) (by omega)]; exact f6 i hi
  · rw [kc _ (by omega) (by omega), c58]; exact f7 p hp
  · rw [hl 22 (by decide) (by decide) (by decide) (by decide) (by decide), hl 60 (by decide) (by decide) (by decide) (by decide) (by decide)]; exact f8 i hi
  · rw [kk 1 (by omega), h17, ← hc, up2_s]
  · rw [kk 1 (by omega), h18, kj 19 (by decide) (by decide) (by decide) (by decide)]; exact a3.2.1
  · rw [kc 18 (by omega) (by omega), kj 19 (by decide) (by decide) (by decide) (by decide), kj 20 (by decide) (by decide) (by decide) (by decide), kj 21 (by decide) (by decide) (by decide) (by decide), kj 22 (by decide) (by decide) (by decide) (by decide), kj 23 (by decide) (by decide) (by decide) (by decide)]; exact a3.2.2.1
  · rw [kk 11 (by omega), kk 12 (by omega), (hLK.2.2 a ha).1, (hLK.2.2 a ha).2.1]; exact p2 a ha
  · rw [kk 10 (by omega), p3, e16]
  · obtain ⟨g, hg⟩ := p4
    exact ⟨g, OA_mv hg (kk 11 (by omega)) (kk 13 (by omega))⟩
  · rw [kk 15 (by omega), kk 16 (by omega), kk 17 (by omega)]; exact ⟨rfl, rfl, rfl⟩
  · rw [kk 14 (by omega), p6, hRK.2.1]
theorem A_lay (h : INV ci cl cr dy nx n) {T : Nat} (hT : T ≤ 128) (h16 : layC (cL ci) (sC (cL ci) (cl 48)) n 43 16 = nI T) (p : p1_lay (cL ci) (cl 48) n (T + 1) ci cl cr dy nx r M' nx') : ∃ v c1, r = some (.int v) ∧ M' = mm c1 cl cr dy ∧ nx = nx' ∧ sm ci c1 ∧ c1 43 1 = nI n ∧ HF v (p2_lay n c1 cl cr dy nx) := by
  have h6 := h.n6
  have hL0 := h.1.2.2.1
  have hP0 := h.1.2.2.2.1
  rcases p with ⟨a1, rfl, rfl, rfl⟩ | ⟨a1, a2, rfl, rfl, rfl⟩ | ⟨a1, a2, c1, c2, hA, hR, h146, hq, rfl, rfl, rfl⟩
  · refine ⟨_, _, rfl, rfl, rfl, sm.rf, h.1.2.1, fun r2 M2 nx2 p2 => ?_⟩
    rcases p2 with ⟨-, rfl, rfl, rfl⟩ | ⟨b1, -⟩
    · exact ⟨rfl, h.z0⟩
    · exact absurd a1 b1
  · refine ⟨_, _, rfl, rfl, rfl, sm.rf, h.1.2.1, fun r2 M2 nx2 p2 => ?_⟩
    rcases p2 with ⟨b1, -⟩ | ⟨-, cs, T', hf, hT', h16', rfl, rfl, rfl⟩
    · exact absurd b1 a1
    · have z13 : ¬ ci 43 13 = 0 := fun z => a2 (h.2.2.1.1.trans z)
      obtain ⟨T0, ⟨t1, t2, tq⟩, p2, p3, p4, p5, p6⟩ := h.2.2.2.1 z13
      have hLS : LSp ci (cl 48) cs n := (LSp_f hf).sm (sm.up (by decide)).sy
      obtain ⟨k1, k2⟩ := tq (cL ci) cs sm_cL cL_16 hLS
      have eT : T' = T0 := k_eq (h16'.symm.trans (k1.2.1.symm.trans t2)) hT' (by omega)
      subst eT
      refine ⟨by rw [p3, t2], ?_⟩
      have hLK : LK ci (up2 (pnC (cL ci) cs n T') 43 13 1) n := (k1.sy.tr pn_LK).tr LK13
      have hRK : RK ci (up2 (pnC (cL ci) cs n T') 43 13 1) n := k2.sy.tr RK13
      have e1 : ci 1 7 = 1 := h.2.2.1.1.trans (h.2.2.1.2.2.2.resolve_left z13)
      refine NXT.i (INV_lay h (c1 := ci) (fun k _ _ => rfl) rfl e1 hf hT' h16' (fun a ha => ?_) (p3.trans t2) p4 (RR_mv p5 k2.sy (fun b hb => ⟨rfl, rfl, rfl⟩)) (p6.trans k2.2.1))
      rw [← (k1.2.2 a ha).1, ← (k1.2.2 a ha).2.1]
      exact p2 a ha
  · generalize hc : up2 c2 1 7 1 = c3
    have k3 : ∀ k, ¬ k = 1 → c3 k = c2 k := fun k hk => by rw [← hc, up2_k _ _ _ hk]
    have kq : ∀ k, k < 10 ∨ 17 < k → c2 k = ci k := fun k hk => (hq k (by omega) (by omega) (by omega) (by omega)).trans (hA.2.2.2 k (by omega) (by omega) (by omega) (by omega))
    have hs : sm ci c3 := sm.of fun k a b _ => (k3 k (by omega)).trans (kq k (by omega))
    refine ⟨_, c3, rfl, rfl, rfl, hs, by rw [k3 43 (by decide), kq 43 (by omega)]; exact h.1.2.1, fun r2 M2 nx2 p2 => ?_⟩
    rcases p2 with ⟨b1, -⟩ | ⟨-, cs, T', hf, hT', h16', rfl, rfl, rfl⟩
    · exact absurd b1 a1
    · have hw : ∀ i, i < n → WF (cL c3) i := fun i hi => (hs.tr sm_cL).WF (h.wf i hi)
      have hLS : LSp (cL c3) (cl 48) cs n := (LSp_f hf).sm ((sm.up (by decide)).sy.tr sm_cL)
      have hsB : sm (cL ci) (cL c3) := sm_cL.sy.tr (hs.tr sm_cL)
      have hLS2 : LSp (cL c3) (cl 48) (sC (cL ci) (cl 48)) n := LSp_s.sm hsB
      have el : layC (cL c3) cs n = layC (cL c3) (sC (cL ci) (cl 48)) n := lay_l h6 hw hLS hLS2 n (Nat.le_refl n)
      have hLK : LK (layC (cL ci) (sC (cL ci) (cl 48)) n) (layC (cL c3) cs n) n := by rw [el]; exact lay_k hsB (cL_16.trans cL_16.symm) n
      have eT : T' = T := k_eq (h16'.symm.trans (hLK.2.1.trans h16)) hT' (by omega)
      subst eT
      have hRK : RK (pnC (cL ci) (sC (cL ci) (cl 48)) n T') (pnC (cL c3) cs n T') n := (RK.clr hLK).rou (T' + 1)
      have e10 : c2 10 6 = nI T' := by rw [hq 10 (by decide) (by decide) (by decide) (by decide), hA.2.1]; exact h16
      refine ⟨by rw [e10], NXT.i (INV_lay h (c1 := c3) (fun k hk h1 => (k3 k h1).trans (kq k hk)) ?_ ?_ hf hT' h16' (fun a ha => ?_) ?_ ?_ (RR_mv hR hRK (fun b hb => ?_)) ?_)⟩
      · rw [← hc, up2_j _ _ _ (by decide), kq 1 (by omega)]
      · rw [← hc, up2_s]
      · rw [k3 11 (by decide), k3 12 (by decide), hq 11 (by decide) (by decide) (by decide) (by decide), hq 12 (by decide) (by decide) (by decide) (by decide), (hLK.2.2 a ha).1, (hLK.2.2 a ha).2.1]
        exact hA.1 a ha
      · rw [k3 10 (by decide)]; exact e10
      · obtain ⟨g, hg⟩ := hA.2.2.1
        exact ⟨g, OA_mv hg (by rw [k3 11 (by decide), hq 11 (by decide) (by decide) (by decide) (by decide)]) (by rw [k3 13 (by decide), hq 13 (by decide) (by decide) (by decide) (by decide)])⟩
      · rw [k3 15 (by decide), k3 16 (by decide), k3 17 (by decide)]; exact ⟨rfl, rfl, rfl⟩
      · rw [k3 14 (by decide), h146, hRK.2.1]
end
