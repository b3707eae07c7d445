/-! a run in an order g -/
theorem MR_b {c : aI} {l : aL} {ci : aI} {cl : aL} (hM : MR c l ci cl) : MR (up2 c 43 22 (c 43 22 + 1)) l (up2 ci 18 10 (ci 18 10 + 1)) cl := by
  obtain ⟨⟨m1, m2, m3⟩, m4, m5, m6⟩ := hM
  exact ⟨⟨ukj m1 (by decide) (by decide), ukj m2 (by decide) (by decide), uss (by rw [m3])⟩, fun p hp => ⟨ukk (m4 p hp).1 (by decide) (by decide), ukk (m4 p hp).2 (by omega) (by decide)⟩, m5, m6⟩
theorem ex_p {c : aI} {a : Nat} (hw : WF c a) : ∃ p, c 44 a = 1 ∨ c 44 a = 10 → c 47 a = nI p ∧ p < 4 := by
  by_cases h : c 44 a = 1 ∨ c 44 a = 10
  · obtain ⟨q, h4, e⟩ := hw.q h; exact ⟨q, fun _ => ⟨e, h4⟩⟩
  · exact ⟨0, fun q => absurd q h⟩
theorem ex_pu {c : aI} {a p : Nat} (hp : PRE c a) (h1 : c 44 a = 1 ∨ c 44 a = 10 → c 47 a = nI p ∧ p < 4) : ∃ pu, c 44 a = 10 → c 58 p = nI pu ∧ pu < 16 := by
  by_cases h : c 44 a = 10
  · obtain ⟨pu, h6, e⟩ := hp.2 h
    obtain ⟨e1, h4⟩ := h1 (Or.inr h)
    rw [e1, nI_clamp (by omega)] at e
    exact ⟨pu, fun _ => ⟨e, h6⟩⟩
  · exact ⟨0, fun q => absurd q h⟩
theorem ex_xj {c : aI} {l : aL} {a : Nat} (ha : a < 16) (hw : WF c a) (h0 : whF c l a = 0) : ∃ x j, c 44 a = 9 → (c 46 (3 * a + 0) = nI x ∧ x < a) ∧ l 65 x = lN j ∧ j < 16 := by
  by_cases h : c 44 a = 9
  · obtain ⟨x, hx, e⟩ : ∃ x, x < a ∧ c 46 (3 * a + 0) = nI x := hw.x (by rw [h]; decide) (by rw [h]; decide)
    obtain ⟨j, e2, hj⟩ := wh_8 (wh_0.mpr h0) (Or.inr h)
    unfold vA at e2
    rw [e, nI_clamp (by omega)] at e2
    exact ⟨x, j, fun _ => ⟨⟨e, hx⟩, e2, hj⟩⟩
  · exact ⟨0, 0, fun q => absurd q h⟩
/-- reset: the first p PORTS -/
def RSI (ci ci' : aI) (p : Nat) : Prop := (∀ q, q < p → ci' 23 q = 0 ∧ ci' (26 + 2 * (2 * q + 1)) 1 = 0) ∧ ∀ k, ¬ k = 23 → ¬ k = 28 → ¬ k = 32 → ¬ k = 36 → ¬ k = 40 → ci' k = ci k
theorem RSI_0 {ci : aI} : RSI ci ci 0 := ⟨fun q h => by omega, fun _ _ _ _ _ _ => rfl⟩
theorem RSI_s {ci ci' : aI} {p : Nat} (hp : p < 4) (h : RSI ci ci' p) : RSI ci (up2 (up2 ci' 23 p 0) (26 + 2 * (2 * p + 1)) 1 0) (p + 1) := by
  refine ⟨fun q hq => ?_, fun k a b c d e => (up2_k _ _ _ (by omega)).trans ((up2_k _ _ _ a).trans (h.2 k a b c d e))⟩
  by_cases e : q = p
  · subst e
    exact ⟨by rw [up2_k _ _ _ (by omega), up2_s], by rw [up2_s]⟩
  · obtain ⟨h1, h2⟩ := h.1 q (by omega)
    exact ⟨by rw [up2_k _ _ _ (by omega), up2_j _ _ _ e]; exact h1, by rw [up2_k _ _ _ (by omega), up2_k _ _ _ (by omega)]; exact h2⟩
theorem rs0_i {c : aI} {l : aL} {k : Nat} (h1 : ¬ k = 43) (h2 : ¬ k = 58) (h3 : ¬ k = 66) : (rs0 c l).1 k = c k := by
  show up2 (up2 (up2 (tpC c 4) 43 20 0) 43 21 (-2)) 43 22 0 k = _
  rw [up2_k _ _ _ h1, up2_k _ _ _ h1, up2_k _ _ _ h1, tpC_k c h3 h2]
theorem rs0_l {c : aI} {l : aL} {k : Nat} (h : ¬ k = 60) : (rs0 c l).2 k = l k := rcL_k l h 16
theorem RS_e {c : aI} {l : aL} {ci ci' : aI} {cl : aL} (hN : NP l cl) (h54 : ∀ i, i < 16 → cl 21 i = l 54 i) (h : RSI ci ci' 4) : MR (rs0 c l).1 (rs0 c l).2 (up2 (up2 (up2 ci' 18 8 0) 18 9 (-2)) 18 10 0) (up1 cl 22 (va_cpy (cl 21) (cl 22) 0 0 16)) ∧ MF ci (up2 (up2 (up2 ci' 18 8 0) 18 9 (-2)) 18 10 0) cl (up1 cl 22 (va_cpy (cl 21) (cl 22) 0 0 16)) := by
  refine ⟨⟨⟨?_, ?_, ?_⟩, fun p hp => ⟨?_, ?_⟩, fun i hi => ?_, fun a ha => ?_, fun p hp j hj => ?_⟩, fun k a b c d e f => ?_, fun k a b c d e f => ?_⟩
  · rw [up2_j _ _ _ (by decide), up2_j _ _ _ (by decide), up2_s]; rfl
  · rw [up2_j _ _ _ (by decide), up2_s]; rfl
  · rw [up2_s]; rfl
  · rw [up2_k _ _ _ (by decide), up2_k _ _ _ (by decide), up2_k _ _ _ (by decide), (h.1 p hp).1]
    show _ = tpC c 4 66 p
    exact (tpC_z c 4 p hp).1.symm
  · rw [up2_k _ _ _ (by omega), up2_k _ _ _ (by omega), up2_k _ _ _ (by omega), (h.1 p hp).2]
    show _ = tpC c 4 58 p
    exact (tpC_z c 4 p hp).2.symm
  · rw [up1_s, pk_cpy_in (by omega) (by omega), show 0 + (i - 0) = i by omega]
    show _ = rcL l 16 60 i
    rw [rcL_r l 16 i hi]; exact h54 i hi
  · rw [up1_k _ _ (by decide), rs0_l (by decide)]; exact hN.1 a ha
  · rw [up1_k _ _ (by omega), rs0_l (by decide)]; exact hN.2 p hp j hj
  · rw [up2_k _ _ _ a, up2_k _ _ _ a, up2_k _ _ _ a]; exact h.2 k b c d e f
  · exact up1_k _ _ a
def fG (g : Nat → Nat) (s : aS) : Nat → aS
  | 0 => s
  | i + 1 => stp (fG g s i) (g i)
theorem bgI_k {c : aI} {l : aL} {a k : Nat} (h1 : ¬ k = 58) (h2 : ¬ k = 66) : bgI c l a k = c k := by
  unfold bgI
  repeat' split
  all_goals first | rfl | exact up2_k _ _ _ h1 | exact up2_k _ _ _ h2
theorem bgL_k {c : aI} {l : aL} {a k : Nat} (h1 : ¬ k = 59) (h2 : ¬ k = 60) (h3 : ¬ k = 65) : bgL c l a k = l k := by
  unfold bgL
  repeat' split
  all_goals first | rfl | exact up2_k _ _ _ h3 | exact (up2_k _ _ _ h2).trans (up2_k _ _ _ h3) | exact (up2_k _ _ _ h1).trans (up2_k _ _ _ h3)
theorem bgn_l {s : aS} {a k : Nat} (h1 : ¬ k = 59) (h2 : ¬ k = 60) (h3 : ¬ k = 65) : (bgn s a).2 k = s.2 k := by
  unfold bgn
  split
  · exact bgL_k h1 h2 h3
  · exact bgL_k h1 h2 h3
theorem stp_l {s : aS} {a k : Nat} (h1 : ¬ k = 59) (h2 : ¬ k = 60) (h3 : ¬ k = 65) : (stp s a).2 k = s.2 k := by
  unfold stp
  split
  · exact bgn_l h1 h2 h3
  · split
    · exact bgn_l h1 h2 h3
    · rfl
theorem fG_l {g : Nat → Nat} {s : aS} {k : Nat} (h1 : ¬ k = 59) (h2 : ¬ k = 60) (h3 : ¬ k = 65) : ∀ i, (fG g s i).2 k = s.2 k
  | 0 => rfl
  | i + 1 => (stp_l h1 h2 h3).trans (fG_l h1 h2 h3 i)
theorem fG_RV {c0 : aI} {g : Nat → Nat} {s : aS} {n : Nat} (hw : ∀ i, i < n → WF c0 i) (hg : ∀ i, i < n → g i < n) (h : RV c0 n 0 s) : ∀ i, i ≤ n → RV c0 n i (fG g s i)
  | 0, _ => h
  | i + 1, hi => RV_stp (hg i (by omega)) (hw _ (hg i (by omega))) (fG_RV hw hg h i (by omega))
/-- the ACT that failed is one of the first i -/
def FI (g : Nat → Nat) (i : Nat) (s : aS) : Prop := s.1 43 21 = -2 ∨ ∃ j, j < i ∧ s.1 43 21 = nI (g j)
theorem bgn_21 {s : aS} {a : Nat} : (bgn s a).1 43 21 = s.1 43 21 ∨ (bgn s a).1 43 21 = nI a := by
  unfold bgn
  split
  · refine Or.inl ?_
    show bgI (up2 s.1 43 22 (s.1 43 22 + 1)) s.2 a 43 21 = _
    rw [bgI_k (by decide) (by decide), up2_j _ _ _ (by decide)]
  · refine Or.inr ?_
    simp only [up2_s]
theorem stp_21 {s : aS} {a : Nat} : (stp s a).1 43 21 = s.1 43 21 ∨ (stp s a).1 43 21 = nI a := by
  unfold stp
  split
  · exact bgn_21
  · split
    · exact bgn_21
    · exact Or.inl rfl
theorem fG_FI {g : Nat → Nat} {s : aS} (h : s.1 43 21 = -2) : ∀ i, FI g i (fG g s i)
  | 0 => Or.inl h
  | i + 1 => by
    show FI g (i + 1) (stp (fG g s i) (g i))
    rcases stp_21 (s := fG g s i) (a := g i) with e | e
    · unfold FI
      rw [e]
      rcases fG_FI h i with q | ⟨j, hj, q⟩
      · exact Or.inl q
      · exact Or.inr ⟨j, by omega, q⟩
    · exact Or.inr ⟨i, by omega, e⟩
theorem stp_b {s : aS} {a : Nat} (h : s.1 43 21 = -2 ∨ ¬ s.1 43 21 ≤ nI a) : stp s a = bgn s a := by
  unfold stp
  rcases h with h | h
  · rw [if_pos (by rw [h]; decide)]
  · split
    · rfl
    · rw [if_pos (Int32.le_of_lt (Int32.not_le.mp h))]
theorem stp_n {g : Nat → Nat} {s : aS} {i n : Nat} (hn : n ≤ 16) (hi : i < n) (hg : ∀ i, i < n → g i < n) (hinj : ∀ i j, i < j → j < n → ¬ g i = g j) (hF : FI g i s) (h1 : ¬ s.1 43 21 = -2) (h2 : s.1 43 21 ≤ nI (g i)) : stp s (g i) = s := by
  rcases hF with q | ⟨j, hj, q⟩
  · exact absurd q h1
  · have e1 := hg j (by omega)
    have e2 := hg i hi
    rw [q, nI_leI (by omega) (by omega)] at h2
    have := hinj j i hj hi
    unfold stp
    rw [q, if_neg (nI_nneg (by omega)), if_neg (by rw [nI_leI (by omega) (by omega)]; omega)]
/-- what runInOrder keeps: behind the first i of the order g -/
def RO (c : aI) (l : aL) (g : Nat → Nat) (ci ci' : aI) (cl cl' : aL) (i : Nat) : Prop := MR (fG g (rs0 c l) i).1 (fG g (rs0 c l) i).2 ci' cl' ∧ MF ci ci' cl cl'
theorem RO_b {c : aI} {l : aL} {g : Nat → Nat} {ci ci' c2 : aI} {cl cl' l2 : aL} {i : Nat} (h : RO c l g ci ci' cl cl' i) (hs : stp (fG g (rs0 c l) i) (g i) = bgn (fG g (rs0 c l) i) (g i)) (hB : BG (fG g (rs0 c l) i) (g i) ci' c2 cl' l2) : RO c l g ci c2 cl l2 (i + 1) := by
  refine ⟨?_, h.2.tr hB.2⟩
  show MR (stp (fG g (rs0 c l) i) (g i)).1 (stp (fG g (rs0 c l) i) (g i)).2 c2 l2
  rw [hs]; exact hB.1
theorem RO_n {c : aI} {l : aL} {g : Nat → Nat} {ci ci' : aI} {cl cl' : aL} {i : Nat} (h : RO c l g ci ci' cl cl' i) (hs : stp (fG g (rs0 c l) i) (g i) = fG g (rs0 c l) i) : RO c l g ci ci' cl cl' (i + 1) := by
  refine ⟨?_, h.2⟩
  show MR (stp (fG g (rs0 c l) i) (g i)).1 (stp (fG g (rs0 c l) i) (g i)).2 ci' cl'
  rw [hs]; exact h.1
/-- all that a run takes for granted -/
def RG (c : aI) (nu : Nat → Int64) (l : aL) (ci : aI) (cl : aL) (cr : Nat → Nat → Option Nat) (dy : aM) (n : Nat) : Prop :=
  BK c nu ci cr dy n ∧ FD c l ci cl ∧ TR cr ∧ NP l cl ∧ (∀ i, i < 16 → cl 21 i = l 54 i) ∧ (∀ p, p < 4 → ∃ f, f ≤ 20 ∧ c 52 p = nI f) ∧ (∀ a, a < n → RX c a) ∧ ∀ a, a < n → c 44 a = 0 → SL c nu a = l 48 a
theorem sm_RV {c0 : aI} {n K : Nat} {s : aS} (h : RV c0 n K s) : sm c0 s.1 := sm.of fun k h1 h2 _ => h.1 k (by omega) (by omega) (by omega)
theorem sm_rs0 {c : aI} {l : aL} : sm c (rs0 c l).1 := sm.of fun k h1 h2 _ => rs0_i (by omega) (by omega) (by omega)
theorem RG_at {c : aI} {nu : Nat → Int64} {l : aL} {ci ci' : aI} {cl cl' : aL} {cr : Nat → Nat → Option Nat} {dy : aM} {n i : Nat} {g : Nat → Nat} (h : RG c nu l ci cl cr dy n) (hg : ∀ i, i < n → g i < n) (hi : i ≤ n) (hR : RO c l g ci ci' cl cl' i) : RV (rs0 c l).1 n i (fG g (rs0 c l) i) ∧ BK (fG g (rs0 c l) i).1 nu ci' cr dy n ∧ FD (fG g (rs0 c l) i).1 (fG g (rs0 c l) i).2 ci' cl' ∧ (∀ a, a < n → RX (fG g (rs0 c l) i).1 a) ∧ ∀ a, a < n → (fG g (rs0 c l) i).1 44 a = 0 → SL (fG g (rs0 c l) i).1 nu a = (fG g (rs0 c l) i).2 48 a := by
  obtain ⟨hB, hF, hT, hN, h54, hfd, hrx, hC⟩ := h
  have hV : RV (rs0 c l).1 n i (fG g (rs0 c l) i) := fG_RV (fun i hi => rs0_WF (hB.2.2.2.2.1 i hi)) hg (rs0_RV hfd) i hi
  have hs : sm c (fG g (rs0 c l) i).1 := sm_rs0.tr (sm_RV hV)
  refine ⟨hV, hs.BK hB (hR.2.1 2 (by decide) (by decide) (by decide) (by decide) (by decide) (by decide)) (hR.2.1 5 (by decide) (by decide) (by decide) (by decide) (by decide) (by decide)) (hR.2.1 6 (by decide) (by decide) (by decide) (by decide) (by decide) (by decide)) (hR.2.1 7 (by decide) (by decide) (by decide) (by decide) (by decide) (by decide)), fun p hp => ⟨?_, fun j hj => ?_⟩, fun a ha w hw => ?_, fun a ha => ?_⟩
  · rw [hR.2.1 _ (by omega) (by omega) (by omega) (by omega) (by omega) (by omega), hV.1 52 (by decide) (by decide) (by decide), rs0_i (by decide) (by decide) (by decide)]
    exact (hF p hp).1
  · rw [hR.2.2 _ (by omega) (by omega) (by omega) (by omega) (by omega) (by omega), fG_l (by decide) (by decide) (by decide), rs0_l (by decide)]
    exact (hF p hp).2 j hj
  · rw [hs.2.2.1]; exact hrx a ha w hw
  · rw [hs.1, SL_c hs.1 hs.2.1 hs.2.2.1, fG_l (by decide) (by decide) (by decide), rs0_l (by decide)]
    exact hC a ha
