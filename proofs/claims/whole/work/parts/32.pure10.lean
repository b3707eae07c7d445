/-! a run of the reference -/
abbrev aS : Type := aI × aL
def bgn (s : aS) (a : Nat) : aS :=
  if bgR (up2 s.1 43 22 (s.1 43 22 + 1)) s.2 a ≤ 0 then (bgI (up2 s.1 43 22 (s.1 43 22 + 1)) s.2 a, bgL (up2 s.1 43 22 (s.1 43 22 + 1)) s.2 a)
  else (up2 (up2 (bgI (up2 s.1 43 22 (s.1 43 22 + 1)) s.2 a) 43 20 (bgR (up2 s.1 43 22 (s.1 43 22 + 1)) s.2 a)) 43 21 (nI a), bgL (up2 s.1 43 22 (s.1 43 22 + 1)) s.2 a)
def stp (s : aS) (a : Nat) : aS := if s.1 43 21 < 0 then bgn s a else if nI a ≤ s.1 43 21 then bgn s a else s
def rnS (z t : Int32) (s : aS) (a : Nat) : aS := if z = 0 then stp s a else if s.1 55 a = t then stp s a else s
def rni (z t : Int32) (s : aS) : Nat → aS
  | 0 => s
  | a + 1 => rnS z t (rni z t s a) a
def rno (z : Int32) (n : Nat) (s : aS) : Nat → aS
  | 0 => s
  | t + 1 => rni z (nI t) (rno z n s t) n
def tpC (c : aI) : Nat → aI
  | 0 => c
  | p + 1 => up2 (up2 (tpC c p) 66 p 0) 58 p 0
def rcL (l : aL) : Nat → aL
  | 0 => l
  | i + 1 => up2 (rcL l i) 60 i (rcL l i 54 i)
def rs0 (c : aI) (l : aL) : aS := (up2 (up2 (up2 (tpC c 4) 43 20 0) 43 21 (-2)) 43 22 0, rcL l 16)
def tl (z : Int32) (c : aI) : Nat := if z = 0 then 0 else (c 43 16).toNatClampNeg
def rlF (z : Int32) (c : aI) : Int32 := if z = 0 then 0 else if 0 ≤ c 43 21 then c 55 (c 43 21).toNatClampNeg else c 43 16
theorem tpC_k (c : aI) {k : Nat} (h : ¬ k = 66) (h2 : ¬ k = 58) : ∀ p, tpC c p k = c k
  | 0 => rfl
  | p + 1 => (up2_k _ _ _ h2).trans ((up2_k _ _ _ h).trans (tpC_k c h h2 p))
theorem tpC_z (c : aI) : ∀ n p, p < n → tpC c n 66 p = 0 ∧ tpC c n 58 p = 0
  | 0, p, h => by omega
  | n + 1, p, h => by
    show up2 (up2 (tpC c n) 66 n 0) 58 n 0 66 p = 0 ∧ up2 (up2 (tpC c n) 66 n 0) 58 n 0 58 p = 0
    rw [up2_k _ _ _ (by decide : ¬ 66 = 58)]
    by_cases e : p = n
    · subst e; rw [up2_s, up2_s]; exact ⟨rfl, rfl⟩
    · rw [up2_j _ _ _ e, up2_j _ _ _ e, up2_k _ _ _ (by decide : ¬ 58 = 66)]; exact tpC_z c n p (by omega)
theorem rcL_k (l : aL) {k : Nat} (h : ¬ k = 60) : ∀ i, rcL l i k = l k
  | 0 => rfl
  | i + 1 => (up2_k _ _ _ h).trans (rcL_k l h i)
theorem rcL_r (l : aL) : ∀ n i, i < n → rcL l n 60 i = l 54 i
  | 0, i, h => by omega
  | n + 1, i, h => by
    show up2 (rcL l n) 60 n (rcL l n 54 n) 60 i = _
    by_cases e : i = n
    · subst e; rw [up2_s, rcL_k l (by decide)]
    · rw [up2_j _ _ _ e]; exact rcL_r l n i (by omega)
/-- what holds in a run: c0 at its begin, at most K puts at a PORT -/
def RV (c0 : aI) (n K : Nat) (s : aS) : Prop :=
  (∀ k, ¬ k = 43 → ¬ k = 58 → ¬ k = 66 → s.1 k = c0 k) ∧ (∀ j, ¬ j = 20 → ¬ j = 21 → ¬ j = 22 → s.1 43 j = c0 43 j) ∧
  (∀ p, p < 4 → ∃ tk fd, s.1 66 p = nI tk ∧ c0 52 p = nI fd ∧ tk ≤ fd ∧ fd ≤ 20) ∧ (∀ p, p < 4 → ∃ pu, pu ≤ K ∧ s.1 58 p = nI pu) ∧ (s.1 43 21 = -2 ∨ ∃ f, f < n ∧ s.1 43 21 = nI f)
theorem RV_mono {c0 : aI} {n K K' : Nat} {s : aS} (h : RV c0 n K s) (hk : K ≤ K') : RV c0 n K' s :=
  ⟨h.1, h.2.1, h.2.2.1, fun p hp => by obtain ⟨pu, h1, h2⟩ := h.2.2.2.1 p hp; exact ⟨pu, by omega, h2⟩, h.2.2.2.2⟩
theorem RV_wf {c0 : aI} {n K : Nat} {s : aS} (h : RV c0 n K s) {a : Nat} (hw : WF c0 a) : WF s.1 a := by
  have e4 := h.1 44 (by decide) (by decide) (by decide)
  have e5 := h.1 45 (by decide) (by decide) (by decide)
  have e6 := h.1 46 (by decide) (by decide) (by decide)
  have e7 := h.1 47 (by decide) (by decide) (by decide)
  unfold WF
  rw [e4, e5, e6, e7]
  exact hw
theorem RV_pre {c0 : aI} {n K : Nat} {s : aS} (h : RV c0 n K s) (hK : K < 16) {a : Nat} (hw : WF c0 a) : PRE s.1 a := by
  have e4 := h.1 44 (by decide) (by decide) (by decide)
  have e7 := h.1 47 (by decide) (by decide) (by decide)
  have e2 := h.1 52 (by decide) (by decide) (by decide)
  unfold PRE
  rw [e4, e7, e2]
  refine ⟨fun h1 => ?_, fun h10 => ?_⟩
  · obtain ⟨q, hq, eq⟩ := hw.q (Or.inl h1)
    rw [eq, nI_clamp (by omega)]
    exact h.2.2.1 q hq
  · obtain ⟨q, hq, eq⟩ := hw.q (Or.inr h10)
    rw [eq, nI_clamp (by omega)]
    obtain ⟨pu, p1, p2⟩ := h.2.2.2.1 q hq
    exact ⟨pu, by omega, p2⟩
theorem RV_c1 {c0 : aI} {n K : Nat} {c : aI} {l l' : aL} {v : Int32} (h : RV c0 n K (c, l)) : RV c0 n K (up2 c 43 22 v, l') := by
  obtain ⟨h1, h2, h3, h4, h5⟩ := h
  refine ⟨fun k a b d => ?_, fun j a b d => ?_, fun p hp => ?_, fun p hp => ?_, ?_⟩
  · show up2 c 43 22 v k = _; rw [up2_k _ _ _ a]; exact h1 k a b d
  · show up2 c 43 22 v 43 j = _; rw [up2_j _ _ _ d]; exact h2 j a b d
  · show ∃ tk fd, up2 c 43 22 v 66 p = nI tk ∧ _; rw [up2_k _ _ _ (by decide)]; exact h3 p hp
  · show ∃ pu, pu ≤ K ∧ up2 c 43 22 v 58 p = nI pu; rw [up2_k _ _ _ (by decide)]; exact h4 p hp
  · show up2 c 43 22 v 43 21 = -2 ∨ _; rw [up2_j _ _ _ (by decide)]; exact h5
theorem RV_fl {c0 : aI} {n K : Nat} {c : aI} {l l' : aL} {v : Int32} {a0 : Nat} (ha : a0 < n) (h : RV c0 n K (c, l)) : RV c0 n K (up2 (up2 c 43 20 v) 43 21 (nI a0), l') := by
  obtain ⟨h1, h2, h3, h4, h5⟩ := h
  refine ⟨fun k a b d => ?_, fun j a b d => ?_, fun p hp => ?_, fun p hp => ?_, Or.inr ⟨a0, ha, rfl⟩⟩
  · show up2 (up2 c 43 20 v) 43 21 (nI a0) k = _; rw [up2_k _ _ _ a, up2_k _ _ _ a]; exact h1 k a b d
  · show up2 (up2 c 43 20 v) 43 21 (nI a0) 43 j = _; rw [up2_j _ _ _ b, up2_j _ _ _ a]; exact h2 j a b d
  · show ∃ tk fd, up2 (up2 c 43 20 v) 43 21 (nI a0) 66 p = nI tk ∧ _; rw [up2_k _ _ _ (by decide), up2_k _ _ _ (by decide)]; exact h3 p hp
  · show ∃ pu, pu ≤ K ∧ up2 (up2 c 43 20 v) 43 21 (nI a0) 58 p = nI pu; rw [up2_k _ _ _ (by decide), up2_k _ _ _ (by decide)]; exact h4 p hp
theorem RV_bg {c0 : aI} {n K : Nat} {c : aI} {l l' : aL} {a : Nat} (hw : WF c0 a) (h : RV c0 n K (c, l)) : RV c0 n (K + 1) (bgI c l a, l') := by
  have hm : RV c0 n (K + 1) (c, l') := RV_mono (K := K) h (by omega)
  have e4 := h.1 44 (by decide) (by decide) (by decide)
  have e7 := h.1 47 (by decide) (by decide) (by decide)
  have e2 := h.1 52 (by decide) (by decide) (by decide)
  simp only at e4 e7 e2
  unfold bgI
  split
  · rename_i hwh
    split
    · rename_i h1
      rw [e4] at h1
      obtain ⟨q, hq, eq⟩ := hw.q (Or.inl h1)
      rw [e7, eq, nI_clamp (by omega)]
      obtain ⟨m1, m2, m3, m4, m5⟩ := hm
      refine ⟨fun k a b d => ?_, fun j a b d => ?_, fun p hp => ?_, fun p hp => ?_, ?_⟩
      · show up2 c 66 q (c 66 q + 1) k = _; rw [up2_k _ _ _ d]; exact m1 k a b d
      · show up2 c 66 q (c 66 q + 1) 43 j = _; rw [up2_k _ _ _ (by decide)]; exact m2 j a b d
      · show ∃ tk fd, up2 c 66 q (c 66 q + 1) 66 p = nI tk ∧ _
        obtain ⟨tk, fd, g1, g2, g3, g4⟩ := m3 p hp
        by_cases e : p = q
        · subst e
          rw [up2_s]
          refine ⟨tk + 1, fd, ?_, g2, ?_, g4⟩
          · show c 66 p + 1 = _; rw [show c 66 p = nI tk from g1]; exact nI_1 tk
          · rcases Nat.lt_or_ge tk fd with q2 | q2
            · omega
            · exfalso
              rw [whF, if_pos (by rw [e4]; exact h1), e7, eq, nI_clamp (by omega), e2, show c 66 p = nI tk from g1, g2, show tk = fd by omega, if_pos rfl] at hwh
              exact absurd hwh (by decide)
        · rw [up2_j _ _ _ e]; exact ⟨tk, fd, g1, g2, g3, g4⟩
      · show ∃ pu, pu ≤ K + 1 ∧ up2 c 66 q (c 66 q + 1) 58 p = nI pu; rw [up2_k _ _ _ (by decide)]; exact m4 p hp
      · show up2 c 66 q (c 66 q + 1) 43 21 = -2 ∨ _; rw [up2_k _ _ _ (by decide)]; exact m5
    · split
      · exact hm
      · split
        · rename_i h10
          rw [e4] at h10
          obtain ⟨q, hq, eq⟩ := hw.q (Or.inr h10)
          rw [e7, eq, nI_clamp (by omega)]
          obtain ⟨m1, m2, m3, m4, m5⟩ := hm
          refine ⟨fun k a b d => ?_, fun j a b d => ?_, fun p hp => ?_, fun p hp => ?_, ?_⟩
          · show up2 c 58 q (c 58 q + 1) k = _; rw [up2_k _ _ _ b]; exact m1 k a b d
          · show up2 c 58 q (c 58 q + 1) 43 j = _; rw [up2_k _ _ _ (by decide)]; exact m2 j a b d
          · show ∃ tk fd, up2 c 58 q (c 58 q + 1) 66 p = nI tk ∧ _; rw [up2_k _ _ _ (by decide)]; exact m3 p hp
          · show ∃ pu, pu ≤ K + 1 ∧ up2 c 58 q (c 58 q + 1) 58 p = nI pu
            obtain ⟨pu, g1, g2⟩ := h.2.2.2.1 p hp
            by_cases e : p = q
            · subst e
              rw [up2_s]
              exact ⟨pu + 1, by omega, by show c 58 p + 1 = _; rw [show c 58 p = nI pu from g2]; exact nI_1 pu⟩
            · rw [up2_j _ _ _ e]; exact ⟨pu, by omega, g2⟩
          · show up2 c 58 q (c 58 q + 1) 43 21 = -2 ∨ _; rw [up2_k _ _ _ (by decide)]; exact m5
        · exact hm
  · exact hm
theorem RV_bgn {c0 : aI} {n K : Nat} {s : aS} {a : Nat} (ha : a < n) (hw : WF c0 a) (h : RV c0 n K s) : RV c0 n (K + 1) (bgn s a) := by
  obtain ⟨c, l⟩ := s
  unfold bgn
  split
  · exact RV_bg hw (RV_c1 h (l' := l))
  · exact RV_fl ha (RV_bg hw (RV_c1 h (l' := l)) (l' := l))
theorem RV_stp {c0 : aI} {n K : Nat} {s : aS} {a : Nat} (ha : a < n) (hw : WF c0 a) (h : RV c0 n K s) : RV c0 n (K + 1) (stp s a) := by
  unfold stp
  split
  · exact RV_bgn ha hw h
  · split
    · exact RV_bgn ha hw h
    · exact RV_mono h (by omega)
/-- how many of the first n are so -/
def cb (P : Nat → Bool) : Nat → Nat
  | 0 => 0
  | b + 1 => cb P b + (if P b then 1 else 0)
theorem cb_le (P : Nat → Bool) : ∀ n, cb P n ≤ n
  | 0 => Nat.le_refl 0
  | n + 1 => by have := cb_le P n; simp only [cb]; split <;> omega
theorem cb_mono {P Q : Nat → Bool} : ∀ n, (∀ b, b < n → P b = true → Q b = true) → cb P n ≤ cb Q n
  | 0, _ => Nat.le_refl 0
  | n + 1, h => by
    have ih := cb_mono (P := P) (Q := Q) n (fun b hb => h b (by omega))
    have h1 := h n (by omega)
    simp only [cb]
    split
    · rename_i hp; rw [if_pos (h1 hp)]; omega
    · split <;> omega
theorem cb_lt {P Q : Nat → Bool} : ∀ n a, a < n → P a = false → Q a = true → (∀ b, b < n → P b = true → Q b = true) → cb P n + 1 ≤ cb Q n
  | 0, a, h, _, _, _ => by omega
  | n + 1, a, h, hp, hq, hm => by
    simp only [cb]
    by_cases e : a = n
    · subst e
      have := cb_mono (P := P) (Q := Q) a (fun b hb => hm b (by omega))
      rw [hp, hq]; simp only [Bool.false_eq_true, if_false, if_true]; omega
    · have ih := cb_lt (P := P) (Q := Q) n a (by omega) hp hq (fun b hb => hm b (by omega))
      have h1 := hm n (by omega)
      split
      · rename_i hp2; rw [if_pos (h1 hp2)]; omega
      · split <;> omega
/-- b began before (t, a) -/
def bgd (z : Int32) (T : Nat → Int32) (t a b : Nat) : Bool := if z = 0 then decide (0 < t ∨ b < a) else decide (T b < nI t ∨ (T b = nI t ∧ b < a))
theorem bgd_a {z : Int32} {T : Nat → Int32} {t a b : Nat} (h : bgd z T t a b = true) : bgd z T t (a + 1) b = true := by
  unfold bgd at h ⊢
  split at h
  · rename_i hz; rw [if_pos hz]; rw [decide_eq_true_iff] at h ⊢; omega
  · rename_i hz; rw [if_neg hz]; rw [decide_eq_true_iff] at h ⊢; rcases h with h | ⟨h1, h2⟩
    · exact Or.inl h
    · exact Or.inr ⟨h1, by omega⟩
theorem bgd_t {z : Int32} {T : Nat → Int32} {t n b : Nat} (ht : t < 2000) (h : bgd z T t n b = true) : bgd z T (t + 1) 0 b = true := by
  unfold bgd at h ⊢
  split at h
  · rename_i hz; rw [if_pos hz]; rw [decide_eq_true_iff]; exact Or.inl (by omega)
  · rename_i hz; rw [if_neg hz]; rw [decide_eq_true_iff] at h ⊢
    refine Or.inl ?_
    rw [Int32.lt_iff_toInt_lt, nI_toInt (by omega)] 
    rcases h with h | ⟨h1, h2⟩
    · rw [Int32.lt_iff_toInt_lt, nI_toInt (by omega)] at h; omega
    · rw [h1, nI_toInt (by omega)]; omega
theorem RV_st {c0 : aI} {n t a : Nat} {z : Int32} {s : aS} (ha : a < n) (hw : WF c0 a) (hz : z = 0 → t = 0) (h : RV c0 n (cb (bgd z (c0 55) t a) n) s) : RV c0 n (cb (bgd z (c0 55) t (a + 1)) n) (rnS z (nI t) s a) := by
  have hm := cb_mono (P := bgd z (c0 55) t a) (Q := bgd z (c0 55) t (a + 1)) n (fun b _ => bgd_a)
  have e5 := h.1 55 (by decide) (by decide) (by decide)
  unfold rnS
  split
  · rename_i h0
    exact RV_mono (RV_stp ha hw h) (cb_lt n a ha (by rw [bgd, if_pos h0, hz h0]; simp) (by rw [bgd, if_pos h0]; simp) (fun b _ => bgd_a))
  · rename_i h0
    split
    · rename_i ht
      rw [e5] at ht
      exact RV_mono (RV_stp ha hw h) (cb_lt n a ha (by rw [bgd, if_neg h0, ht]; simp [Int32.lt_irrefl]) (by rw [bgd, if_neg h0, ht]; simp) (fun b _ => bgd_a))
    · exact RV_mono h hm
theorem RV_ni {c0 : aI} {n t : Nat} {z : Int32} {s : aS} (hw : ∀ i, i < n → WF c0 i) (hz : z = 0 → t = 0) (h : RV c0 n (cb (bgd z (c0 55) t 0) n) s) : ∀ a, a ≤ n → RV c0 n (cb (bgd z (c0 55) t a) n) (rni z (nI t) s a)
  | 0, _ => h
  | a + 1, ha => RV_st (by omega) (hw a (by omega)) hz (RV_ni hw hz h a (by omega))
theorem RV_no {c0 : aI} {n : Nat} {z : Int32} {s : aS} (hw : ∀ i, i < n → WF c0 i) (h : RV c0 n 0 s) : ∀ t, t < 2000 → (z = 0 → t ≤ 1) → RV c0 n (cb (bgd z (c0 55) t 0) n) (rno z n s t)
  | 0, _, _ => RV_mono h (by omega)
  | t + 1, h1, h2 => RV_mono (RV_ni hw (fun e => by have := h2 e; omega) (RV_no hw h t (by omega) (fun e => by have := h2 e; omega)) n (Nat.le_refl n)) (cb_mono n (fun b _ => bgd_t (by omega)))
theorem bgd_no {z : Int32} {T : Nat → Int32} {t a : Nat} (hz : z = 0 → t = 0) (ht : ¬ z = 0 → T a = nI t) : bgd z T t a a = false := by
  unfold bgd
  split
  · rename_i h0; rw [hz h0]; simp
  · rename_i h0; rw [ht h0]; simp [Int32.lt_irrefl]
theorem bgd_16 {z : Int32} {T : Nat → Int32} {t a n : Nat} (hn : n ≤ 16) (ha : a < n) (hz : z = 0 → t = 0) (ht : ¬ z = 0 → T a = nI t) : cb (bgd z T t a) n < 16 := by
  have := cb_lt (P := bgd z T t a) (Q := fun _ => true) n a ha (bgd_no hz ht) rfl (fun _ _ _ => rfl)
  have := cb_le (fun _ => true) n
  omega
theorem rs0_RV {c : aI} {l : aL} {n : Nat} (hf : ∀ p, p < 4 → ∃ f, f ≤ 20 ∧ c 52 p = nI f) : RV (rs0 c l).1 n 0 (rs0 c l) := by
  refine ⟨fun _ _ _ _ => rfl, fun _ _ _ _ => rfl, fun p hp => ?_, fun p hp => ⟨0, Nat.le_refl 0, ?_⟩, Or.inl rfl⟩
  · obtain ⟨f, h1, h2⟩ := hf p hp
    refine ⟨0, f, ?_, ?_, by omega, h1⟩
    · show tpC c 4 66 p = _; exact (tpC_z c 4 p hp).1
    · show tpC c 4 52 p = _; rw [tpC_k c (by decide) (by decide)]; exact h2
  · show tpC c 4 58 p = _; exact (tpC_z c 4 p hp).2
theorem tl_le {z : Int32} {c : aI} {T : Nat} (h : c 43 16 = nI T) (h2 : T ≤ 1000) : tl z c ≤ 1000 := by
  unfold tl
  split
  · omega
  · rw [h, nI_clamp (by omega)]; exact h2
theorem rs0_WF {c : aI} {l : aL} {i : Nat} (h : WF c i) : WF (rs0 c l).1 i := by
  have e : ∀ k, ¬ k = 43 → ¬ k = 58 → ¬ k = 66 → (rs0 c l).1 k = c k := fun k h1 h2 h3 => by
    show up2 (up2 (up2 (tpC c 4) 43 20 0) 43 21 (-2)) 43 22 0 k = _
    rw [up2_k _ _ _ h1, up2_k _ _ _ h1, up2_k _ _ _ h1, tpC_k c h3 h2]
  unfold WF
  rw [e 44 (by decide) (by decide) (by decide), e 45 (by decide) (by decide) (by decide), e 46 (by decide) (by decide) (by decide), e 47 (by decide) (by decide) (by decide)]
  exact h
theorem RV_f {c0 : aI} {n K : Nat} {c : aI} {l : aL} (h : RV c0 n K (c, l)) (h2 : 0 ≤ c 43 21) : ∃ f, f < n ∧ c 43 21 = nI f := by
  rcases h.2.2.2.2 with e | e
  · exact absurd h2 (by rw [show c 43 21 = -2 from e]; decide)
  · exact e
