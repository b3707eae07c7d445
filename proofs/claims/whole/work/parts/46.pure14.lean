/-! the class's machine: (c, l) stands for the reference's ints and longs -/
def TR (cr : Nat → Nat → Option Nat) : Prop := ∀ p, p < 4 → cr 19 p = some (26 + 2 * (2 * p)) ∧ cr 20 p = some (26 + 2 * (2 * p + 1))
def FD (c : aI) (l : aL) (ci : aI) (cl : aL) : Prop := ∀ p, p < 4 → ci (26 + 2 * (2 * p)) 1 = c 52 p ∧ ∀ j, j < 20 → cl (27 + 2 * (2 * p)) j = l 53 (20 * p + j)
/-- NUMBERS, and what the PORTS put out -/
def NP (l : aL) (cl : aL) : Prop := (∀ a, a < 16 → cl 25 a = l 65 a) ∧ ∀ p, p < 4 → ∀ j, j < 16 → cl (27 + 2 * (2 * p + 1)) j = l 59 (16 * p + j)
def MR (c : aI) (l : aL) (ci : aI) (cl : aL) : Prop := (ci 18 8 = c 43 20 ∧ ci 18 9 = c 43 21 ∧ ci 18 10 = c 43 22) ∧ (∀ p, p < 4 → ci 23 p = c 66 p ∧ ci (26 + 2 * (2 * p + 1)) 1 = c 58 p) ∧ (∀ i, i < 16 → cl 22 i = l 60 i) ∧ NP l cl
/-- what a run leaves as it was -/
def MF (ci ci' : aI) (cl cl' : aL) : Prop := (∀ k, ¬ k = 18 → ¬ k = 23 → ¬ k = 28 → ¬ k = 32 → ¬ k = 36 → ¬ k = 40 → ci' k = ci k) ∧ (∀ k, ¬ k = 22 → ¬ k = 25 → ¬ k = 29 → ¬ k = 33 → ¬ k = 37 → ¬ k = 41 → cl' k = cl k)
theorem MF.rf {ci : aI} {cl : aL} : MF ci ci cl cl := ⟨fun _ _ _ _ _ _ _ => rfl, fun _ _ _ _ _ _ _ => rfl⟩
theorem MF.tr {ci ci' c2 : aI} {cl cl' l2 : aL} (h : MF ci ci' cl cl') (h' : MF ci' c2 cl' l2) : MF ci c2 cl l2 := ⟨fun k a b c d e f => (h'.1 k a b c d e f).trans (h.1 k a b c d e f), fun k a b c d e f => (h'.2 k a b c d e f).trans (h.2 k a b c d e f)⟩
theorem MF.i {ci ci' : aI} {cl cl' : aL} {k j : Nat} {v : Int32} (h : MF ci ci' cl cl') (hk : k = 18 ∨ k = 23 ∨ k = 28 ∨ k = 32 ∨ k = 36 ∨ k = 40) : MF ci (up2 ci' k j v) cl cl' := ⟨fun q a b c d e f => (up2_k _ _ _ (by omega)).trans (h.1 q a b c d e f), h.2⟩
theorem MF.l {ci ci' : aI} {cl cl' : aL} {k j : Nat} {v : Int64} (h : MF ci ci' cl cl') (hk : k = 22 ∨ k = 25 ∨ k = 29 ∨ k = 33 ∨ k = 37 ∨ k = 41) : MF ci ci' cl (up2 cl' k j v) := ⟨h.1, fun q a b c d e f => (up2_k _ _ _ (by omega)).trans (h.2 q a b c d e f)⟩
theorem ukk {α : Type} {A B : Nat → Nat → α} {k j k' j' q r q' r' : Nat} {v v' : α} (h : A q r = B q' r') (h1 : q ≠ k) (h2 : q' ≠ k') : up2 A k j v q r = up2 B k' j' v' q' r' := (congrFun (up2_k A j v h1) r).trans (h.trans (congrFun (up2_k B j' v' h2) r').symm)
theorem ukj {α : Type} {A B : Nat → Nat → α} {k j k' j' r r' : Nat} {v v' : α} (h : A k r = B k' r') (h1 : r ≠ j) (h2 : r' ≠ j') : up2 A k j v k r = up2 B k' j' v' k' r' := (up2_j A k v h1).trans (h.trans (up2_j B k' v' h2).symm)
theorem uss {α : Type} {A B : Nat → Nat → α} {k j k' j' : Nat} {v v' : α} (h : v = v') : up2 A k j v k j = up2 B k' j' v' k' j' := (up2_s A k j v).trans (h.trans (up2_s B k' j' v').symm)
theorem wh_k {c : aI} {l : aL} {a : Nat} {v : Int32} : whF (up2 c 43 22 v) l a = whF c l a := rfl
theorem wh_0 {c : aI} {l : aL} {a : Nat} : whF c l a ≤ 0 ↔ whF c l a = 0 := by
  constructor
  · intro h
    unfold whF at h ⊢
    repeat' split at h
    all_goals first | exact absurd h (by decide) | (simp_all; done) | rfl
  · intro h; rw [h]; exact Int32.le_refl 0
theorem wh_f {c : aI} {l : aL} {a : Nat} (h : ¬ whF c l a = 0) : whF c l a = flF (c 44 a) := by
  unfold whF at h ⊢
  by_cases h1 : c 44 a = 1
  · rw [if_pos h1] at h ⊢
    split at h
    · rename_i q; rw [if_pos q, h1]; rfl
    · exact absurd rfl h
  · rw [if_neg h1] at h ⊢
    by_cases h5 : c 44 a = 5
    · rw [if_pos h5] at h ⊢
      split at h
      · rename_i q; rw [if_pos q, h5]; rfl
      · exact absurd rfl h
    · rw [if_neg h5] at h ⊢
      by_cases h8 : c 44 a = 8 ∨ c 44 a = 9
      · rw [if_pos h8] at h ⊢
        split at h
        · exact absurd rfl h
        · rename_i q
          rw [if_neg q]
          rcases h8 with e | e <;> rw [e] <;> rfl
      · rw [if_neg h8] at h; exact absurd rfl h
/-- the class's answers of failsNow -/
theorem fn_1 {c : aI} {l : aL} {a p : Nat} (h1 : c 44 a = 1) (hp : c 47 a = nI p) (h4 : p < 4) : whF c l a = if c 66 p = c 52 p then 3 else 0 := by
  rw [whF, if_pos h1, hp, nI_clamp (by omega)]
theorem fn_5 {c : aI} {l : aL} {a y : Nat} (h1 : c 44 a = 5) (hy : c 46 (3 * a + 1) = nI y) (h4 : y < 16) : whF c l a = if l 65 y = 0 then 1 else 0 := by
  rw [whF, if_neg (by rw [h1]; decide), if_pos h1, vA, hy, nI_clamp (by omega)]
theorem fn_8 {c : aI} {l : aL} {a x : Nat} (h1 : c 44 a = 8 ∨ c 44 a = 9) (hx : c 46 (3 * a + 0) = nI x) (h4 : x < 16) : whF c l a = if ¬ l 65 x < 0 ∧ ¬ 15 < l 65 x then 0 else 2 := by
  rw [whF, if_neg (by rcases h1 with e | e <;> rw [e] <;> decide), if_neg (by rcases h1 with e | e <;> rw [e] <;> decide), if_pos h1, vA, hx, nI_clamp (by omega)]
theorem fn_o {c : aI} {l : aL} {a : Nat} (h1 : ¬ c 44 a = 1) (h5 : ¬ c 44 a = 5) (h8 : ¬ c 44 a = 8) (h9 : ¬ c 44 a = 9) : whF c l a = 0 := by
  rw [whF, if_neg h1, if_neg h5, if_neg (fun q => q.elim h8 h9)]
theorem tk_ge {c : aI} {a p tk fd : Nat} (h1 : c 66 p = nI tk) (h2 : c 52 p = nI fd) (h3 : tk ≤ fd) (h4 : fd ≤ 20) : c 52 p ≤ c 66 p ↔ c 66 p = c 52 p := by
  rw [h1, h2, nI_leI (by omega) (by omega), nI_eq (by omega) (by omega)]
  omega
theorem bI_w {c : aI} {l : aL} {a : Nat} {x : Int32} {P : Prop} [Decidable P] (hx : ¬ x = 0) (e : whF c l a = if P then x else 0) : bI (¬ whF c l a = 0) = bI P := by
  rw [e]
  by_cases h : P
  · rw [if_pos h, bI_t h, bI_t hx]
  · rw [if_neg h, bI_f h, bI_f (fun q => q rfl)]
/-- ACT a begins: the class's rows -/
def BG (s : aS) (a : Nat) (ci ci' : aI) (cl cl' : aL) : Prop := MR (bgn s a).1 (bgn s a).2 ci' cl' ∧ MF ci ci' cl cl'
theorem bg_c1 {c : aI} {l : aL} {a : Nat} : whF (up2 c 43 22 (c 43 22 + 1)) l a = whF c l a := rfl
theorem bgn_f {c : aI} {l : aL} {a : Nat} (h : ¬ whF c l a = 0) : bgn (c, l) a = (up2 (up2 (up2 c 43 22 (c 43 22 + 1)) 43 20 (whF c l a)) 43 21 (nI a), l) := by
  have h' : ¬ whF (up2 c 43 22 (c 43 22 + 1)) l a ≤ 0 := fun q => h (wh_0.mp q)
  unfold bgn bgR bgI bgL
  simp only [if_neg h']
  rfl
theorem BG_f {c : aI} {l : aL} {a : Nat} {ci : aI} {cl : aL} (h : ¬ whF c l a = 0) (hM : MR c l ci cl) : BG (c, l) a ci (up2 (up2 (up2 ci 18 10 (ci 18 10 + 1)) 18 8 (flF (c 44 a))) 18 9 (nI a)) cl cl := by
  obtain ⟨⟨m1, m2, m3⟩, m4, m5, m6⟩ := hM
  refine ⟨?_, ((MF.rf.i (Or.inl rfl)).i (Or.inl rfl)).i (Or.inl rfl)⟩
  rw [bgn_f h]
  show MR (up2 (up2 (up2 c 43 22 (c 43 22 + 1)) 43 20 (whF c l a)) 43 21 (nI a)) l _ cl
  refine ⟨⟨?_, ?_, ?_⟩, fun p hp => ?_, m5, m6⟩
  · exact ukj (uss (wh_f h).symm) (by decide) (by decide)
  · exact uss rfl
  · exact ukj (ukj (uss (by rw [m3])) (by decide) (by decide)) (by decide) (by decide)
  · exact ⟨ukk (ukk (ukk (m4 p hp).1 (by decide) (by decide)) (by decide) (by decide)) (by decide) (by decide), ukk (ukk (ukk (m4 p hp).2 (by omega) (by decide)) (by omega) (by decide)) (by omega) (by decide)⟩
/-- ACT a doesn't FAIL: its NUMBER -/
abbrev nmF (c : aI) (l : aL) (a : Nat) : Int64 := cutF (gvF c l a) (c 45 a)
theorem bgn_s {c : aI} {l : aL} {a : Nat} (h : whF c l a = 0) : bgn (c, l) a = (bgI (up2 c 43 22 (c 43 22 + 1)) l a, bgL (up2 c 43 22 (c 43 22 + 1)) l a) := by
  have h' : whF (up2 c 43 22 (c 43 22 + 1)) l a ≤ 0 := wh_0.mpr h
  unfold bgn
  simp only
  rw [if_pos (by unfold bgR; rw [if_pos h']; exact Int32.le_refl 0)]
theorem NP_up {l cl : aL} {a : Nat} {v : Int64} (h : NP l cl) : NP (up2 l 65 a v) (up2 cl 25 a v) := by
  refine ⟨fun b hb => ?_, fun p hp j hj => ?_⟩
  · by_cases e : b = a
    · subst e; rw [up2_s, up2_s]
    · rw [up2_j _ _ _ e, up2_j _ _ _ e]; exact h.1 b hb
  · rw [up2_k _ _ _ (by omega), up2_k _ _ _ (by decide)]; exact h.2 p hp j hj
theorem MR_c1 {c : aI} {l : aL} {a : Nat} {v : Int64} {ci : aI} {cl : aL} (hM : MR c l ci cl) : MR (up2 c 43 22 (c 43 22 + 1)) (up2 l 65 a v) (up2 ci 18 10 (ci 18 10 + 1)) (up2 cl 25 a v) := by
  obtain ⟨⟨m1, m2, m3⟩, m4, m5, m6⟩ := hM
  refine ⟨⟨?_, ?_, ?_⟩, fun p hp => ?_, fun i hi => ?_, NP_up m6⟩
  · rw [up2_j _ _ _ (by decide), up2_j _ _ _ (by decide), m1]
  · rw [up2_j _ _ _ (by decide), up2_j _ _ _ (by decide), m2]
  · rw [up2_s, up2_s, m3]
  · rw [up2_k _ _ _ (by decide), up2_k _ _ _ (by decide : (66 : Nat) ≠ 43), up2_k _ _ _ (by omega), up2_k _ _ _ (by decide : (58 : Nat) ≠ 43)]; exact m4 p hp
  · rw [up2_k _ _ _ (by decide), up2_k _ _ _ (by decide)]; exact m5 i hi
theorem bg_e {c : aI} {l : aL} {a : Nat} (h : whF c l a = 0) : (bgI (up2 c 43 22 (c 43 22 + 1)) l a = if c 44 a = 1 then up2 (up2 c 43 22 (c 43 22 + 1)) 66 (c 47 a).toNatClampNeg (c 66 (c 47 a).toNatClampNeg + 1) else if c 44 a = 9 then up2 c 43 22 (c 43 22 + 1) else if c 44 a = 10 then up2 (up2 c 43 22 (c 43 22 + 1)) 58 (c 47 a).toNatClampNeg (c 58 (c 47 a).toNatClampNeg + 1) else up2 c 43 22 (c 43 22 + 1)) ∧ (bgL (up2 c 43 22 (c 43 22 + 1)) l a = if c 44 a = 1 then up2 l 65 a (nmF c l a) else if c 44 a = 9 then up2 (up2 l 65 a (nmF c l a)) 60 (vA c (up2 l 65 a (nmF c l a)) a 0).toInt32.toNatClampNeg (nmF c l a) else if c 44 a = 10 then up2 (up2 l 65 a (nmF c l a)) 59 (16 * (c 47 a).toNatClampNeg + (c 58 (c 47 a).toNatClampNeg).toNatClampNeg) (nmF c l a) else up2 l 65 a (nmF c l a)) := by
  have h' : whF (up2 c 43 22 (c 43 22 + 1)) l a ≤ 0 := wh_0.mpr h
  constructor
  · unfold bgI; rw [if_pos h']; rfl
  · unfold bgL; rw [if_pos h']; rfl
theorem BG_o {c : aI} {l : aL} {a : Nat} {ci : aI} {cl : aL} (h : whF c l a = 0) (hM : MR c l ci cl) (h1 : ¬ c 44 a = 1) (h9 : ¬ c 44 a = 9) (h10 : ¬ c 44 a = 10) : BG (c, l) a ci (up2 ci 18 10 (ci 18 10 + 1)) cl (up2 cl 25 a (nmF c l a)) := by
  refine ⟨?_, (MF.rf.i (Or.inl rfl)).l (Or.inr (Or.inl rfl))⟩
  rw [bgn_s h]
  simp only [(bg_e h).1, (bg_e h).2, if_neg h1, if_neg h9, if_neg h10]
  exact MR_c1 hM
theorem BG_1 {c : aI} {l : aL} {a p : Nat} {ci : aI} {cl : aL} (h : whF c l a = 0) (hM : MR c l ci cl) (h1 : c 44 a = 1) (hp : c 47 a = nI p) (h4 : p < 4) : BG (c, l) a ci (up2 (up2 ci 18 10 (ci 18 10 + 1)) 23 p (ci 23 p + 1)) cl (up2 cl 25 a (nmF c l a)) := by
  refine ⟨?_, ((MF.rf.i (Or.inl rfl)).i (Or.inr (Or.inl rfl))).l (Or.inr (Or.inl rfl))⟩
  rw [bgn_s h]
  simp only [(bg_e h).1, (bg_e h).2, if_pos h1]
  rw [hp, nI_clamp (by omega)]
  obtain ⟨⟨m1, m2, m3⟩, m4, m5, m6⟩ := MR_c1 (a := a) (v := nmF c l a) hM
  refine ⟨⟨?_, ?_, ?_⟩, fun q hq => ?_, m5, m6⟩
  · exact ukk m1 (by decide) (by decide)
  · exact ukk m2 (by decide) (by decide)
  · exact ukk m3 (by decide) (by decide)
  · obtain ⟨n1, n2⟩ := m4 q hq
    refine ⟨?_, ukk n2 (by omega) (by decide)⟩
    by_cases e : q = p
    · subst e; exact uss (by rw [(hM.2.1 q hq).1])
    · exact ukj n1 e e
theorem BG_9 {c : aI} {l : aL} {a x j : Nat} {ci : aI} {cl : aL} (ha : a < 16) (h : whF c l a = 0) (hM : MR c l ci cl) (h9 : c 44 a = 9) (hx : c 46 (3 * a + 0) = nI x) (hxa : x < a) (hj : l 65 x = lN j) (h6 : j < 16) : BG (c, l) a ci (up2 ci 18 10 (ci 18 10 + 1)) cl (up2 (up2 cl 25 a (nmF c l a)) 22 j (nmF c l a)) := by
  refine ⟨?_, (((MF.rf.i (Or.inl rfl))).l (Or.inr (Or.inl rfl))).l (Or.inl rfl)⟩
  rw [bgn_s h]
  simp only [(bg_e h).1, (bg_e h).2, if_pos h9, if_neg (by rw [h9]; decide : ¬ c 44 a = 1)]
  have e : (vA c (up2 l 65 a (nmF c l a)) a 0).toInt32.toNatClampNeg = j := by
    rw [vA_up hx hxa ha]
    unfold vA
    rw [hx, nI_clamp (by omega), hj, lN_i, nI_clamp (by omega)]
  rw [e]
  obtain ⟨⟨m1, m2, m3⟩, m4, m5, m6⟩ := MR_c1 (a := a) (v := nmF c l a) hM
  refine ⟨⟨m1, m2, m3⟩, m4, fun i hi => ?_, fun b hb => ?_, fun p hp i hi => ?_⟩
  · by_cases e : i = j
    · subst e; rw [up2_s, up2_s]
    · rw [up2_j _ _ _ e, up2_j _ _ _ e]; exact m5 i hi
  · exact ukk (m6.1 b hb) (by decide) (by decide)
  · exact ukk (m6.2 p hp i hi) (by omega) (by decide)
theorem BG_10 {c : aI} {l : aL} {a p pu : Nat} {ci : aI} {cl : aL} (h : whF c l a = 0) (hM : MR c l ci cl) (h10 : c 44 a = 10) (hp : c 47 a = nI p) (h4 : p < 4) (hpu : c 58 p = nI pu) (h16 : pu < 16) : BG (c, l) a ci (up2 (up2 ci 18 10 (ci 18 10 + 1)) (26 + 2 * (2 * p + 1)) 1 (nI (pu + 1))) cl (up2 (up2 cl 25 a (nmF c l a)) (27 + 2 * (2 * p + 1)) pu (nmF c l a)) := by
  refine ⟨?_, (((MF.rf.i (Or.inl rfl)).i (by omega)).l (Or.inr (Or.inl rfl))).l (by omega)⟩
  rw [bgn_s h]
  simp only [(bg_e h).1, (bg_e h).2, if_pos h10, if_neg (by rw [h10]; decide : ¬ c 44 a = 1), if_neg (by rw [h10]; decide : ¬ c 44 a = 9)]
  rw [hp, nI_clamp (by omega), hpu, nI_clamp (by omega), nI_1]
  obtain ⟨⟨m1, m2, m3⟩, m4, m5, m6⟩ := MR_c1 (a := a) (v := nmF c l a) hM
  refine ⟨⟨?_, ?_, ?_⟩, fun q hq => ?_, fun i hi => ?_, fun b hb => ?_, fun q hq i hi => ?_⟩
  · exact ukk m1 (by omega) (by decide)
  · exact ukk m2 (by omega) (by decide)
  · exact ukk m3 (by omega) (by decide)
  · obtain ⟨n1, n2⟩ := m4 q hq
    refine ⟨ukk n1 (by omega) (by decide), ?_⟩
    by_cases e : q = p
    · subst e; exact uss rfl
    · rw [up2_k _ _ _ (by omega : 26 + 2 * (2 * q + 1) ≠ 26 + 2 * (2 * p + 1)), up2_j _ 58 _ e]; exact n2
  · exact ukk (m5 i hi) (by omega) (by decide)
  · exact ukk (m6.1 b hb) (by omega) (by decide)
  · by_cases e : q = p
    · subst e
      by_cases e2 : i = pu
      · subst e2; exact uss rfl
      · exact ukj (m6.2 q hq i hi) e2 (by omega)
    · rw [up2_k _ _ _ (by omega : 27 + 2 * (2 * q + 1) ≠ 27 + 2 * (2 * p + 1)), up2_j _ 59 _ (by omega : 16 * q + i ≠ 16 * p + pu)]; exact m6.2 q hq i hi
