abbrev aL : Type := Nat → Nat → Int64
abbrev cutF (v : Int64) (w : Int32) : Int64 := v <<< ((64 - w).toInt64 &&& 63) >>> ((64 - w).toInt64 &&& 63)
/-- ACT a begins (c: begun is counted already): what is answered, the ints and the longs behind it -/
def bgR (c : aI) (l : aL) (a : Nat) : Int32 := if whF c l a ≤ 0 then 0 else whF c l a
def bgI (c : aI) (l : aL) (a : Nat) : aI :=
  if whF c l a ≤ 0 then (if c 44 a = 1 then up2 c 66 (c 47 a).toNatClampNeg (c 66 (c 47 a).toNatClampNeg + 1) else if c 44 a = 9 then c else if c 44 a = 10 then up2 c 58 (c 47 a).toNatClampNeg (c 58 (c 47 a).toNatClampNeg + 1) else c) else c
def bgL (c : aI) (l : aL) (a : Nat) : aL :=
  if whF c l a ≤ 0 then (if c 44 a = 1 then up2 l 65 a (cutF (gvF c l a) (c 45 a)) else if c 44 a = 9 then up2 (up2 l 65 a (cutF (gvF c l a) (c 45 a))) 60 (vA c (up2 l 65 a (cutF (gvF c l a) (c 45 a))) a 0).toInt32.toNatClampNeg (cutF (gvF c l a) (c 45 a)) else if c 44 a = 10 then up2 (up2 l 65 a (cutF (gvF c l a) (c 45 a))) 59 (16 * (c 47 a).toNatClampNeg + (c 58 (c 47 a).toNatClampNeg).toNatClampNeg) (cutF (gvF c l a) (c 45 a)) else up2 l 65 a (cutF (gvF c l a) (c 45 a))) else l
/-- what a run asks of the PORTS' counts before ACT a begins -/
def PRE (c : aI) (a : Nat) : Prop := (c 44 a = 1 → ∃ tk fd, c 66 (c 47 a).toNatClampNeg = nI tk ∧ c 52 (c 47 a).toNatClampNeg = nI fd ∧ tk ≤ fd ∧ fd ≤ 20) ∧ (c 44 a = 10 → ∃ pu, pu < 16 ∧ c 58 (c 47 a).toNatClampNeg = nI pu)
theorem wh_1 {c : aI} {l : aL} {a : Nat} (hp : PRE c a) (h : whF c l a ≤ 0) : ∃ tk, c 44 a = 1 → c 66 (c 47 a).toNatClampNeg = nI tk ∧ tk < 20 := by
  by_cases h1 : c 44 a = 1
  · obtain ⟨tk, fd, e1, e2, k1, k2⟩ := hp.1 h1
    refine ⟨tk, fun _ => ⟨e1, ?_⟩⟩
    rcases Nat.lt_or_ge tk fd with q | q
    · omega
    · exfalso
      have e : tk = fd := by omega
      rw [whF, if_pos h1, e1, e2, e, if_pos rfl] at h
      exact absurd h (by decide)
  · exact ⟨0, fun h => absurd h h1⟩
theorem wh_5 {c : aI} {l : aL} {a : Nat} (h : whF c l a ≤ 0) : c 44 a = 5 → ¬ vA c l a 1 = 0 := by
  intro h5 e
  rw [whF, if_neg (by rw [h5]; decide), if_pos h5, if_pos e] at h
  exact absurd h (by decide)
theorem l64_in {v : Int64} (h1 : ¬ v < 0) (h2 : ¬ 15 < v) : ∃ j, v = lN j ∧ j < 16 := by
  obtain ⟨k, hk, rfl⟩ := pk_lOf h1
  refine ⟨k, rfl, ?_⟩
  have : ¬ lN 15 < lN k := h2
  rw [pk_lLT (by decide) hk] at this
  omega
theorem wh_8 {c : aI} {l : aL} {a : Nat} (h : whF c l a ≤ 0) (h8 : c 44 a = 8 ∨ c 44 a = 9) : ∃ j, vA c l a 0 = lN j ∧ j < 16 := by
  rw [whF, if_neg (by rcases h8 with q | q <;> rw [q] <;> decide), if_neg (by rcases h8 with q | q <;> rw [q] <;> decide), if_pos h8] at h
  by_cases q : ¬ vA c l a 0 < 0 ∧ ¬ 15 < vA c l a 0
  · exact l64_in q.1 q.2
  · rw [if_neg q] at h
    exact absurd h (by decide)
theorem wh_8' {c : aI} {l : aL} {a : Nat} (h : whF c l a ≤ 0) : ∃ j, c 44 a = 8 → vA c l a 0 = lN j ∧ j < 16 := by
  by_cases h8 : c 44 a = 8
  · obtain ⟨j, hj⟩ := wh_8 h (Or.inl h8); exact ⟨j, fun _ => hj⟩
  · exact ⟨0, fun h => absurd h h8⟩
theorem vA_up {c : aI} {l : aL} {a x w : Nat} {v : Int64} (hx : c 46 (3 * a + w) = nI x) (h : x < a) (ha : a < 16) : vA c (up2 l 65 a v) a w = vA c l a w := by
  unfold vA
  rw [hx, nI_clamp (by omega), up2_j _ _ _ (by omega)]
