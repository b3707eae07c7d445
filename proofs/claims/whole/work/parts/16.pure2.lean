abbrev mn (a b : Int64) : Int64 := if b ≤ a then b else a
abbrev mx (a b : Int64) : Int64 := if a ≤ b then b else a
/-- the SPAN of ACT a before it is held against WIDE (w = 2^(WIDTH - 1)), out of its operands' spans L, H; nu: the numbers of CONSTS -/
def spLo (ci : Nat → Nat → Int32) (nu L H : Nat → Int64) (a : Nat) (w : Int64) : Int64 :=
  if ci 44 a = 0 then nu a
  else if ci 44 a = 2 then L (ci 46 (3 * a)).toNatClampNeg + L (ci 46 (3 * a + 1)).toNatClampNeg
  else if ci 44 a = 3 then L (ci 46 (3 * a)).toNatClampNeg - H (ci 46 (3 * a + 1)).toNatClampNeg
  else if ci 44 a = 4 then mn (mn (L (ci 46 (3 * a)).toNatClampNeg * L (ci 46 (3 * a + 1)).toNatClampNeg) (L (ci 46 (3 * a)).toNatClampNeg * H (ci 46 (3 * a + 1)).toNatClampNeg)) (mn (H (ci 46 (3 * a)).toNatClampNeg * L (ci 46 (3 * a + 1)).toNatClampNeg) (H (ci 46 (3 * a)).toNatClampNeg * H (ci 46 (3 * a + 1)).toNatClampNeg))
  else if ci 44 a = 5 then -(mx (mx (L (ci 46 (3 * a)).toNatClampNeg) (-L (ci 46 (3 * a)).toNatClampNeg)) (mx (H (ci 46 (3 * a)).toNatClampNeg) (-H (ci 46 (3 * a)).toNatClampNeg)))
  else if ci 44 a = 6 then (if L (ci 46 (3 * a + 1)).toNatClampNeg ≤ H (ci 46 (3 * a)).toNatClampNeg then 0 else 1)
  else if ci 44 a = 7 then (if L (ci 46 (3 * a)).toNatClampNeg = 0 ∧ H (ci 46 (3 * a)).toNatClampNeg = 0 then L (ci 46 (3 * a + 2)).toNatClampNeg else if 0 < L (ci 46 (3 * a)).toNatClampNeg ∨ ¬ 0 ≤ H (ci 46 (3 * a)).toNatClampNeg then L (ci 46 (3 * a + 1)).toNatClampNeg else mn (L (ci 46 (3 * a + 1)).toNatClampNeg) (L (ci 46 (3 * a + 2)).toNatClampNeg))
  else if ci 44 a = 9 then L (ci 46 (3 * a + 1)).toNatClampNeg
  else if ci 44 a = 10 then L (ci 46 (3 * a)).toNatClampNeg
  else -w
def spHi (ci : Nat → Nat → Int32) (nu L H : Nat → Int64) (a : Nat) (w : Int64) : Int64 :=
  if ci 44 a = 0 then nu a
  else if ci 44 a = 2 then H (ci 46 (3 * a)).toNatClampNeg + H (ci 46 (3 * a + 1)).toNatClampNeg
  else if ci 44 a = 3 then H (ci 46 (3 * a)).toNatClampNeg - L (ci 46 (3 * a + 1)).toNatClampNeg
  else if ci 44 a = 4 then mx (mx (L (ci 46 (3 * a)).toNatClampNeg * L (ci 46 (3 * a + 1)).toNatClampNeg) (L (ci 46 (3 * a)).toNatClampNeg * H (ci 46 (3 * a + 1)).toNatClampNeg)) (mx (H (ci 46 (3 * a)).toNatClampNeg * L (ci 46 (3 * a + 1)).toNatClampNeg) (H (ci 46 (3 * a)).toNatClampNeg * H (ci 46 (3 * a + 1)).toNatClampNeg))
  else if ci 44 a = 5 then mx (mx (L (ci 46 (3 * a)).toNatClampNeg) (-L (ci 46 (3 * a)).toNatClampNeg)) (mx (H (ci 46 (3 * a)).toNatClampNeg) (-H (ci 46 (3 * a)).toNatClampNeg))
  else if ci 44 a = 6 then (if L (ci 46 (3 * a)).toNatClampNeg < H (ci 46 (3 * a + 1)).toNatClampNeg then 1 else 0)
  else if ci 44 a = 7 then (if L (ci 46 (3 * a)).toNatClampNeg = 0 ∧ H (ci 46 (3 * a)).toNatClampNeg = 0 then H (ci 46 (3 * a + 2)).toNatClampNeg else if 0 < L (ci 46 (3 * a)).toNatClampNeg ∨ ¬ 0 ≤ H (ci 46 (3 * a)).toNatClampNeg then H (ci 46 (3 * a + 1)).toNatClampNeg else mx (H (ci 46 (3 * a + 1)).toNatClampNeg) (H (ci 46 (3 * a + 2)).toNatClampNeg))
  else if ci 44 a = 9 then H (ci 46 (3 * a + 1)).toNatClampNeg
  else if ci 44 a = 10 then H (ci 46 (3 * a)).toNatClampNeg
  else w - 1
/-- the SPANS of the first n ACTS -/
def spT (ci : Nat → Nat → Int32) (nu : Nat → Int64) : Nat → (Nat → Int64) × (Nat → Int64)
  | 0 => (fun _ => 0, fun _ => 0)
  | a + 1 => (va_up (spT ci nu a).1 a (if ¬ spLo ci nu (spT ci nu a).1 (spT ci nu a).2 a (pw (ci 45 a)) < -pw (ci 45 a) ∧ ¬ pw (ci 45 a) ≤ spHi ci nu (spT ci nu a).1 (spT ci nu a).2 a (pw (ci 45 a)) then spLo ci nu (spT ci nu a).1 (spT ci nu a).2 a (pw (ci 45 a)) else -pw (ci 45 a)),
      va_up (spT ci nu a).2 a (if ¬ spLo ci nu (spT ci nu a).1 (spT ci nu a).2 a (pw (ci 45 a)) < -pw (ci 45 a) ∧ ¬ pw (ci 45 a) ≤ spHi ci nu (spT ci nu a).1 (spT ci nu a).2 a (pw (ci 45 a)) then spHi ci nu (spT ci nu a).1 (spT ci nu a).2 a (pw (ci 45 a)) else pw (ci 45 a) - 1))
def SL (ci : Nat → Nat → Int32) (nu : Nat → Int64) (i : Nat) : Int64 := (spT ci nu (i + 1)).1 i
def SH (ci : Nat → Nat → Int32) (nu : Nat → Int64) (i : Nat) : Int64 := (spT ci nu (i + 1)).2 i
theorem spT_at (ci : Nat → Nat → Int32) (nu : Nat → Int64) (i : Nat) : ∀ n, i < n → (spT ci nu n).1 i = SL ci nu i ∧ (spT ci nu n).2 i = SH ci nu i
  | 0, h => by omega
  | n + 1, h => by
    by_cases e : i = n
    · subst e; exact ⟨rfl, rfl⟩
    · have ih := spT_at ci nu i n (by omega)
      exact ⟨(va_up_ne _ _ e).trans ih.1, (va_up_ne _ _ e).trans ih.2⟩
theorem sp_congr {ci : Nat → Nat → Int32} {nu L H L' H' : Nat → Int64} {a : Nat} {w : Int64} (hw : WF ci a) (ha : a < 16) (hL : ∀ i, i < a → L' i = L i) (hH : ∀ i, i < a → H' i = H i) : spLo ci nu L' H' a w = spLo ci nu L H a w ∧ spHi ci nu L' H' a w = spHi ci nu L H a w := by
  have ex : ¬ ci 44 a = 0 → ¬ ci 44 a = 1 → (L' (ci 46 (3 * a)).toNatClampNeg = L (ci 46 (3 * a)).toNatClampNeg ∧ H' (ci 46 (3 * a)).toNatClampNeg = H (ci 46 (3 * a)).toNatClampNeg) := by
    intro h0 h1
    obtain ⟨x, hx, e⟩ := hw.x h0 h1
    rw [e, nI_clamp (by omega)]
    exact ⟨hL x hx, hH x hx⟩
  have ey : (ci 44 a = 2 ∨ ci 44 a = 3 ∨ ci 44 a = 4 ∨ ci 44 a = 5 ∨ ci 44 a = 6 ∨ ci 44 a = 7 ∨ ci 44 a = 9) → (L' (ci 46 (3 * a + 1)).toNatClampNeg = L (ci 46 (3 * a + 1)).toNatClampNeg ∧ H' (ci 46 (3 * a + 1)).toNatClampNeg = H (ci 46 (3 * a + 1)).toNatClampNeg) := by
    intro h0
    obtain ⟨x, hx, e⟩ := hw.y h0
    rw [e, nI_clamp (by omega)]
    exact ⟨hL x hx, hH x hx⟩
  have ez : ci 44 a = 7 → (L' (ci 46 (3 * a + 2)).toNatClampNeg = L (ci 46 (3 * a + 2)).toNatClampNeg ∧ H' (ci 46 (3 * a + 2)).toNatClampNeg = H (ci 46 (3 * a + 2)).toNatClampNeg) := by
    intro h0
    obtain ⟨x, hx, e⟩ := hw.z h0
    rw [e, nI_clamp (by omega)]
    exact ⟨hL x hx, hH x hx⟩
  by_cases h0 : ci 44 a = 0
  · simp only [spLo, spHi, h0, if_true, and_self]
  by_cases h1 : ci 44 a = 1
  · simp [spLo, spHi, h1]
  obtain ⟨ex1, ex2⟩ := ex h0 h1
  simp only [spLo, spHi, ex1, ex2]
  by_cases h2 : ci 44 a = 2 ∨ ci 44 a = 3 ∨ ci 44 a = 4 ∨ ci 44 a = 5 ∨ ci 44 a = 6 ∨ ci 44 a = 7 ∨ ci 44 a = 9
  · obtain ⟨ey1, ey2⟩ := ey h2
    simp only [ey1, ey2]
    by_cases h7 : ci 44 a = 7
    · obtain ⟨ez1, ez2⟩ := ez h7
      simp only [ez1, ez2, and_self]
    · simp only [h7, if_false, and_self]
  · have n2 : ¬ ci 44 a = 2 := fun e => h2 (Or.inl e)
    have n3 : ¬ ci 44 a = 3 := fun e => h2 (Or.inr (Or.inl e))
    have n4 : ¬ ci 44 a = 4 := fun e => h2 (Or.inr (Or.inr (Or.inl e)))
    have n5 : ¬ ci 44 a = 5 := fun e => h2 (Or.inr (Or.inr (Or.inr (Or.inl e))))
    have n6 : ¬ ci 44 a = 6 := fun e => h2 (Or.inr (Or.inr (Or.inr (Or.inr (Or.inl e)))))
    have n7 : ¬ ci 44 a = 7 := fun e => h2 (Or.inr (Or.inr (Or.inr (Or.inr (Or.inr (Or.inl e))))))
    have n9 : ¬ ci 44 a = 9 := fun e => h2 (Or.inr (Or.inr (Or.inr (Or.inr (Or.inr (Or.inr e))))))
    simp only [n2, n3, n4, n5, n6, n7, n9, if_false, and_self]
/-- the reference's SPANS of the first a ACTS stand in 61, 62; else only low and high (43) have changed -/
def FSI (ci : Nat → Nat → Int32) (cl cl' : Nat → Nat → Int64) (a : Nat) : Prop := (∀ k, ¬ k = 43 → ¬ k = 61 → ¬ k = 62 → cl' k = cl k) ∧ ∀ i, i < a → cl' 61 i = SL ci (cl 48) i ∧ cl' 62 i = SH ci (cl 48) i
theorem FSI_0 {ci : Nat → Nat → Int32} {cl : Nat → Nat → Int64} : FSI ci cl cl 0 := ⟨fun _ _ _ _ => rfl, fun i h => by omega⟩
theorem FSI_s {ci : Nat → Nat → Int32} {cl cl' cq : Nat → Nat → Int64} {a : Nat} {v1 v2 : Int64} (hw : WF ci a) (ha : a < 16) (hI : FSI ci cl cl' a) (q1 : cq 43 29 = spLo ci (cl' 48) (cl' 61) (cl' 62) a (pw (ci 45 a))) (q2 : cq 43 30 = spHi ci (cl' 48) (cl' 61) (cl' 62) a (pw (ci 45 a))) (q3 : ∀ k, ¬ k = 43 → cq k = cl' k)
    (hv : v1 = (if ¬ cq 43 29 < -pw (ci 45 a) ∧ ¬ pw (ci 45 a) ≤ cq 43 30 then cq 43 29 else -pw (ci 45 a)) ∧ v2 = (if ¬ cq 43 29 < -pw (ci 45 a) ∧ ¬ pw (ci 45 a) ≤ cq 43 30 then cq 43 30 else pw (ci 45 a) - 1)) : FSI ci cl (up2 (up2 cq 61 a v1) 62 a v2) (a + 1) := by
  obtain ⟨h1, h2⟩ := hI
  have e48 : cl' 48 = cl 48 := h1 48 (by decide) (by decide) (by decide)
  have ec := sp_congr (nu := cl 48) (L := (spT ci (cl 48) a).1) (H := (spT ci (cl 48) a).2) (L' := cl' 61) (H' := cl' 62) (w := pw (ci 45 a)) hw ha (fun i hi => (h2 i hi).1.trans (spT_at ci (cl 48) i a hi).1.symm) (fun i hi => (h2 i hi).2.trans (spT_at ci (cl 48) i a hi).2.symm)
  rw [e48, ec.1] at q1
  rw [e48, ec.2] at q2
  refine ⟨fun k k1 k2 k3 => ?_, fun i hi => ?_⟩
  · rw [up2_k _ _ _ k3, up2_k _ _ _ k2, q3 k k1]
    exact h1 k k1 k2 k3
  · by_cases e : i = a
    · subst e
      constructor
      · rw [up2_k _ _ _ (by decide), up2_s, hv.1, q1, q2]
        exact (va_up_self _ _ _).symm
      · rw [up2_s, hv.2, q1, q2]
        exact (va_up_self _ _ _).symm
    · constructor
      · rw [up2_k _ _ _ (by decide), up2_j _ _ _ e, q3 61 (by decide)]
        exact (h2 i (by omega)).1
      · rw [up2_j _ _ _ e, up2_k _ _ _ (by decide), q3 62 (by decide)]
        exact (h2 i (by omega)).2
